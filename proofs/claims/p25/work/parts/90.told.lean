/-! what the script tells -/
section TO
variable {p : Program} {l : Launch} {e : Env} {R : Room} {s : State} {m : MethodId} {args : Array Value} {below : List Frame} {meth : Method} {c : Code} {H : Heap} {locs : List Loc} {cells slots : Nat} {Q : State → Prop}
variable {cc : ByteArray} {pc : Nat} {ls : Array Slot} {rest : List Value} {A : Nat → Prop} {H0 : Heap}
theorem ld_s (hx : p.tables.exec = Jvm.exec) (hb : c.code = cc) {b L : Nat} {xs : Nat → Int32} (hX : va_X b L xs s H0) (hbl : b < H0.size) (hbA : ¬ A b) (hS : va_S A H0 H locs) {k : Nat} (hk : k < L) (hL : L < 2 ^ 31) (hdg : decode cc pc = .ok (.iaload, 1))
    (kk : W p l e R s m args below meth c H locs cells slots Q (F0 m (pc + 1) ls (.int (xs k) :: rest))) : W p l e R s m args below meth c H locs cells slots Q (F0 m pc ls (.int (nI k) :: .ref b :: rest)) := by
  refine va_sld hx hb hX hbl hbA hS (vp_in_nI hk hL) hdg ?_
  rw [nI_clamp (by omega)]; exact kk
end TO
def toP (b L : Nat) (xs : Nat → Int32) (U : State) : Prop := va_X b L xs U U.heap ∧ b < U.heap.size
theorem to_blind {b L : Nat} {xs : Nat → Int32} {av : List Value} : FrameBlind (va_Pc av (toP b L xs)) := by
  intro a U g mk h
  exact ⟨h.1, va_X.moved (u := U) (U := U.calling g mk a) (Vm.Alike.refl U.vm) h.2.1, h.2.2⟩
set_option maxHeartbeats 1600000 in
set_option maxRecDepth 100000 in
theorem kl_told (l : Launch) (b L : Nat) (xs : Nat → Int32) (k : Nat) (hk : k < 100) (hL : L ≤ 260) : Met l yL_told wsL_told (rmr 0 0) (va_Pc [.ref b, .int (nI k)] (toP b L xs)) (vp_Si (fun r => ∃ v, v < 2 ^ 31 ∧ r = nI v)) 0 0 (fun _ => False) := by
  refine Met.ofW (cc := cL_told) (maxL := 2) (ret := (some .int)) (by decide) rfl ?_
  intro p e s m args below meth c s₁ B hml hv
  obtain ⟨hargs, hX, hbl⟩ := hv
  have hx := B.exec
  have hb := B.bytes
  have hr := B.returns
  have hts := atoms_spec (ws := wsL_told) B.pre
  have hown : s.vm.findClass RL = some m.cls := findClass_of_methodNamed B.named
  have hen : entryFrame m args 2 = entryFrame m ([.ref b, .int (nI k)] : List Value).toArray 2 := by rw [hargs]
  rw [hen]
  have hl := lv_entry ([.ref b, .int (nI k)]) (n := 2) (Nat.le_of_ble_eq_true rfl)
  rw [lg_entry_eq]
  generalize (lg_sl ([.ref b, .int (nI k)]) ++ List.replicate (2 - (lg_sl ([.ref b, .int (nI k)])).length) Slot.unset).toArray = ls at hl ⊢
  have hl : lv_has ls 2 [(0, .ref b), (1, .int (nI k))] := hl
  have hS : va_S (fun _ => False) s.heap s.heap [] := va_S.rf
  generalize hQ : MQ below (vp_Si (fun r => ∃ v, v < 2 ^ 31 ∧ r = nI v)) args s 0 0 (fun _ => False) = Q
  have J23 : ∀ E9 : Int32, W p l e (headSpec wsL_told (rmr 0 0)).room s m args below meth c s.heap [] 0 0 Q (F0 m 23 ls [.int E9]) := by
    intro E9
    refine lv_ldc (v := 2147483647) hx hb hown (hts _ (List.mem_of_getElem? (i := 2) rfl)) dL_told_23 ?_
    refine lv_iand hx hb dL_told_25 ?_
    subst hQ
    exact W.iret (v := E9 &&& 2147483647) hx hb hr (fun t ht _ => ⟨_, rfl, pk_andE E9 31 (by decide +kernel), ht⟩) (fun _ h => absurd h List.not_mem_nil) dL_told_26
  refine lv_iload_n hx hb dL_told_0 rfl (lv_at hl 1 rfl) ?_
  refine lv_aload_n hx hb dL_told_1 rfl (lv_at hl 0 rfl) ?_
  refine va_slen hx hb hX hbl (fun h => h) hS dL_told_2 ?_
  refine lv_icmp_ge (tgt := 12) hx hb dL_told_3 (by decide) (fun _ => ?_) (fun c_3 => ?_)
  · refine lv_ldc (v := 46021) hx hb hown (hts _ (List.mem_of_getElem? (i := 1) rfl)) dL_told_12 ?_
    refine lv_iload_n hx hb dL_told_14 rfl (lv_at hl 1 rfl) ?_
    refine lv_iconst (v := 3) hx hb dL_told_15 (by decide) ?_
    refine lv_iadd hx hb dL_told_16 ?_
    refine lv_imul hx hb dL_told_17 ?_
    refine lv_iload_n hx hb dL_told_18 rfl (lv_at hl 1 rfl) ?_
    refine lv_bipush (v := 8) hx hb dL_told_19 (by decide) ?_
    refine lv_iadd hx hb dL_told_21 ?_
    refine lv_imul hx hb dL_told_22 ?_
    exact J23 _
  · have hkL : k < L := by
      rcases Nat.lt_or_ge k L with h | h
      · exact h
      · exact absurd (show Int32.ofNat L ≤ nI k from nI_le h (by omega)) c_3
    refine lv_aload_n hx hb dL_told_6 rfl (lv_at hl 0 rfl) ?_
    refine lv_iload_n hx hb dL_told_7 rfl (lv_at hl 1 rfl) ?_
    refine ld_s (k := k) hx hb hX hbl (fun h => h) hS hkL (by omega) dL_told_8 ?_
    refine lv_goto (tgt := 23) hx hb dL_told_9 (by decide) ?_
    exact J23 _
