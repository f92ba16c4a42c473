set_option maxHeartbeats 1600000 in
set_option maxRecDepth 100000 in
theorem kl_does (l : Launch) (D : va_G) (cI cZ cO : ClassId) {A : Nat → Prop} {x0 e0 z mi : Nat} {F : Nat → Nat → Int32} {ik kp tu : Nat → Int32} {n : Nat} (hokL : okL F ik kp tu n) (hAz : ∀ q, z ≤ q → A q) (hne : ¬ A e0) (v w e9 : Nat) (hv : v < 2 ^ 31) (hw : w < 2 ^ 31) (he9 : e9 < 55) : XE l yL_does wsL_does ({ frames := 9, cells := 4, slots := 40, locals := 310 }) D cI cZ cO A x0 e0 z mi [.ref x0, .int (nI v), .int (nI w), .int (nI e9)] F ik kp tu n 4 40 := by
  unfold XE
  refine Met.ofW (cc := cL_does) (maxL := 8) (ret := (some .boolean)) (by decide) rfl ?_
  intro p e s m args below meth c s₁ B hml hv0
  obtain ⟨hargs, hC, hE⟩ := hv0
  have hx := B.exec
  have hb := B.bytes
  have hr := B.returns
  have hts := atoms_spec (ws := wsL_does) B.pre
  have hown : s.vm.findClass RL = some m.cls := findClass_of_methodNamed B.named
  have hen : entryFrame m args 8 = entryFrame m ([.ref x0, .int (nI v), .int (nI w), .int (nI e9)] : List Value).toArray 8 := by rw [hargs]
  rw [hen]
  have hl := lv_entry ([.ref x0, .int (nI v), .int (nI w), .int (nI e9)]) (n := 8) (Nat.le_of_ble_eq_true rfl)
  rw [lg_entry_eq]
  generalize (lg_sl ([.ref x0, .int (nI v), .int (nI w), .int (nI e9)]) ++ List.replicate (8 - (lg_sl ([.ref x0, .int (nI v), .int (nI w), .int (nI e9)])).length) Slot.unset).toArray = ls at hl ⊢
  have hl : lv_has ls 8 [(0, .ref x0), (1, .int (nI v)), (2, .int (nI w)), (3, .int (nI e9))] := hl
  have hS : va_S A s.heap s.heap [] := va_S.rf
  have hok := hokL.1
  have hn20 := hok.1.2.1
  have hf : v / 10 % n < n := Nat.mod_lt _ (by omega)
  have hww := hw
  have go : ∀ (H : Heap) (locs : List Loc), CX D cI cO A x0 e0 F ik kp tu n H → va_S A s.heap H locs → W p l e (headSpec wsL_does ({ frames := 9, cells := 4, slots := 40, locals := 310 })).room s m args below meth c H locs (0) (0) (MQ below (va_Qi (fun (r : Int32) (_ : Unit) => r = 1) (fun _ t => OX D cI cO A x0 e0 t.heap) A) args s 4 40 A) (F0 m 0 ls []) := by
    intro H locs hC hS
    refine lv_iload_n hx hb dL_does_0 rfl (lv_at hl 1 rfl) ?_
    refine lv_bipush (v := 10) hx hb dL_does_1 (by decide) ?_
    refine top_eq (y := nI 10) (rfl) ?_
    refine idiv_n (x := v) (y := 10) (by omega) (by omega) (by omega) hx hb dL_does_3 ?_
    refine lv_aload_n hx hb dL_does_4 rfl (lv_at hl 0 rfl) ?_
    refine va_calli (va_runV (As := []) (rest := [.int (nI (v / 10))]) ⟨hx, hb, hml, hown, hts⟩ (xc_folders l D cI cZ cO (F := F) (ik := ik) (kp := kp) (tu := tu) (n := n) (A := A) (x0 := x0) (e0 := e0) (z := z) (mi := mi) hok  ) (cwV 0 hts gL_does_X4_folders rfl rfl rfl (by decide +kernel) ⟨Nat.le_of_ble_eq_true rfl, Nat.le_of_ble_eq_true rfl⟩) ⟨LW.blind, hC.recv hE.1, fun U hU hW => ⟨rfl, LW.mk2 hE hS hC U hU hW⟩⟩ rfl rfl hl.1 rfl (lv_room (Nat.le_of_ble_eq_true rfl)) dL_does_5 ⟨Nat.le_of_ble_eq_true rfl, Nat.le_of_ble_eq_true rfl⟩) hS (fun q _ h => h) (fun q h => h) (fun r u t H locs ht hvm hw hC hz1 hk1 hS => ?_)
    rw [ht] at hC
    subst hw
    refine irem_n (x := v / 10) (y := n) (by omega) (by omega) (by omega) hx hb dL_does_8 ?_
    refine lv_istore (lv' := [(4, .int (nI ((v / 10) % n))), (0, .ref x0), (1, .int (nI v)), (2, .int (nI w)), (3, .int (nI e9))]) hx hb dL_does_9 hl (by decide) rfl (fun ls hl => ?_)
    refine lv_iload_n hx hb dL_does_11 rfl (lv_at hl 2 rfl) ?_
    refine lv_bipush (v := 10) hx hb dL_does_12 (by decide) ?_
    refine top_eq (y := nI 10) (rfl) ?_
    refine irem_n (x := v) (y := 10) (by omega) (by omega) (by omega) hx hb dL_does_14 ?_
    rcases (show v % 10 = 0 ∨ v % 10 = 1 ∨ v % 10 = 2 ∨ v % 10 = 3 ∨ v % 10 = 4 ∨ v % 10 = 5 ∨ v % 10 = 6 ∨ v % 10 = 7 ∨ v % 10 = 8 ∨ v % 10 = 9 by omega) with h10 | h10 | h10 | h10 | h10 | h10 | h10 | h10 | h10 | h10
    · rw [h10]
      refine lv_tableIn (off := 41) (tgt := 56) hx hb dL_does_15 (by decide) (by decide) (by decide +kernel) (by decide) ?_
      exact ld_0 hx hb hr B.notSynchronized hml hown hts hE hAz hne hokL hv hww he9 hf hC hS hl
    · rw [h10]
      refine lv_tableIn (off := 75) (tgt := 90) hx hb dL_does_15 (by decide) (by decide) (by decide +kernel) (by decide) ?_
      exact ld_1 hx hb hr B.notSynchronized hml hown hts hE hAz hne hokL hv hww he9 hf hC hS hl
    · rw [h10]
      refine lv_tableIn (off := 75) (tgt := 90) hx hb dL_does_15 (by decide) (by decide) (by decide +kernel) (by decide) ?_
      exact ld_1 hx hb hr B.notSynchronized hml hown hts hE hAz hne hokL hv hww he9 hf hC hS hl
    · rw [h10]
      refine lv_tableIn (off := 159) (tgt := 174) hx hb dL_does_15 (by decide) (by decide) (by decide +kernel) (by decide) ?_
      exact ld_3 hx hb hr B.notSynchronized hml hown hts hE hAz hne hokL hv hww he9 hf hC hS hl
    · rw [h10]
      refine lv_tableIn (off := 228) (tgt := 243) hx hb dL_does_15 (by decide) (by decide) (by decide +kernel) (by decide) ?_
      exact ld_4 hx hb hr B.notSynchronized hml hown hts hE hAz hne hokL hv hww he9 hf hC hS hl
    · rw [h10]
      refine lv_tableIn (off := 283) (tgt := 298) hx hb dL_does_15 (by decide) (by decide) (by decide +kernel) (by decide) ?_
      exact ld_5 hx hb hr B.notSynchronized hml hown hts hE hAz hne hokL hv hww he9 hf hC hS hl
    · rw [h10]
      refine lv_tableIn (off := 338) (tgt := 353) hx hb dL_does_15 (by decide) (by decide) (by decide +kernel) (by decide) ?_
      exact ld_6 hx hb hr B.notSynchronized hml hown hts hE hAz hne hokL hv hww he9 hf hC hS hl
    · rw [h10]
      refine lv_tableOut (tgt := 374) hx hb dL_does_15 (Or.inr (by decide)) (by decide) ?_
      exact ld_7 hx hb hr B.notSynchronized hml hown hts hE hAz hne hokL hv hww he9 hf hC hS hl
    · rw [h10]
      refine lv_tableOut (tgt := 374) hx hb dL_does_15 (Or.inr (by decide)) (by decide) ?_
      exact ld_7 hx hb hr B.notSynchronized hml hown hts hE hAz hne hokL hv hww he9 hf hC hS hl
    · rw [h10]
      refine lv_tableOut (tgt := 374) hx hb dL_does_15 (Or.inr (by decide)) (by decide) ?_
      exact ld_7 hx hb hr B.notSynchronized hml hown hts hE hAz hne hokL hv hww he9 hf hC hS hl
  exact go _ _ hC hS
