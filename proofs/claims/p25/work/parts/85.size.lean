set_option maxHeartbeats 800000 in
set_option maxRecDepth 100000 in
theorem k_L_size (l : Launch) (x0 : Int32) : Met l yL_size wsL_size (rmr 0 0) (va_Pc [.int x0] (fun _ => True)) (vp_Si (fun r => r = sizeI x0 8)) 0 0 (fun _ => False) := by
  refine Met.ofW (cc := cL_size) (maxL := 3) (ret := (some .int)) (by decide) rfl ?_
  intro p e s m args below meth c s₁ B hml hv
  obtain ⟨hargs, -⟩ := hv
  have hx := B.exec
  have hb := B.bytes
  have hr := B.returns
  have hts := atoms_spec (ws := wsL_size) B.pre
  have hown : s.vm.findClass RL = some m.cls := findClass_of_methodNamed B.named
  have hlocks := B.notSynchronized
  have hen : entryFrame m args 3 = entryFrame m ([.int x0] : List Value).toArray 3 := by rw [hargs]
  rw [hen]
  have hl := lv_entry ([.int x0]) (n := 3) (Nat.le_of_ble_eq_true rfl)
  rw [lg_entry_eq]
  generalize (lg_sl ([.int x0]) ++ List.replicate (3 - (lg_sl ([.int x0])).length) Slot.unset).toArray = ls at hl ⊢
  have hl : lv_has ls 3 [(0, .int x0)] := hl
  generalize hQ : MQ below (vp_Si (fun r => r = sizeI x0 8)) args s 0 0 (fun _ => False) = Q
  refine lv_iconst (v := 0) hx hb dL_size_0 (by decide) ?_
  refine lv_istore_n (lv' := [(1, .int 0), (0, .int x0)]) hx hb dL_size_1 rfl hl (by decide) rfl (fun ls hl => ?_)
  refine lv_iconst (v := 0) hx hb dL_size_2 (by decide) ?_
  refine lv_istore_n (lv' := [(2, .int 0), (1, .int 0), (0, .int x0)]) hx hb dL_size_3 rfl hl (by decide) rfl (fun ls hl => ?_)
  have L_4 : ∀ fz i : Nat, i ≤ 8 → 8 - i < fz → ∀ (v1 : Int32), v1 = (sizeI x0 i) → ∀ ls : Array Slot, lv_has ls 3 [(0, .int x0), (2, .int (nI i)), (1, .int v1)] → W p l e (headSpec wsL_size (rmr 0 0)).room s m args below meth c s.heap [] 0 0 Q (F0 m 4 ls []) := by
    intro fz
    induction fz with
    | zero => intro i _ h; exact absurd h (Nat.not_lt_zero _)
    | succ fz ih_4 =>
      intro i hi_4 hn_4 v1 ev1 ls hl
      subst ev1
      rcases Nat.lt_or_ge i 8 with h_i | h_i
      ·
        refine lv_iload_n hx hb dL_size_4 rfl (lv_at hl 1 rfl) ?_
        refine lv_bipush (v := 8) hx hb dL_size_5 (by decide) ?_
        refine lv_icmp_ge (tgt := 24) hx hb dL_size_7 (by decide) (fun c_7 => absurd c_7 (lt_no h_i (by decide))) (fun c_7 => ?_)
        refine lv_iload_n hx hb dL_size_10 rfl (lv_at hl 2 rfl) ?_
        refine lv_iload_n hx hb dL_size_11 rfl (lv_at hl 0 rfl) ?_
        refine lv_iload_n hx hb dL_size_12 rfl (lv_at hl 1 rfl) ?_
        refine lv_ishr hx hb dL_size_13 ?_
        refine lv_iconst (v := 1) hx hb dL_size_14 (by decide) ?_
        refine lv_iand hx hb dL_size_15 ?_
        refine lv_iadd hx hb dL_size_16 ?_
        refine lv_istore_n (lv' := [(1, .int ((sizeI x0 i) + ((x0 >>> ((nI i) &&& 31)) &&& 1))), (0, .int x0), (2, .int (nI i))]) hx hb dL_size_17 rfl hl (by decide) rfl (fun ls hl => ?_)
        refine lv_iinc (v := nI (i + 1)) (lv' := [(2, .int (nI (i + 1))), (1, .int ((sizeI x0 i) + ((x0 >>> ((nI i) &&& 31)) &&& 1))), (0, .int x0)]) hx hb dL_size_18 hl (k := 2) rfl (by exact iinc_n _) (by decide) rfl (fun ls hl => ?_)
        refine lv_goto (tgt := 4) hx hb dL_size_21 (by decide) ?_
        exact ih_4 (i + 1) (by omega) (by omega) _ (by rfl) ls (lv_sub hl [2, 0, 1] rfl)
      ·
        obtain rfl : 8 = i := by omega
        refine lv_iload_n hx hb dL_size_4 rfl (lv_at hl 1 rfl) ?_
        refine lv_bipush (v := 8) hx hb dL_size_5 (by decide) ?_
        refine lv_icmp_ge (tgt := 24) hx hb dL_size_7 (by decide) (fun c_7 => ?_) (fun c_7 => absurd (lt_yes h_i (by decide)) c_7)
        refine lv_iload_n hx hb dL_size_24 rfl (lv_at hl 2 rfl) ?_
        subst hQ
        exact W.iret (v := sizeI x0 8) hx hb hr (fun t ht _ => ⟨_, rfl, (by rfl), ht⟩) (fun _ h => absurd h List.not_mem_nil) dL_size_25
  exact L_4 (8 + 1) 0 (by omega) (by omega) _ (by rfl) ls (lv_sub hl [2, 0, 1] rfl)
