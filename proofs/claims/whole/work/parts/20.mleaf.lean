set_option maxHeartbeats 800000 in
set_option maxRecDepth 100000 in
theorem k_X5_has (l : Launch) (x0 : Int32) (x1 : Int32) : Met l yX5_has wsX5_has (rmr 0 0) (va_Pc [.int x0, .int x1] (fun _ => True)) (vp_Si (fun r => r = b2i (hasB x0 x1))) 0 0 (fun _ => False) := by
  refine Met.ofW (cc := cX5_has) (maxL := 2) (ret := (some .boolean)) (by decide) rfl ?_
  intro p e s m args below meth c s₁ B hml hv
  obtain ⟨hargs, -⟩ := hv
  have hx := B.exec
  have hb := B.bytes
  have hr := B.returns
  have hts := atoms_spec (ws := wsX5_has) B.pre
  have hown : s.vm.findClass RX5 = some m.cls := findClass_of_methodNamed B.named
  have hlocks := B.notSynchronized
  have hen : entryFrame m args 2 = entryFrame m ([.int x0, .int x1] : List Value).toArray 2 := by rw [hargs]
  rw [hen]
  have hl := lv_entry ([.int x0, .int x1]) (n := 2) (Nat.le_of_ble_eq_true rfl)
  rw [lg_entry_eq]
  generalize (lg_sl ([.int x0, .int x1]) ++ List.replicate (2 - (lg_sl ([.int x0, .int x1])).length) Slot.unset).toArray = ls at hl ⊢
  have hl : lv_has ls 2 [(0, .int x0), (1, .int x1)] := hl
  generalize hQ : MQ below (vp_Si (fun r => r = b2i (hasB x0 x1))) args s 0 0 (fun _ => False) = Q
  refine lv_iload_n hx hb dX5_has_0 rfl (lv_at hl 0 rfl) ?_
  refine lv_iload_n hx hb dX5_has_1 rfl (lv_at hl 1 rfl) ?_
  refine lv_ishr hx hb dX5_has_2 ?_
  refine lv_iconst (v := 1) hx hb dX5_has_3 (by decide) ?_
  refine lv_iand hx hb dX5_has_4 ?_
  refine lv_iconst (v := 1) hx hb dX5_has_5 (by decide) ?_
  have J_14 : ∀ (z0 : Int32), z0 = (if ((x0 >>> (x1 &&& 31)) &&& 1) = 1 then 1 else 0) → ∀ ls : Array Slot, lv_has ls 2 [(0, .int x0), (1, .int x1)] → W p l e (headSpec wsX5_has (rmr 0 0)).room s m args below meth c s.heap [] 0 0 Q (F0 m 14 ls [.int z0]) := by
    intro z0 ez0 ls hl
    subst ez0
    subst hQ
    have hrt : (if ((x0 >>> (x1 &&& 31)) &&& 1) = 1 then 1 else 0 : Int32) = b2i (hasB x0 x1) := by simp only [b2i, hasB, decide_eq_true_eq]
    exact W.zret (v := if ((x0 >>> (x1 &&& 31)) &&& 1) = 1 then 1 else 0) hx hb hr (by rw [hrt]; exact nar_b2i _) (fun t ht _ => ⟨_, rfl, hrt, ht⟩) (fun _ h => absurd h List.not_mem_nil) dX5_has_14
  refine lv_icmp_ne (tgt := 13) hx hb dX5_has_6 (by decide) (fun c_6 => ?_) (fun c_6 => ?_)
  ·
    refine lv_iconst (v := 0) hx hb dX5_has_13 (by decide) ?_
    exact J_14 _ ((if_neg c_6).symm) ls (lv_sub hl [0, 1] rfl)
  ·
    refine lv_iconst (v := 1) hx hb dX5_has_9 (by decide) ?_
    refine lv_goto (tgt := 14) hx hb dX5_has_10 (by decide) ?_
    exact J_14 _ ((if_pos c_6).symm) ls (lv_sub hl [0, 1] rfl)

set_option maxHeartbeats 800000 in
set_option maxRecDepth 100000 in
theorem k_X5_in (l : Launch) (x0 : Int32) (x1 : Int32) (x2 : Int32) : Met l yX5_in wsX5_in (rmr 0 0) (va_Pc [.int x0, .int x1, .int x2] (fun _ => True)) (vp_Si (fun r => r = b2i (inB x0 x1 x2))) 0 0 (fun _ => False) := by
  refine Met.ofW (cc := cX5_in) (maxL := 3) (ret := (some .boolean)) (by decide) rfl ?_
  intro p e s m args below meth c s₁ B hml hv
  obtain ⟨hargs, -⟩ := hv
  have hx := B.exec
  have hb := B.bytes
  have hr := B.returns
  have hts := atoms_spec (ws := wsX5_in) B.pre
  have hown : s.vm.findClass RX5 = some m.cls := findClass_of_methodNamed B.named
  have hlocks := B.notSynchronized
  have hen : entryFrame m args 3 = entryFrame m ([.int x0, .int x1, .int x2] : List Value).toArray 3 := by rw [hargs]
  rw [hen]
  have hl := lv_entry ([.int x0, .int x1, .int x2]) (n := 3) (Nat.le_of_ble_eq_true rfl)
  rw [lg_entry_eq]
  generalize (lg_sl ([.int x0, .int x1, .int x2]) ++ List.replicate (3 - (lg_sl ([.int x0, .int x1, .int x2])).length) Slot.unset).toArray = ls at hl ⊢
  have hl : lv_has ls 3 [(0, .int x0), (1, .int x1), (2, .int x2)] := hl
  generalize hQ : MQ below (vp_Si (fun r => r = b2i (inB x0 x1 x2))) args s 0 0 (fun _ => False) = Q
  refine lv_iload_n hx hb dX5_in_0 rfl (lv_at hl 0 rfl) ?_
  refine lv_iload_n hx hb dX5_in_1 rfl (lv_at hl 1 rfl) ?_
  have J_15 : ∀ (z0 : Int32), z0 = (if x0 < x1 then 0 else if x2 < x0 then 0 else 1) → ∀ ls : Array Slot, lv_has ls 3 [(0, .int x0), (1, .int x1), (2, .int x2)] → W p l e (headSpec wsX5_in (rmr 0 0)).room s m args below meth c s.heap [] 0 0 Q (F0 m 15 ls [.int z0]) := by
    intro z0 ez0 ls hl
    subst ez0
    subst hQ
    have hrt : (if x0 < x1 then 0 else if x2 < x0 then 0 else 1 : Int32) = b2i (inB x0 x1 x2) := by exact inB_if _ _ _
    exact W.zret (v := if x0 < x1 then 0 else if x2 < x0 then 0 else 1) hx hb hr (by rw [hrt]; exact nar_b2i _) (fun t ht _ => ⟨_, rfl, hrt, ht⟩) (fun _ h => absurd h List.not_mem_nil) dX5_in_15
  refine lv_icmp_lt (tgt := 14) hx hb dX5_in_2 (by decide) (fun c_2 => ?_) (fun c_2 => ?_)
  ·
    refine lv_iconst (v := 0) hx hb dX5_in_14 (by decide) ?_
    exact J_15 _ ((if_pos c_2).symm) ls (lv_sub hl [0, 1, 2] rfl)
  ·
    refine lv_iload_n hx hb dX5_in_5 rfl (lv_at hl 0 rfl) ?_
    refine lv_iload_n hx hb dX5_in_6 rfl (lv_at hl 2 rfl) ?_
    refine lv_icmp_gt (tgt := 14) hx hb dX5_in_7 (by decide) (fun c_7 => ?_) (fun c_7 => ?_)
    ·
      refine lv_iconst (v := 0) hx hb dX5_in_14 (by decide) ?_
      exact J_15 _ (((if_neg c_2).trans (if_pos c_7)).symm) ls (lv_sub hl [0, 1, 2] rfl)
    ·
      refine lv_iconst (v := 1) hx hb dX5_in_10 (by decide) ?_
      refine lv_goto (tgt := 15) hx hb dX5_in_11 (by decide) ?_
      exact J_15 _ (((if_neg c_2).trans (if_neg c_7)).symm) ls (lv_sub hl [0, 1, 2] rfl)

set_option maxHeartbeats 800000 in
set_option maxRecDepth 100000 in
theorem k_X5_size (l : Launch) (x0 : Int32) : Met l yX5_size wsX5_size (rmr 0 0) (va_Pc [.int x0] (fun _ => True)) (vp_Si (fun r => r = sizeI x0 8)) 0 0 (fun _ => False) := by
  refine Met.ofW (cc := cX5_size) (maxL := 3) (ret := (some .int)) (by decide) rfl ?_
  intro p e s m args below meth c s₁ B hml hv
  obtain ⟨hargs, -⟩ := hv
  have hx := B.exec
  have hb := B.bytes
  have hr := B.returns
  have hts := atoms_spec (ws := wsX5_size) B.pre
  have hown : s.vm.findClass RX5 = some m.cls := findClass_of_methodNamed B.named
  have hlocks := B.notSynchronized
  have hen : entryFrame m args 3 = entryFrame m ([.int x0] : List Value).toArray 3 := by rw [hargs]
  rw [hen]
  have hl := lv_entry ([.int x0]) (n := 3) (Nat.le_of_ble_eq_true rfl)
  rw [lg_entry_eq]
  generalize (lg_sl ([.int x0]) ++ List.replicate (3 - (lg_sl ([.int x0])).length) Slot.unset).toArray = ls at hl ⊢
  have hl : lv_has ls 3 [(0, .int x0)] := hl
  generalize hQ : MQ below (vp_Si (fun r => r = sizeI x0 8)) args s 0 0 (fun _ => False) = Q
  refine lv_iconst (v := 0) hx hb dX5_size_0 (by decide) ?_
  refine lv_istore_n (lv' := [(1, .int 0), (0, .int x0)]) hx hb dX5_size_1 rfl hl (by decide) rfl (fun ls hl => ?_)
  refine lv_iconst (v := 0) hx hb dX5_size_2 (by decide) ?_
  refine lv_istore_n (lv' := [(2, .int 0), (1, .int 0), (0, .int x0)]) hx hb dX5_size_3 rfl hl (by decide) rfl (fun ls hl => ?_)
  have L_4 : ∀ fz i : Nat, i ≤ 8 → 8 - i < fz → ∀ (v1 : Int32), v1 = (sizeI x0 i) → ∀ ls : Array Slot, lv_has ls 3 [(0, .int x0), (2, .int (nI i)), (1, .int v1)] → W p l e (headSpec wsX5_size (rmr 0 0)).room s m args below meth c s.heap [] 0 0 Q (F0 m 4 ls []) := by
    intro fz
    induction fz with
    | zero => intro i _ h; exact absurd h (Nat.not_lt_zero _)
    | succ fz ih_4 =>
      intro i hi_4 hn_4 v1 ev1 ls hl
      subst ev1
      rcases Nat.lt_or_ge i 8 with h_i | h_i
      ·
        refine lv_iload_n hx hb dX5_size_4 rfl (lv_at hl 1 rfl) ?_
        refine lv_bipush (v := 8) hx hb dX5_size_5 (by decide) ?_
        refine lv_icmp_ge (tgt := 24) hx hb dX5_size_7 (by decide) (fun c_7 => absurd c_7 (lt_no h_i (by decide))) (fun c_7 => ?_)
        refine lv_iload_n hx hb dX5_size_10 rfl (lv_at hl 2 rfl) ?_
        refine lv_iload_n hx hb dX5_size_11 rfl (lv_at hl 0 rfl) ?_
        refine lv_iload_n hx hb dX5_size_12 rfl (lv_at hl 1 rfl) ?_
        refine lv_ishr hx hb dX5_size_13 ?_
        refine lv_iconst (v := 1) hx hb dX5_size_14 (by decide) ?_
        refine lv_iand hx hb dX5_size_15 ?_
        refine lv_iadd hx hb dX5_size_16 ?_
        refine lv_istore_n (lv' := [(1, .int ((sizeI x0 i) + ((x0 >>> ((nI i) &&& 31)) &&& 1))), (0, .int x0), (2, .int (nI i))]) hx hb dX5_size_17 rfl hl (by decide) rfl (fun ls hl => ?_)
        refine lv_iinc (v := nI (i + 1)) (lv' := [(2, .int (nI (i + 1))), (1, .int ((sizeI x0 i) + ((x0 >>> ((nI i) &&& 31)) &&& 1))), (0, .int x0)]) hx hb dX5_size_18 hl (k := 2) rfl (by exact iinc_n _) (by decide) rfl (fun ls hl => ?_)
        refine lv_goto (tgt := 4) hx hb dX5_size_21 (by decide) ?_
        exact ih_4 (i + 1) (by omega) (by omega) _ (by rfl) ls (lv_sub hl [2, 0, 1] rfl)
      ·
        obtain rfl : 8 = i := by omega
        refine lv_iload_n hx hb dX5_size_4 rfl (lv_at hl 1 rfl) ?_
        refine lv_bipush (v := 8) hx hb dX5_size_5 (by decide) ?_
        refine lv_icmp_ge (tgt := 24) hx hb dX5_size_7 (by decide) (fun c_7 => ?_) (fun c_7 => absurd (lt_yes h_i (by decide)) c_7)
        refine lv_iload_n hx hb dX5_size_24 rfl (lv_at hl 2 rfl) ?_
        subst hQ
        exact W.iret (v := sizeI x0 8) hx hb hr (fun t ht _ => ⟨_, rfl, (by rfl), ht⟩) (fun _ h => absurd h List.not_mem_nil) dX5_size_25
  exact L_4 (8 + 1) 0 (by omega) (by omega) _ (by rfl) ls (lv_sub hl [2, 0, 1] rfl)

set_option maxHeartbeats 800000 in
set_option maxRecDepth 100000 in
theorem k_X5_isGroup (l : Launch) (x0 : Int32) : Met l yX5_isGroup wsX5_isGroup (rmr 1 22) (va_Pc [.int x0] (fun _ => True)) (vp_Si (fun r => r = b2i (inB x0 0 5))) 0 0 (fun _ => False) := by
  refine Met.ofW (cc := cX5_isGroup) (maxL := 1) (ret := (some .boolean)) (by decide) rfl ?_
  intro p e s m args below meth c s₁ B hml hv
  obtain ⟨hargs, -⟩ := hv
  have hx := B.exec
  have hb := B.bytes
  have hr := B.returns
  have hts := atoms_spec (ws := wsX5_isGroup) B.pre
  have hown : s.vm.findClass RX5 = some m.cls := findClass_of_methodNamed B.named
  have hlocks := B.notSynchronized
  have hen : entryFrame m args 1 = entryFrame m ([.int x0] : List Value).toArray 1 := by rw [hargs]
  rw [hen]
  have hl := lv_entry ([.int x0]) (n := 1) (Nat.le_of_ble_eq_true rfl)
  rw [lg_entry_eq]
  generalize (lg_sl ([.int x0]) ++ List.replicate (1 - (lg_sl ([.int x0])).length) Slot.unset).toArray = ls at hl ⊢
  have hl : lv_has ls 1 [(0, .int x0)] := hl
  generalize hQ : MQ below (vp_Si (fun r => r = b2i (inB x0 0 5))) args s 0 0 (fun _ => False) = Q
  refine lv_iload_n hx hb dX5_isGroup_0 rfl (lv_at hl 0 rfl) ?_
  refine lv_iconst (v := 0) hx hb dX5_isGroup_1 (by decide) ?_
  refine lv_iconst (v := 5) hx hb dX5_isGroup_2 (by decide) ?_
  refine vp_callSi (W.runS (As := [.int x0, .int 0, .int 5]) (rest := []) ⟨hx, hb, hml, hown, hts⟩ (k_X5_in l x0 0 5) (va_cwS 3 hts gX5_isGroup_X5_in rfl rfl rfl (by decide +kernel) ⟨Nat.le_of_ble_eq_true rfl, Nat.le_of_ble_eq_true rfl⟩) ⟨nf_blind, fun U hU hW => ⟨rfl, trivial⟩⟩ rfl rfl hl.1 rfl (lv_room (Nat.le_of_ble_eq_true rfl)) dX5_isGroup_3 ⟨Nat.le_of_ble_eq_true rfl, Nat.le_of_ble_eq_true rfl⟩) (fun r er => ?_)
  subst er
  subst hQ
  have hrt : (b2i (inB x0 0 5) : Int32) = b2i (inB x0 0 5) := by rfl
  exact W.zret (v := b2i (inB x0 0 5)) hx hb hr (by rw [hrt]; exact nar_b2i _) (fun t ht _ => ⟨_, rfl, hrt, ht⟩) (fun _ h => absurd h List.not_mem_nil) dX5_isGroup_6

set_option maxHeartbeats 800000 in
set_option maxRecDepth 100000 in
theorem k_X5_isPerson (l : Launch) (x0 : Int32) : Met l yX5_isPerson wsX5_isPerson (rmr 1 22) (va_Pc [.int x0] (fun _ => True)) (vp_Si (fun r => r = b2i (inB x0 0 7))) 0 0 (fun _ => False) := by
  refine Met.ofW (cc := cX5_isPerson) (maxL := 1) (ret := (some .boolean)) (by decide) rfl ?_
  intro p e s m args below meth c s₁ B hml hv
  obtain ⟨hargs, -⟩ := hv
  have hx := B.exec
  have hb := B.bytes
  have hr := B.returns
  have hts := atoms_spec (ws := wsX5_isPerson) B.pre
  have hown : s.vm.findClass RX5 = some m.cls := findClass_of_methodNamed B.named
  have hlocks := B.notSynchronized
  have hen : entryFrame m args 1 = entryFrame m ([.int x0] : List Value).toArray 1 := by rw [hargs]
  rw [hen]
  have hl := lv_entry ([.int x0]) (n := 1) (Nat.le_of_ble_eq_true rfl)
  rw [lg_entry_eq]
  generalize (lg_sl ([.int x0]) ++ List.replicate (1 - (lg_sl ([.int x0])).length) Slot.unset).toArray = ls at hl ⊢
  have hl : lv_has ls 1 [(0, .int x0)] := hl
  generalize hQ : MQ below (vp_Si (fun r => r = b2i (inB x0 0 7))) args s 0 0 (fun _ => False) = Q
  refine lv_iload_n hx hb dX5_isPerson_0 rfl (lv_at hl 0 rfl) ?_
  refine lv_iconst (v := 0) hx hb dX5_isPerson_1 (by decide) ?_
  refine lv_bipush (v := 7) hx hb dX5_isPerson_2 (by decide) ?_
  refine vp_callSi (W.runS (As := [.int x0, .int 0, .int 7]) (rest := []) ⟨hx, hb, hml, hown, hts⟩ (k_X5_in l x0 0 7) (va_cwS 3 hts gX5_isPerson_X5_in rfl rfl rfl (by decide +kernel) ⟨Nat.le_of_ble_eq_true rfl, Nat.le_of_ble_eq_true rfl⟩) ⟨nf_blind, fun U hU hW => ⟨rfl, trivial⟩⟩ rfl rfl hl.1 rfl (lv_room (Nat.le_of_ble_eq_true rfl)) dX5_isPerson_4 ⟨Nat.le_of_ble_eq_true rfl, Nat.le_of_ble_eq_true rfl⟩) (fun r er => ?_)
  subst er
  subst hQ
  have hrt : (b2i (inB x0 0 7) : Int32) = b2i (inB x0 0 7) := by rfl
  exact W.zret (v := b2i (inB x0 0 7)) hx hb hr (by rw [hrt]; exact nar_b2i _) (fun t ht _ => ⟨_, rfl, hrt, ht⟩) (fun _ h => absurd h List.not_mem_nil) dX5_isPerson_7

set_option maxHeartbeats 800000 in
set_option maxRecDepth 100000 in
theorem k_X5_isFolder (l : Launch) (D : va_G) (cI cZ : ClassId) (ad : Nat → Nat) (F : Nat → Nat → Int32) (ow : Nat → Int32) (mp : Nat → Int32) (nm : Int32) (gb : Int32) (ob : Int32) (ik : Nat → Int32) (kp : Nat → Int32) (tu : Nat → Int32) (g : Nat → Int32) (x0 : Int32)   : Met l yX5_isFolder wsX5_isFolder (rmr 1 22) (va_Pc [.ref (ad 0), .int x0] (rdP D ([(cI, .int), (cZ, .boolean)]) (mdW cI cZ ad F ow mp nm gb ob ik kp tu g))) (vp_Si (fun r => r = b2i (inB x0 0 (g 6 - 1)))) 0 0 (fun _ => False) := by
  refine Met.ofW (cc := cX5_isFolder) (maxL := 2) (ret := (some .boolean)) (by decide) rfl ?_
  intro p e s m args below meth c s₁ B hml hv
  obtain ⟨hargs, hP, hK, hN⟩ := hv
  have hx := B.exec
  have hb := B.bytes
  have hr := B.returns
  have hts := atoms_spec (ws := wsX5_isFolder) B.pre
  have hown : s.vm.findClass RX5 = some m.cls := findClass_of_methodNamed B.named
  have hlocks := B.notSynchronized
  have hen : entryFrame m args 2 = entryFrame m ([.ref (ad 0), .int x0] : List Value).toArray 2 := by rw [hargs]
  rw [hen]
  have hl := lv_entry ([.ref (ad 0), .int x0]) (n := 2) (Nat.le_of_ble_eq_true rfl)
  rw [lg_entry_eq]
  generalize (lg_sl ([.ref (ad 0), .int x0]) ++ List.replicate (2 - (lg_sl ([.ref (ad 0), .int x0])).length) Slot.unset).toArray = ls at hl ⊢
  have hl : lv_has ls 2 [(0, .ref (ad 0)), (1, .int x0)] := hl
  generalize hQ : MQ below (vp_Si (fun r => r = b2i (inB x0 0 (g 6 - 1)))) args s 0 0 (fun _ => False) = Q
  refine lv_iload_n hx hb dX5_isFolder_0 rfl (lv_at hl 1 rfl) ?_
  refine lv_iconst (v := 0) hx hb dX5_isFolder_1 (by decide) ?_
  refine lv_aload_n hx hb dX5_isFolder_2 rfl (lv_at hl 0 rfl) ?_
  refine va_get (D := D) (ci := 6) (v := .int (g 6)) (C := RX5) (T := TX5) (N := 20) hx hb hts (fun _ h => List.mem_cons_of_mem _ (List.mem_append_right _ (h))) hown hK hP 0 rfl rfl 6 (by decide) (hts _ (List.mem_of_getElem? (i := 1) rfl)) (fun _ h9 => h9) rfl dX5_isFolder_3 ?_
  refine lv_iconst (v := 1) hx hb dX5_isFolder_6 (by decide) ?_
  refine lv_isub hx hb dX5_isFolder_7 ?_
  refine vp_callSi (W.runS (As := [.int x0, .int 0, .int ((g 6) - 1)]) (rest := []) ⟨hx, hb, hml, hown, hts⟩ (k_X5_in l x0 0 ((g 6) - 1)) (va_cwS 3 hts gX5_isFolder_X5_in rfl rfl rfl (by decide +kernel) ⟨Nat.le_of_ble_eq_true rfl, Nat.le_of_ble_eq_true rfl⟩) ⟨nf_blind, fun U hU hW => ⟨rfl, trivial⟩⟩ rfl rfl hl.1 rfl (lv_room (Nat.le_of_ble_eq_true rfl)) dX5_isFolder_8 ⟨Nat.le_of_ble_eq_true rfl, Nat.le_of_ble_eq_true rfl⟩) (fun r er => ?_)
  subst er
  subst hQ
  have hrt : (b2i (inB x0 0 ((g 6) - 1)) : Int32) = b2i (inB x0 0 (g 6 - 1)) := by rfl
  exact W.zret (v := b2i (inB x0 0 ((g 6) - 1))) hx hb hr (by rw [hrt]; exact nar_b2i _) (fun t ht _ => ⟨_, rfl, hrt, ht⟩) (fun _ h => absurd h List.not_mem_nil) dX5_isFolder_11

set_option maxHeartbeats 800000 in
set_option maxRecDepth 100000 in
theorem k_X5_isFine (l : Launch) (D : va_G) (cI cZ : ClassId) (ad : Nat → Nat) (A : Nat → Prop) (F : Nat → Nat → Int32) (ow : Nat → Int32) (mp : Nat → Int32) (nm : Int32) (gb : Int32) (ob : Int32) (ik : Nat → Int32) (kp : Nat → Int32) (tu : Nat → Int32) (g : Nat → Int32) (hA : apD 16 A ad) (x0 : Int32)   : Met l yX5_isFine wsX5_isFine (rmr 0 0) (va_Pc [.ref (ad 0), .int x0] (rdP D ([(cI, .int), (cZ, .boolean)]) (mdW cI cZ ad F ow mp nm gb ob ik kp tu g))) (va_Qi (fun (r : Int32) (_ : Unit) => r = b2i (decide (x0 = 0))) (fun _ t => va_P D vwCl (mdW cI cZ ad F ow mp nm gb ob ik kp tu (va_up g 19 x0)) t.heap) A) 0 0 A := by
  refine Met.ofW (cc := cX5_isFine) (maxL := 2) (ret := (some .boolean)) (by decide) rfl ?_
  intro p e s m args below meth c s₁ B hml hv
  obtain ⟨hargs, hP, hK, hN⟩ := hv
  have hx := B.exec
  have hb := B.bytes
  have hr := B.returns
  have hts := atoms_spec (ws := wsX5_isFine) B.pre
  have hown : s.vm.findClass RX5 = some m.cls := findClass_of_methodNamed B.named
  have hlocks := B.notSynchronized
  have hen : entryFrame m args 2 = entryFrame m ([.ref (ad 0), .int x0] : List Value).toArray 2 := by rw [hargs]
  rw [hen]
  have hl := lv_entry ([.ref (ad 0), .int x0]) (n := 2) (Nat.le_of_ble_eq_true rfl)
  rw [lg_entry_eq]
  generalize (lg_sl ([.ref (ad 0), .int x0]) ++ List.replicate (2 - (lg_sl ([.ref (ad 0), .int x0])).length) Slot.unset).toArray = ls at hl ⊢
  have hl : lv_has ls 2 [(0, .ref (ad 0)), (1, .int x0)] := hl
  have hS : va_S A s.heap s.heap [] := va_S.rf
  generalize hQ : MQ below (va_Qi (fun (r : Int32) (_ : Unit) => r = b2i (decide (x0 = 0))) (fun _ t => va_P D vwCl (mdW cI cZ ad F ow mp nm gb ob ik kp tu (va_up g 19 x0)) t.heap) A) args s 0 0 A = Q
  have go : ∀ (H : Heap) (locs : List Loc), va_P D vwCl (mdW cI cZ ad F ow mp nm gb ob ik kp tu g) H → va_S A s.heap H locs → W p l e (headSpec wsX5_isFine (rmr 0 0)).room s m args below meth c H locs 0 0 Q (F0 m 0 ls []) := by
    intro H locs hP hS
    refine lv_aload_n hx hb dX5_isFine_0 rfl (lv_at hl 0 rfl) ?_
    refine lv_iload_n hx hb dX5_isFine_1 rfl (lv_at hl 1 rfl) ?_
    refine va_put (D := D) (ci := 6) (v := .int x0) (ty := .int) (C := RX5) (T := TX5) (N := 20) hx hb hts (fun _ h => List.mem_cons_of_mem _ (List.mem_append_right _ (h))) tyX5 tyX5_ok nmX5 hown hK hP (md_D hA) hS 0 rfl rfl 19 (by decide) (hts _ (List.mem_of_getElem? (i := 1) rfl)) (fun _ h9 => h9) rfl (by decide +kernel) rfl rfl (Nat.le_of_ble_eq_true rfl) dX5_isFine_2 (fun H locs hP _ hS => ?_)
    have hP : va_P D vwCl (mdW cI cZ ad F ow mp nm gb ob ik kp tu (va_up g 19 x0)) H := hP
    refine lv_iload_n hx hb dX5_isFine_5 rfl (lv_at hl 1 rfl) ?_
    have J_14 : ∀ (z0 : Int32), z0 = (if x0 = 0 then 1 else 0) → ∀ (H : Heap) (locs : List Loc), va_P D vwCl (mdW cI cZ ad F ow mp nm gb ob ik kp tu (va_up g 19 x0)) H → va_S A s.heap H locs → ∀ ls : Array Slot, lv_has ls 2 [(0, .ref (ad 0)), (1, .int x0)] → W p l e (headSpec wsX5_isFine (rmr 0 0)).room s m args below meth c H locs 0 0 Q (F0 m 14 ls [.int z0]) := by
      intro z0 ez0 H locs hP hS ls hl
      subst ez0
      subst hQ
      have hP : va_P D vwCl (mdW cI cZ ad F ow mp nm gb ob ik kp tu (va_up g 19 x0)) H := hP
      have hrt : (if x0 = 0 then 1 else 0 : Int32) = b2i (decide (x0 = 0)) := by simp only [b2i, decide_eq_true_eq]
      exact W.zret (v := if x0 = 0 then 1 else 0) hx hb hr (by rw [hrt]; exact nar_b2i _) (fun t ht _ => ⟨⟨_, (), rfl, hrt, by have e := hP; rw [← ht] at e; exact e⟩, hS.F ht⟩) hS.2.2 dX5_isFine_14
    refine lv_if_ne (tgt := 13) hx hb dX5_isFine_6 (by decide) (fun c_6 => ?_) (fun c_6 => ?_)
    ·
      refine lv_iconst (v := 0) hx hb dX5_isFine_13 (by decide) ?_
      exact J_14 _ ((if_neg c_6).symm) _ _ hP hS ls (lv_sub hl [0, 1] rfl)
    ·
      refine lv_iconst (v := 1) hx hb dX5_isFine_9 (by decide) ?_
      refine lv_goto (tgt := 14) hx hb dX5_isFine_10 (by decide) ?_
      exact J_14 _ ((if_pos c_6).symm) _ _ hP hS ls (lv_sub hl [0, 1] rfl)
  exact go _ _ hP hS

set_option maxHeartbeats 800000 in
set_option maxRecDepth 100000 in
theorem k_X5_thrown (l : Launch) (D : va_G) (cI cZ : ClassId) (ad : Nat → Nat) (F : Nat → Nat → Int32) (ow : Nat → Int32) (mp : Nat → Int32) (nm : Int32) (gb : Int32) (ob : Int32) (ik : Nat → Int32) (kp : Nat → Int32) (tu : Nat → Int32) (g : Nat → Int32)    : Met l yX5_thrown wsX5_thrown (rmr 0 0) (va_Pc [.ref (ad 0)] (rdP D ([(cI, .int), (cZ, .boolean)]) (mdW cI cZ ad F ow mp nm gb ob ik kp tu g))) (vp_Si (fun r => r = g 19)) 0 0 (fun _ => False) := by
  refine Met.ofW (cc := cX5_thrown) (maxL := 1) (ret := (some .int)) (by decide) rfl ?_
  intro p e s m args below meth c s₁ B hml hv
  obtain ⟨hargs, hP, hK, hN⟩ := hv
  have hx := B.exec
  have hb := B.bytes
  have hr := B.returns
  have hts := atoms_spec (ws := wsX5_thrown) B.pre
  have hown : s.vm.findClass RX5 = some m.cls := findClass_of_methodNamed B.named
  have hlocks := B.notSynchronized
  have hen : entryFrame m args 1 = entryFrame m ([.ref (ad 0)] : List Value).toArray 1 := by rw [hargs]
  rw [hen]
  have hl := lv_entry ([.ref (ad 0)]) (n := 1) (Nat.le_of_ble_eq_true rfl)
  rw [lg_entry_eq]
  generalize (lg_sl ([.ref (ad 0)]) ++ List.replicate (1 - (lg_sl ([.ref (ad 0)])).length) Slot.unset).toArray = ls at hl ⊢
  have hl : lv_has ls 1 [(0, .ref (ad 0))] := hl
  generalize hQ : MQ below (vp_Si (fun r => r = g 19)) args s 0 0 (fun _ => False) = Q
  refine lv_aload_n hx hb dX5_thrown_0 rfl (lv_at hl 0 rfl) ?_
  refine va_get (D := D) (ci := 6) (v := .int (g 19)) (C := RX5) (T := TX5) (N := 20) hx hb hts (fun _ h => List.mem_cons_of_mem _ (List.mem_append_right _ (h))) hown hK hP 0 rfl rfl 19 (by decide) (hts _ (List.mem_of_getElem? (i := 1) rfl)) (fun _ h9 => h9) rfl dX5_thrown_1 ?_
  subst hQ
  exact W.iret (v := g 19) hx hb hr (fun t ht _ => ⟨_, rfl, (by rfl), ht⟩) (fun _ h => absurd h List.not_mem_nil) dX5_thrown_4

set_option maxHeartbeats 800000 in
set_option maxRecDepth 100000 in
theorem k_X5_groupsIn (l : Launch) (D : va_G) (cI cZ : ClassId) (ad : Nat → Nat) (F : Nat → Nat → Int32) (ow : Nat → Int32) (mp : Nat → Int32) (nm : Int32) (gb : Int32) (ob : Int32) (ik : Nat → Int32) (kp : Nat → Int32) (tu : Nat → Int32) (g : Nat → Int32) (x : Nat)   : Met l yX5_groupsIn wsX5_groupsIn (rmr 1 21) (va_Pc [.ref (ad 0), .int (nI x)] (rdP D ([(cI, .int), (cZ, .boolean)]) (mdW cI cZ ad F ow mp nm gb ob ik kp tu g))) (vp_Si (fun r => r = grnds (F 2) (1 <<< (nI x &&& 31)) 6)) 0 0 (fun _ => False) := by
  refine Met.ofW (cc := cX5_groupsIn) (maxL := 5) (ret := (some .int)) (by decide) rfl ?_
  intro p e s m args below meth c s₁ B hml hv
  obtain ⟨hargs, hP, hK, hN⟩ := hv
  have hx := B.exec
  have hb := B.bytes
  have hr := B.returns
  have hts := atoms_spec (ws := wsX5_groupsIn) B.pre
  have hown : s.vm.findClass RX5 = some m.cls := findClass_of_methodNamed B.named
  have hlocks := B.notSynchronized
  have hen : entryFrame m args 5 = entryFrame m ([.ref (ad 0), .int (nI x)] : List Value).toArray 5 := by rw [hargs]
  rw [hen]
  have hl := lv_entry ([.ref (ad 0), .int (nI x)]) (n := 5) (Nat.le_of_ble_eq_true rfl)
  rw [lg_entry_eq]
  generalize (lg_sl ([.ref (ad 0), .int (nI x)]) ++ List.replicate (5 - (lg_sl ([.ref (ad 0), .int (nI x)])).length) Slot.unset).toArray = ls at hl ⊢
  have hl : lv_has ls 5 [(0, .ref (ad 0)), (1, .int (nI x))] := hl
  generalize hQ : MQ below (vp_Si (fun r => r = grnds (F 2) (1 <<< (nI x &&& 31)) 6)) args s 0 0 (fun _ => False) = Q
  refine lv_iconst (v := 1) hx hb dX5_groupsIn_0 (by decide) ?_
  refine lv_iload_n hx hb dX5_groupsIn_1 rfl (lv_at hl 1 rfl) ?_
  refine lv_ishl hx hb dX5_groupsIn_2 ?_
  refine lv_istore_n (lv' := [(2, .int ((1 : Int32) <<< ((nI x) &&& 31))), (0, .ref (ad 0)), (1, .int (nI x))]) hx hb dX5_groupsIn_3 rfl hl (by decide) rfl (fun ls hl => ?_)
  refine lv_iconst (v := 0) hx hb dX5_groupsIn_4 (by decide) ?_
  refine lv_istore_n (lv' := [(3, .int 0), (2, .int ((1 : Int32) <<< ((nI x) &&& 31))), (0, .ref (ad 0)), (1, .int (nI x))]) hx hb dX5_groupsIn_5 rfl hl (by decide) rfl (fun ls hl => ?_)
  have L_6 : ∀ fz i : Nat, i ≤ 6 → 6 - i < fz → ∀ (v2 : Int32), v2 = (grnds (F 2) (1 <<< (nI x &&& 31)) i) → ∀ ls : Array Slot, lv_has ls 5 [(0, .ref (ad 0)), (1, .int (nI x)), (3, .int (nI i)), (2, .int v2)] → W p l e (headSpec wsX5_groupsIn (rmr 1 21)).room s m args below meth c s.heap [] 0 0 Q (F0 m 6 ls []) := by
    intro fz
    induction fz with
    | zero => intro i _ h; exact absurd h (Nat.not_lt_zero _)
    | succ fz ih_6 =>
      intro i hi_6 hn_6 v2 ev2 ls hl
      subst ev2
      rcases Nat.lt_or_ge i 6 with h_i | h_i
      ·
        refine lv_iload_n hx hb dX5_groupsIn_6 rfl (lv_at hl 2 rfl) ?_
        refine lv_bipush (v := 6) hx hb dX5_groupsIn_7 (by decide) ?_
        refine lv_icmp_ge (tgt := 57) hx hb dX5_groupsIn_9 (by decide) (fun c_9 => absurd c_9 (lt_no h_i (by decide))) (fun c_9 => ?_)
        refine lv_iconst (v := 0) hx hb dX5_groupsIn_12 (by decide) ?_
        refine lv_istore (lv' := [(4, .int 0), (0, .ref (ad 0)), (1, .int (nI x)), (3, .int (nI i)), (2, .int (grnds (F 2) (1 <<< (nI x &&& 31)) i))]) hx hb dX5_groupsIn_13 hl (by decide) rfl (fun ls hl => ?_)
        have L_15 : ∀ fz j : Nat, j ≤ 6 → 6 - j < fz → ∀ (v2 : Int32), v2 = (gstep (F 2) (grnds (F 2) (1 <<< (nI x &&& 31)) i) j) → ∀ ls : Array Slot, lv_has ls 5 [(0, .ref (ad 0)), (1, .int (nI x)), (3, .int (nI i)), (4, .int (nI j)), (2, .int v2)] → W p l e (headSpec wsX5_groupsIn (rmr 1 21)).room s m args below meth c s.heap [] 0 0 Q (F0 m 15 ls []) := by
          intro fz
          induction fz with
          | zero => intro j _ h; exact absurd h (Nat.not_lt_zero _)
          | succ fz ih_15 =>
            intro j hi_15 hn_15 v2 ev2 ls hl
            subst ev2
            rcases Nat.lt_or_ge j 6 with h_j | h_j
            ·
              refine lv_iload hx hb dX5_groupsIn_15 (lv_at hl 3 rfl) ?_
              refine lv_bipush (v := 6) hx hb dX5_groupsIn_17 (by decide) ?_
              refine lv_icmp_ge (tgt := 51) hx hb dX5_groupsIn_19 (by decide) (fun c_19 => absurd c_19 (lt_no h_j (by decide))) (fun c_19 => ?_)
              refine lv_iload_n hx hb dX5_groupsIn_22 rfl (lv_at hl 4 rfl) ?_
              refine lv_iload_n hx hb dX5_groupsIn_23 rfl (lv_at hl 4 rfl) ?_
              refine lv_iload hx hb dX5_groupsIn_24 (lv_at hl 3 rfl) ?_
              refine vp_callSi (W.runS (As := [.int (gstep (F 2) (grnds (F 2) (1 <<< (nI x &&& 31)) i) j), .int (nI j)]) (rest := [.int (gstep (F 2) (grnds (F 2) (1 <<< (nI x &&& 31)) i) j)]) ⟨hx, hb, hml, hown, hts⟩ (k_X5_has l (gstep (F 2) (grnds (F 2) (1 <<< (nI x &&& 31)) i) j) (nI j)) (va_cwS 2 hts gX5_groupsIn_X5_has rfl rfl rfl (by decide +kernel) ⟨Nat.le_of_ble_eq_true rfl, Nat.le_of_ble_eq_true rfl⟩) ⟨nf_blind, fun U hU hW => ⟨rfl, trivial⟩⟩ rfl rfl hl.1 rfl (lv_room (Nat.le_of_ble_eq_true rfl)) dX5_groupsIn_26 ⟨Nat.le_of_ble_eq_true rfl, Nat.le_of_ble_eq_true rfl⟩) (fun r er => ?_)
              subst er
              have J_43 : ∀ (z0 : Int32), z0 = (if (hasB (gstep (F 2) (grnds (F 2) (1 <<< (nI x &&& 31)) i) j) (nI j)) = true then (F 2) j else 0) → ∀ ls : Array Slot, lv_has ls 5 [(0, .ref (ad 0)), (1, .int (nI x)), (2, .int (gstep (F 2) (grnds (F 2) (1 <<< (nI x &&& 31)) i) j)), (3, .int (nI i)), (4, .int (nI j))] → W p l e (headSpec wsX5_groupsIn (rmr 1 21)).room s m args below meth c s.heap [] 0 0 Q (F0 m 43 ls [.int z0, .int (gstep (F 2) (grnds (F 2) (1 <<< (nI x &&& 31)) i) j)]) := by
                intro z0 ez0 ls hl
                subst ez0
                refine lv_ior hx hb dX5_groupsIn_43 ?_
                refine lv_istore_n (lv' := [(2, .int ((gstep (F 2) (grnds (F 2) (1 <<< (nI x &&& 31)) i) j) ||| (if (hasB (gstep (F 2) (grnds (F 2) (1 <<< (nI x &&& 31)) i) j) (nI j)) = true then (F 2) j else 0))), (0, .ref (ad 0)), (1, .int (nI x)), (3, .int (nI i)), (4, .int (nI j))]) hx hb dX5_groupsIn_44 rfl hl (by decide) rfl (fun ls hl => ?_)
                refine lv_iinc (v := nI (j + 1)) (lv' := [(4, .int (nI (j + 1))), (2, .int ((gstep (F 2) (grnds (F 2) (1 <<< (nI x &&& 31)) i) j) ||| (if (hasB (gstep (F 2) (grnds (F 2) (1 <<< (nI x &&& 31)) i) j) (nI j)) = true then (F 2) j else 0))), (0, .ref (ad 0)), (1, .int (nI x)), (3, .int (nI i))]) hx hb dX5_groupsIn_45 hl (k := 4) rfl (by exact iinc_n _) (by decide) rfl (fun ls hl => ?_)
                refine lv_goto (tgt := 15) hx hb dX5_groupsIn_48 (by decide) ?_
                exact ih_15 (j + 1) (by omega) (by omega) _ (by rfl) ls (lv_sub hl [2, 3, 4, 0, 1] rfl)
              refine lv_if_eq (tgt := 42) hx hb dX5_groupsIn_29 (by decide) (fun c_29 => ?_) (fun c_29 => ?_)
              ·
                have c_29 := b2i_0 c_29
                refine lv_iconst (v := 0) hx hb dX5_groupsIn_42 (by decide) ?_
                exact J_43 _ ((if_neg (b2i_bf c_29)).symm) ls (lv_sub hl [0, 1, 4, 2, 3] rfl)
              ·
                have c_29 := b2i_1 c_29
                refine lv_aload_n hx hb dX5_groupsIn_32 rfl (lv_at hl 0 rfl) ?_
                refine va_get (D := D) (ci := 6) (v := .ref (ad 2)) (C := RX5) (T := TX5) (N := 20) hx hb hts (fun _ h => List.mem_cons_of_mem _ (List.mem_append_right _ (h))) hown hK hP 0 rfl rfl 1 (by decide) (hts _ (List.mem_of_getElem? (i := 1) rfl)) (fun _ h9 => h9) rfl dX5_groupsIn_33 ?_
                refine lv_iload hx hb dX5_groupsIn_36 (lv_at hl 3 rfl) ?_
                refine ld_i (k := j) hx hb hK hP 2 0 rfl rfl (by omega) (by decide) dX5_groupsIn_38 ?_
                refine lv_goto (tgt := 43) hx hb dX5_groupsIn_39 (by decide) ?_
                exact J_43 _ ((if_pos c_29).symm) ls (lv_sub hl [0, 1, 4, 2, 3] rfl)
            ·
              obtain rfl : 6 = j := by omega
              refine lv_iload hx hb dX5_groupsIn_15 (lv_at hl 3 rfl) ?_
              refine lv_bipush (v := 6) hx hb dX5_groupsIn_17 (by decide) ?_
              refine lv_icmp_ge (tgt := 51) hx hb dX5_groupsIn_19 (by decide) (fun c_19 => ?_) (fun c_19 => absurd (lt_yes h_j (by decide)) c_19)
              refine lv_iinc (v := nI (i + 1)) (lv' := [(3, .int (nI (i + 1))), (0, .ref (ad 0)), (1, .int (nI x)), (4, .int (nI 6)), (2, .int (gstep (F 2) (grnds (F 2) (1 <<< (nI x &&& 31)) i) 6))]) hx hb dX5_groupsIn_51 hl (k := 2) rfl (by exact iinc_n _) (by decide) rfl (fun ls hl => ?_)
              refine lv_goto (tgt := 6) hx hb dX5_groupsIn_54 (by decide) ?_
              exact ih_6 (i + 1) (by omega) (by omega) _ (by rfl) ls (lv_sub hl [1, 2, 0, 4] rfl)
        exact L_15 (6 + 1) 0 (by omega) (by omega) _ (by rfl) ls (lv_sub hl [1, 2, 3, 0, 4] rfl)
      ·
        obtain rfl : 6 = i := by omega
        refine lv_iload_n hx hb dX5_groupsIn_6 rfl (lv_at hl 2 rfl) ?_
        refine lv_bipush (v := 6) hx hb dX5_groupsIn_7 (by decide) ?_
        refine lv_icmp_ge (tgt := 57) hx hb dX5_groupsIn_9 (by decide) (fun c_9 => ?_) (fun c_9 => absurd (lt_yes h_i (by decide)) c_9)
        refine lv_iload_n hx hb dX5_groupsIn_57 rfl (lv_at hl 3 rfl) ?_
        subst hQ
        exact W.iret (v := grnds (F 2) (1 <<< (nI x &&& 31)) 6) hx hb hr (fun t ht _ => ⟨_, rfl, (by rfl), ht⟩) (fun _ h => absurd h List.not_mem_nil) dX5_groupsIn_58
  exact L_6 (6 + 1) 0 (by omega) (by omega) _ (by rfl) ls (lv_sub hl [2, 3, 0, 1] rfl)

set_option maxHeartbeats 800000 in
set_option maxRecDepth 100000 in
theorem k_X5_membersOf (l : Launch) (D : va_G) (cI cZ : ClassId) (ad : Nat → Nat) (F : Nat → Nat → Int32) (ow : Nat → Int32) (mp : Nat → Int32) (nm : Int32) (gb : Int32) (ob : Int32) (ik : Nat → Int32) (kp : Nat → Int32) (tu : Nat → Int32) (g : Nat → Int32) (x : Nat)   : Met l yX5_membersOf wsX5_membersOf (rmr 2 45) (va_Pc [.ref (ad 0), .int (nI x)] (rdP D ([(cI, .int), (cZ, .boolean)]) (mdW cI cZ ad F ow mp nm gb ob ik kp tu g))) (vp_Si (fun r => r = mMem F x)) 0 0 (fun _ => False) := by
  refine Met.ofW (cc := cX5_membersOf) (maxL := 5) (ret := (some .int)) (by decide) rfl ?_
  intro p e s m args below meth c s₁ B hml hv
  obtain ⟨hargs, hP, hK, hN⟩ := hv
  have hx := B.exec
  have hb := B.bytes
  have hr := B.returns
  have hts := atoms_spec (ws := wsX5_membersOf) B.pre
  have hown : s.vm.findClass RX5 = some m.cls := findClass_of_methodNamed B.named
  have hlocks := B.notSynchronized
  have hen : entryFrame m args 5 = entryFrame m ([.ref (ad 0), .int (nI x)] : List Value).toArray 5 := by rw [hargs]
  rw [hen]
  have hl := lv_entry ([.ref (ad 0), .int (nI x)]) (n := 5) (Nat.le_of_ble_eq_true rfl)
  rw [lg_entry_eq]
  generalize (lg_sl ([.ref (ad 0), .int (nI x)]) ++ List.replicate (5 - (lg_sl ([.ref (ad 0), .int (nI x)])).length) Slot.unset).toArray = ls at hl ⊢
  have hl : lv_has ls 5 [(0, .ref (ad 0)), (1, .int (nI x))] := hl
  generalize hQ : MQ below (vp_Si (fun r => r = mMem F x)) args s 0 0 (fun _ => False) = Q
  refine lv_aload_n hx hb dX5_membersOf_0 rfl (lv_at hl 0 rfl) ?_
  refine lv_iload_n hx hb dX5_membersOf_1 rfl (lv_at hl 1 rfl) ?_
  refine vp_callSi (W.runV (As := [.int (nI x)]) (rest := []) ⟨hx, hb, hml, hown, hts⟩ (k_X5_groupsIn l D cI cZ ad F ow mp nm gb ob ik kp tu g x) (cwV 1 hts gX5_membersOf_X5_groupsIn rfl rfl rfl (by decide +kernel) ⟨Nat.le_of_ble_eq_true rfl, Nat.le_of_ble_eq_true rfl⟩) ⟨rd_blind, va_recv hK hP (ci := 6) (q0 := 0) rfl rfl, rd_pre hP hK hN⟩ rfl rfl hl.1 rfl (lv_room (Nat.le_of_ble_eq_true rfl)) dX5_membersOf_2 ⟨Nat.le_of_ble_eq_true rfl, Nat.le_of_ble_eq_true rfl⟩) (fun r er => ?_)
  subst er
  refine lv_istore_n (lv' := [(2, .int (grnds ((F 2)) (1 <<< (nI x &&& 31)) 6)), (0, .ref (ad 0)), (1, .int (nI x))]) hx hb dX5_membersOf_5 rfl hl (by decide) rfl (fun ls hl => ?_)
  refine lv_iconst (v := 0) hx hb dX5_membersOf_6 (by decide) ?_
  refine lv_istore_n (lv' := [(3, .int 0), (2, .int (grnds ((F 2)) (1 <<< (nI x &&& 31)) 6)), (0, .ref (ad 0)), (1, .int (nI x))]) hx hb dX5_membersOf_7 rfl hl (by decide) rfl (fun ls hl => ?_)
  refine lv_iconst (v := 0) hx hb dX5_membersOf_8 (by decide) ?_
  refine lv_istore (lv' := [(4, .int 0), (3, .int 0), (2, .int (grnds ((F 2)) (1 <<< (nI x &&& 31)) 6)), (0, .ref (ad 0)), (1, .int (nI x))]) hx hb dX5_membersOf_9 hl (by decide) rfl (fun ls hl => ?_)
  have L_11 : ∀ fz i : Nat, i ≤ 6 → 6 - i < fz → ∀ (v3 : Int32), v3 = (memb (F 1) (grnds (F 2) (1 <<< (nI x &&& 31)) 6) i) → ∀ ls : Array Slot, lv_has ls 5 [(0, .ref (ad 0)), (1, .int (nI x)), (2, .int (grnds ((F 2)) (1 <<< (nI x &&& 31)) 6)), (4, .int (nI i)), (3, .int v3)] → W p l e (headSpec wsX5_membersOf (rmr 2 45)).room s m args below meth c s.heap [] 0 0 Q (F0 m 11 ls []) := by
    intro fz
    induction fz with
    | zero => intro i _ h; exact absurd h (Nat.not_lt_zero _)
    | succ fz ih_11 =>
      intro i hi_11 hn_11 v3 ev3 ls hl
      subst ev3
      rcases Nat.lt_or_ge i 6 with h_i | h_i
      ·
        refine lv_iload hx hb dX5_membersOf_11 (lv_at hl 3 rfl) ?_
        refine lv_bipush (v := 6) hx hb dX5_membersOf_13 (by decide) ?_
        refine lv_icmp_ge (tgt := 47) hx hb dX5_membersOf_15 (by decide) (fun c_15 => absurd c_15 (lt_no h_i (by decide))) (fun c_15 => ?_)
        refine lv_iload_n hx hb dX5_membersOf_18 rfl (lv_at hl 4 rfl) ?_
        refine lv_iload_n hx hb dX5_membersOf_19 rfl (lv_at hl 2 rfl) ?_
        refine lv_iload hx hb dX5_membersOf_20 (lv_at hl 3 rfl) ?_
        refine vp_callSi (W.runS (As := [.int (grnds ((F 2)) (1 <<< (nI x &&& 31)) 6), .int (nI i)]) (rest := [.int (memb (F 1) (grnds (F 2) (1 <<< (nI x &&& 31)) 6) i)]) ⟨hx, hb, hml, hown, hts⟩ (k_X5_has l (grnds ((F 2)) (1 <<< (nI x &&& 31)) 6) (nI i)) (va_cwS 2 hts gX5_membersOf_X5_has rfl rfl rfl (by decide +kernel) ⟨Nat.le_of_ble_eq_true rfl, Nat.le_of_ble_eq_true rfl⟩) ⟨nf_blind, fun U hU hW => ⟨rfl, trivial⟩⟩ rfl rfl hl.1 rfl (lv_room (Nat.le_of_ble_eq_true rfl)) dX5_membersOf_22 ⟨Nat.le_of_ble_eq_true rfl, Nat.le_of_ble_eq_true rfl⟩) (fun r er => ?_)
        subst er
        have J_39 : ∀ (z0 : Int32), z0 = (if (hasB (grnds ((F 2)) (1 <<< (nI x &&& 31)) 6) (nI i)) = true then (F 1) i else 0) → ∀ ls : Array Slot, lv_has ls 5 [(0, .ref (ad 0)), (1, .int (nI x)), (2, .int (grnds ((F 2)) (1 <<< (nI x &&& 31)) 6)), (3, .int (memb (F 1) (grnds (F 2) (1 <<< (nI x &&& 31)) 6) i)), (4, .int (nI i))] → W p l e (headSpec wsX5_membersOf (rmr 2 45)).room s m args below meth c s.heap [] 0 0 Q (F0 m 39 ls [.int z0, .int (memb (F 1) (grnds (F 2) (1 <<< (nI x &&& 31)) 6) i)]) := by
          intro z0 ez0 ls hl
          subst ez0
          refine lv_ior hx hb dX5_membersOf_39 ?_
          refine lv_istore_n (lv' := [(3, .int ((memb (F 1) (grnds (F 2) (1 <<< (nI x &&& 31)) 6) i) ||| (if (hasB (grnds ((F 2)) (1 <<< (nI x &&& 31)) 6) (nI i)) = true then (F 1) i else 0))), (0, .ref (ad 0)), (1, .int (nI x)), (2, .int (grnds ((F 2)) (1 <<< (nI x &&& 31)) 6)), (4, .int (nI i))]) hx hb dX5_membersOf_40 rfl hl (by decide) rfl (fun ls hl => ?_)
          refine lv_iinc (v := nI (i + 1)) (lv' := [(4, .int (nI (i + 1))), (3, .int ((memb (F 1) (grnds (F 2) (1 <<< (nI x &&& 31)) 6) i) ||| (if (hasB (grnds ((F 2)) (1 <<< (nI x &&& 31)) 6) (nI i)) = true then (F 1) i else 0))), (0, .ref (ad 0)), (1, .int (nI x)), (2, .int (grnds ((F 2)) (1 <<< (nI x &&& 31)) 6))]) hx hb dX5_membersOf_41 hl (k := 4) rfl (by exact iinc_n _) (by decide) rfl (fun ls hl => ?_)
          refine lv_goto (tgt := 11) hx hb dX5_membersOf_44 (by decide) ?_
          exact ih_11 (i + 1) (by omega) (by omega) _ (by rfl) ls (lv_sub hl [2, 3, 4, 0, 1] rfl)
        refine lv_if_eq (tgt := 38) hx hb dX5_membersOf_25 (by decide) (fun c_25 => ?_) (fun c_25 => ?_)
        ·
          have c_25 := b2i_0 c_25
          refine lv_iconst (v := 0) hx hb dX5_membersOf_38 (by decide) ?_
          exact J_39 _ ((if_neg (b2i_bf c_25)).symm) ls (lv_sub hl [0, 1, 2, 4, 3] rfl)
        ·
          have c_25 := b2i_1 c_25
          refine lv_aload_n hx hb dX5_membersOf_28 rfl (lv_at hl 0 rfl) ?_
          refine va_get (D := D) (ci := 6) (v := .ref (ad 1)) (C := RX5) (T := TX5) (N := 20) hx hb hts (fun _ h => List.mem_cons_of_mem _ (List.mem_append_right _ (h))) hown hK hP 0 rfl rfl 0 (by decide) (hts _ (List.mem_of_getElem? (i := 1) rfl)) (fun _ h9 => h9) rfl dX5_membersOf_29 ?_
          refine lv_iload hx hb dX5_membersOf_32 (lv_at hl 3 rfl) ?_
          refine ld_i (k := i) hx hb hK hP 1 0 rfl rfl (by omega) (by decide) dX5_membersOf_34 ?_
          refine lv_goto (tgt := 39) hx hb dX5_membersOf_35 (by decide) ?_
          exact J_39 _ ((if_pos c_25).symm) ls (lv_sub hl [0, 1, 2, 4, 3] rfl)
      ·
        obtain rfl : 6 = i := by omega
        refine lv_iload hx hb dX5_membersOf_11 (lv_at hl 3 rfl) ?_
        refine lv_bipush (v := 6) hx hb dX5_membersOf_13 (by decide) ?_
        refine lv_icmp_ge (tgt := 47) hx hb dX5_membersOf_15 (by decide) (fun c_15 => ?_) (fun c_15 => absurd (lt_yes h_i (by decide)) c_15)
        refine lv_iload_n hx hb dX5_membersOf_47 rfl (lv_at hl 4 rfl) ?_
        subst hQ
        exact W.iret (v := memb (F 1) (grnds (F 2) (1 <<< (nI x &&& 31)) 6) 6) hx hb hr (fun t ht _ => ⟨_, rfl, (by rfl), ht⟩) (fun _ h => absurd h List.not_mem_nil) dX5_membersOf_48
  exact L_11 (6 + 1) 0 (by omega) (by omega) _ (by rfl) ls (lv_sub hl [3, 4, 2, 0, 1] rfl)

set_option maxHeartbeats 800000 in
set_option maxRecDepth 100000 in
theorem k_X5_common (l : Launch) (D : va_G) (cI cZ : ClassId) (ad : Nat → Nat) (F : Nat → Nat → Int32) (ow : Nat → Int32) (mp : Nat → Int32) (nm : Int32) (gb : Int32) (ob : Int32) (ik : Nat → Int32) (kp : Nat → Int32) (tu : Nat → Int32) (g : Nat → Int32) (x0 : Int32)   : Met l yX5_common wsX5_common (rmr 1 21) (va_Pc [.ref (ad 0), .int x0] (rdP D ([(cI, .int), (cZ, .boolean)]) (mdW cI cZ ad F ow mp nm gb ob ik kp tu g))) (vp_Si (fun r => r = comm ow x0 8)) 0 0 (fun _ => False) := by
  refine Met.ofW (cc := cX5_common) (maxL := 4) (ret := (some .int)) (by decide) rfl ?_
  intro p e s m args below meth c s₁ B hml hv
  obtain ⟨hargs, hP, hK, hN⟩ := hv
  have hx := B.exec
  have hb := B.bytes
  have hr := B.returns
  have hts := atoms_spec (ws := wsX5_common) B.pre
  have hown : s.vm.findClass RX5 = some m.cls := findClass_of_methodNamed B.named
  have hlocks := B.notSynchronized
  have hen : entryFrame m args 4 = entryFrame m ([.ref (ad 0), .int x0] : List Value).toArray 4 := by rw [hargs]
  rw [hen]
  have hl := lv_entry ([.ref (ad 0), .int x0]) (n := 4) (Nat.le_of_ble_eq_true rfl)
  rw [lg_entry_eq]
  generalize (lg_sl ([.ref (ad 0), .int x0]) ++ List.replicate (4 - (lg_sl ([.ref (ad 0), .int x0])).length) Slot.unset).toArray = ls at hl ⊢
  have hl : lv_has ls 4 [(0, .ref (ad 0)), (1, .int x0)] := hl
  generalize hQ : MQ below (vp_Si (fun r => r = comm ow x0 8)) args s 0 0 (fun _ => False) = Q
  refine lv_iload_n hx hb dX5_common_0 rfl (lv_at hl 1 rfl) ?_
  have J_10 : ∀ (z0 : Int32), z0 = (if x0 = 0 then 0 else 7) → ∀ ls : Array Slot, lv_has ls 4 [(0, .ref (ad 0)), (1, .int x0)] → W p l e (headSpec wsX5_common (rmr 1 21)).room s m args below meth c s.heap [] 0 0 Q (F0 m 10 ls [.int z0]) := by
    intro z0 ez0 ls hl
    subst ez0
    refine lv_istore_n (lv' := [(2, .int (if x0 = 0 then 0 else 7)), (0, .ref (ad 0)), (1, .int x0)]) hx hb dX5_common_10 rfl hl (by decide) rfl (fun ls hl => ?_)
    refine lv_iconst (v := 0) hx hb dX5_common_11 (by decide) ?_
    refine lv_istore_n (lv' := [(3, .int 0), (2, .int (if x0 = 0 then 0 else 7)), (0, .ref (ad 0)), (1, .int x0)]) hx hb dX5_common_12 rfl hl (by decide) rfl (fun ls hl => ?_)
    have L_13 : ∀ fz i : Nat, i ≤ 8 → 8 - i < fz → ∀ (v2 : Int32), v2 = (comm ow x0 i) → ∀ ls : Array Slot, lv_has ls 4 [(0, .ref (ad 0)), (1, .int x0), (3, .int (nI i)), (2, .int v2)] → W p l e (headSpec wsX5_common (rmr 1 21)).room s m args below meth c s.heap [] 0 0 Q (F0 m 13 ls []) := by
      intro fz
      induction fz with
      | zero => intro i _ h; exact absurd h (Nat.not_lt_zero _)
      | succ fz ih_13 =>
        intro i hi_13 hn_13 v2 ev2 ls hl
        subst ev2
        rcases Nat.lt_or_ge i 8 with h_i | h_i
        ·
          refine lv_iload_n hx hb dX5_common_13 rfl (lv_at hl 2 rfl) ?_
          refine lv_bipush (v := 8) hx hb dX5_common_14 (by decide) ?_
          refine lv_icmp_ge (tgt := 47) hx hb dX5_common_16 (by decide) (fun c_16 => absurd c_16 (lt_no h_i (by decide))) (fun c_16 => ?_)
          refine lv_iload_n hx hb dX5_common_19 rfl (lv_at hl 3 rfl) ?_
          refine lv_iload_n hx hb dX5_common_20 rfl (lv_at hl 1 rfl) ?_
          refine lv_iload_n hx hb dX5_common_21 rfl (lv_at hl 2 rfl) ?_
          refine vp_callSi (W.runS (As := [.int x0, .int (nI i)]) (rest := [.int (comm ow x0 i)]) ⟨hx, hb, hml, hown, hts⟩ (k_X5_has l x0 (nI i)) (va_cwS 2 hts gX5_common_X5_has rfl rfl rfl (by decide +kernel) ⟨Nat.le_of_ble_eq_true rfl, Nat.le_of_ble_eq_true rfl⟩) ⟨nf_blind, fun U hU hW => ⟨rfl, trivial⟩⟩ rfl rfl hl.1 rfl (lv_room (Nat.le_of_ble_eq_true rfl)) dX5_common_22 ⟨Nat.le_of_ble_eq_true rfl, Nat.le_of_ble_eq_true rfl⟩) (fun r er => ?_)
          subst er
          have J_39 : ∀ (z0 : Int32), z0 = (if (hasB x0 (nI i)) = true then ow i else 7) → ∀ ls : Array Slot, lv_has ls 4 [(0, .ref (ad 0)), (1, .int x0), (2, .int (comm ow x0 i)), (3, .int (nI i))] → W p l e (headSpec wsX5_common (rmr 1 21)).room s m args below meth c s.heap [] 0 0 Q (F0 m 39 ls [.int z0, .int (comm ow x0 i)]) := by
            intro z0 ez0 ls hl
            subst ez0
            refine lv_iand hx hb dX5_common_39 ?_
            refine lv_istore_n (lv' := [(2, .int ((comm ow x0 i) &&& (if (hasB x0 (nI i)) = true then ow i else 7))), (0, .ref (ad 0)), (1, .int x0), (3, .int (nI i))]) hx hb dX5_common_40 rfl hl (by decide) rfl (fun ls hl => ?_)
            refine lv_iinc (v := nI (i + 1)) (lv' := [(3, .int (nI (i + 1))), (2, .int ((comm ow x0 i) &&& (if (hasB x0 (nI i)) = true then ow i else 7))), (0, .ref (ad 0)), (1, .int x0)]) hx hb dX5_common_41 hl (k := 3) rfl (by exact iinc_n _) (by decide) rfl (fun ls hl => ?_)
            refine lv_goto (tgt := 13) hx hb dX5_common_44 (by decide) ?_
            exact ih_13 (i + 1) (by omega) (by omega) _ (by rfl) ls (lv_sub hl [2, 3, 0, 1] rfl)
          refine lv_if_eq (tgt := 37) hx hb dX5_common_25 (by decide) (fun c_25 => ?_) (fun c_25 => ?_)
          ·
            have c_25 := b2i_0 c_25
            refine lv_bipush (v := 7) hx hb dX5_common_37 (by decide) ?_
            exact J_39 _ ((if_neg (b2i_bf c_25)).symm) ls (lv_sub hl [0, 1, 3, 2] rfl)
          ·
            have c_25 := b2i_1 c_25
            refine lv_aload_n hx hb dX5_common_28 rfl (lv_at hl 0 rfl) ?_
            refine va_get (D := D) (ci := 6) (v := .ref (ad 11)) (C := RX5) (T := TX5) (N := 20) hx hb hts (fun _ h => List.mem_cons_of_mem _ (List.mem_append_right _ (h))) hown hK hP 0 rfl rfl 11 (by decide) (hts _ (List.mem_of_getElem? (i := 1) rfl)) (fun _ h9 => h9) rfl dX5_common_29 ?_
            refine lv_iload_n hx hb dX5_common_32 rfl (lv_at hl 2 rfl) ?_
            refine ld_i (k := i) hx hb hK hP 11 0 rfl rfl (by omega) (by decide) dX5_common_33 ?_
            refine lv_goto (tgt := 39) hx hb dX5_common_34 (by decide) ?_
            exact J_39 _ ((if_pos c_25).symm) ls (lv_sub hl [0, 1, 3, 2] rfl)
        ·
          obtain rfl : 8 = i := by omega
          refine lv_iload_n hx hb dX5_common_13 rfl (lv_at hl 2 rfl) ?_
          refine lv_bipush (v := 8) hx hb dX5_common_14 (by decide) ?_
          refine lv_icmp_ge (tgt := 47) hx hb dX5_common_16 (by decide) (fun c_16 => ?_) (fun c_16 => absurd (lt_yes h_i (by decide)) c_16)
          refine lv_iload_n hx hb dX5_common_47 rfl (lv_at hl 3 rfl) ?_
          subst hQ
          exact W.iret (v := comm ow x0 8) hx hb hr (fun t ht _ => ⟨_, rfl, (by rfl), ht⟩) (fun _ h => absurd h List.not_mem_nil) dX5_common_48
    exact L_13 (8 + 1) 0 (by omega) (by omega) _ (by rfl) ls (lv_sub hl [2, 3, 0, 1] rfl)
  refine lv_if_ne (tgt := 8) hx hb dX5_common_1 (by decide) (fun c_1 => ?_) (fun c_1 => ?_)
  ·
    refine lv_bipush (v := 7) hx hb dX5_common_8 (by decide) ?_
    exact J_10 _ ((if_neg c_1).symm) ls (lv_sub hl [0, 1] rfl)
  ·
    refine lv_iconst (v := 0) hx hb dX5_common_4 (by decide) ?_
    refine lv_goto (tgt := 10) hx hb dX5_common_5 (by decide) ?_
    exact J_10 _ ((if_pos c_1).symm) ls (lv_sub hl [0, 1] rfl)
