set_option maxHeartbeats 800000 in
set_option maxRecDepth 100000 in
theorem k_J3_checkIndex_8e157 (l : Launch) (x : Nat) (y : Nat)  (hxy : x < y) (hy2 : y < 2 ^ 31) : Met l yJ3_checkIndex_8e157 wsJ3_checkIndex_8e157 (rmr 0 0) (va_Pc [.int (nI x), .int (nI y), .null] (fun _ => True)) (vp_Si (fun r => r = nI x)) 0 0 (fun _ => False) := by
  refine Met.ofW (cc := cJ3_checkIndex_8e157) (maxL := 3) (ret := (some .int)) (by decide) rfl ?_
  intro p e s m args below meth c s₁ B hml hv
  obtain ⟨hargs, -⟩ := hv
  have hx := B.exec
  have hb := B.bytes
  have hr := B.returns
  have hts := atoms_spec (ws := wsJ3_checkIndex_8e157) B.pre
  have hown : s.vm.findClass RJ3 = some m.cls := findClass_of_methodNamed B.named
  have hlocks := B.notSynchronized
  have hen : entryFrame m args 3 = entryFrame m ([.int (nI x), .int (nI y), .null] : List Value).toArray 3 := by rw [hargs]
  rw [hen]
  have hl := lv_entry ([.int (nI x), .int (nI y), .null]) (n := 3) (Nat.le_of_ble_eq_true rfl)
  rw [lg_entry_eq]
  generalize (lg_sl ([.int (nI x), .int (nI y), .null]) ++ List.replicate (3 - (lg_sl ([.int (nI x), .int (nI y), .null])).length) Slot.unset).toArray = ls at hl ⊢
  have hl : lv_has ls 3 [(0, .int (nI x)), (1, .int (nI y)), (2, .null)] := hl
  generalize hQ : MQ below (vp_Si (fun r => r = nI x)) args s 0 0 (fun _ => False) = Q
  refine lv_iload_n hx hb dJ3_checkIndex_8e157_0 rfl (lv_at hl 0 rfl) ?_
  refine lv_if_lt (tgt := 9) hx hb dJ3_checkIndex_8e157_1 (by decide) (fun c_1 => ?_) (fun c_1 => ?_)
  ·
    exact absurd c_1 (nI_pos (by omega))
  ·
    refine lv_iload_n hx hb dJ3_checkIndex_8e157_4 rfl (lv_at hl 0 rfl) ?_
    refine lv_iload_n hx hb dJ3_checkIndex_8e157_5 rfl (lv_at hl 1 rfl) ?_
    refine lv_icmp_lt (tgt := 16) hx hb dJ3_checkIndex_8e157_6 (by decide) (fun c_6 => ?_) (fun c_6 => ?_)
    ·
      refine lv_iload_n hx hb dJ3_checkIndex_8e157_16 rfl (lv_at hl 0 rfl) ?_
      subst hQ
      exact W.iret (v := nI x) hx hb hr (fun t ht _ => ⟨_, rfl, (by rfl), ht⟩) (fun _ h => absurd h List.not_mem_nil) dJ3_checkIndex_8e157_17
    ·
      exact absurd (nI_lt hxy (by omega)) c_6

set_option maxHeartbeats 800000 in
set_option maxRecDepth 100000 in
theorem k_J15_checkIndex_7cf53 (l : Launch) (x : Nat) (y : Nat)  (hxy : x < y) (hy2 : y < 2 ^ 31) : Met l yJ15_checkIndex_7cf53 wsJ15_checkIndex_7cf53 (rmr 1 22) (va_Pc [.int (nI x), .int (nI y)] (fun _ => True)) (vp_Si (fun r => r = nI x)) 0 0 (fun _ => False) := by
  refine Met.ofW (cc := cJ15_checkIndex_7cf53) (maxL := 2) (ret := (some .int)) (by decide) rfl ?_
  intro p e s m args below meth c s₁ B hml hv
  obtain ⟨hargs, -⟩ := hv
  have hx := B.exec
  have hb := B.bytes
  have hr := B.returns
  have hts := atoms_spec (ws := wsJ15_checkIndex_7cf53) B.pre
  have hown : s.vm.findClass RJ15 = some m.cls := findClass_of_methodNamed B.named
  have hlocks := B.notSynchronized
  have hen : entryFrame m args 2 = entryFrame m ([.int (nI x), .int (nI y)] : List Value).toArray 2 := by rw [hargs]
  rw [hen]
  have hl := lv_entry ([.int (nI x), .int (nI y)]) (n := 2) (Nat.le_of_ble_eq_true rfl)
  rw [lg_entry_eq]
  generalize (lg_sl ([.int (nI x), .int (nI y)]) ++ List.replicate (2 - (lg_sl ([.int (nI x), .int (nI y)])).length) Slot.unset).toArray = ls at hl ⊢
  have hl : lv_has ls 2 [(0, .int (nI x)), (1, .int (nI y))] := hl
  generalize hQ : MQ below (vp_Si (fun r => r = nI x)) args s 0 0 (fun _ => False) = Q
  refine lv_iload_n hx hb dJ15_checkIndex_7cf53_0 rfl (lv_at hl 0 rfl) ?_
  refine lv_iload_n hx hb dJ15_checkIndex_7cf53_1 rfl (lv_at hl 1 rfl) ?_
  refine lv_null hx hb dJ15_checkIndex_7cf53_2 ?_
  refine vp_callSi (W.runS (As := [.int (nI x), .int (nI y), .null]) (rest := []) ⟨hx, hb, hml, hown, hts⟩ (k_J3_checkIndex_8e157 l x y (by omega) (by omega)) (va_cwS 3 hts gJ15_checkIndex_7cf53_J3_checkIndex_8e157 rfl rfl rfl (by decide +kernel) ⟨Nat.le_of_ble_eq_true rfl, Nat.le_of_ble_eq_true rfl⟩) ⟨nf_blind, fun U hU hW => ⟨rfl, trivial⟩⟩ rfl rfl hl.1 rfl (lv_room (Nat.le_of_ble_eq_true rfl)) dJ15_checkIndex_7cf53_3 ⟨Nat.le_of_ble_eq_true rfl, Nat.le_of_ble_eq_true rfl⟩) (fun r er => ?_)
  subst er
  subst hQ
  exact W.iret (v := nI x) hx hb hr (fun t ht _ => ⟨_, rfl, (by rfl), ht⟩) (fun _ h => absurd h List.not_mem_nil) dJ15_checkIndex_7cf53_6

set_option maxHeartbeats 800000 in
set_option maxRecDepth 100000 in
theorem k_Jx4a65c_size_8abf5 (l : Launch) (D : va_G) (cI cZ cO : ClassId) {ws : va_W} {k0 : Nat} {a d : Nat} {mcv sz : Int32} (e0 : ws[k0]? = some (a, .inr (0, [.int mcv, .ref d, .int sz])))    : Met l yJx4a65c_size_8abf5 wsJx4a65c_size_8abf5 (rmr 0 0) (va_Pc [.ref a] (rdP D ([(cI, .int), (cI, .int), (cO, .object "java/lang/Object")]) (ws))) (vp_Si (fun r => r = sz)) 0 0 (fun _ => False) := by
  refine Met.ofW (cc := cJx4a65c_size_8abf5) (maxL := 1) (ret := (some .int)) (by decide) rfl ?_
  intro p e s m args below meth c s₁ B hml hv
  obtain ⟨hargs, hP, hK, hN⟩ := hv
  have hx := B.exec
  have hb := B.bytes
  have hr := B.returns
  have hts := atoms_spec (ws := wsJx4a65c_size_8abf5) B.pre
  have hown : s.vm.findClass RJx4a65c = some m.cls := findClass_of_methodNamed B.named
  have hlocks := B.notSynchronized
  have hen : entryFrame m args 1 = entryFrame m ([.ref a] : List Value).toArray 1 := by rw [hargs]
  rw [hen]
  have hl := lv_entry ([.ref a]) (n := 1) (Nat.le_of_ble_eq_true rfl)
  rw [lg_entry_eq]
  generalize (lg_sl ([.ref a]) ++ List.replicate (1 - (lg_sl ([.ref a])).length) Slot.unset).toArray = ls at hl ⊢
  have hl : lv_has ls 1 [(0, .ref a)] := hl
  generalize hQ : MQ below (vp_Si (fun r => r = sz)) args s 0 0 (fun _ => False) = Q
  refine lv_aload_n hx hb dJx4a65c_size_8abf5_0 rfl (lv_at hl 0 rfl) ?_
  refine va_get (D := D) (ci := 0) (v := .int sz) (C := RJx4a65c) (T := TJx4a65c) (N := 3) hx hb hts (fun _ h => List.mem_cons_of_mem _ (List.mem_append_right _ (h))) hown hK hP k0 e0 rfl 2 (by decide) (hts _ (List.mem_of_getElem? (i := 1) rfl)) (fun _ h9 => h9) rfl dJx4a65c_size_8abf5_1 ?_
  subst hQ
  exact W.iret (v := sz) hx hb hr (fun t ht _ => ⟨_, rfl, (by rfl), ht⟩) (fun _ h => absurd h List.not_mem_nil) dJx4a65c_size_8abf5_4

set_option maxHeartbeats 800000 in
set_option maxRecDepth 100000 in
theorem k_Jx4a65c_elementData_915e3 (l : Launch) (D : va_G) (cI cZ cO : ClassId) {ws : va_W} {k0 k1 : Nat} {a d m9 : Nat} {mcv sz : Int32} {q : Nat → Option Nat} (e0 : ws[k0]? = some (a, .inr (0, [.int mcv, .ref d, .int sz]))) (e1 : ws[k1]? = some (d, refs cO m9 q)) (x : Nat)  (hxm : x < m9) (hm2 : m9 < 2 ^ 31) : Met l yJx4a65c_elementData_915e3 wsJx4a65c_elementData_915e3 (rmr 0 0) (va_Pc [.ref a, .int (nI x)] (rdP D ([(cI, .int), (cI, .int), (cO, .object "java/lang/Object")]) (ws))) (va_Sq (fun r => r = q x)) 0 0 (fun _ => False) := by
  refine Met.ofW (cc := cJx4a65c_elementData_915e3) (maxL := 2) (ret := (some (.object "java/lang/Object"))) (by decide) rfl ?_
  intro p e s m args below meth c s₁ B hml hv
  obtain ⟨hargs, hP, hK, hN⟩ := hv
  have hx := B.exec
  have hb := B.bytes
  have hr := B.returns
  have hts := atoms_spec (ws := wsJx4a65c_elementData_915e3) B.pre
  have hown : s.vm.findClass RJx4a65c = some m.cls := findClass_of_methodNamed B.named
  have hlocks := B.notSynchronized
  have hen : entryFrame m args 2 = entryFrame m ([.ref a, .int (nI x)] : List Value).toArray 2 := by rw [hargs]
  rw [hen]
  have hl := lv_entry ([.ref a, .int (nI x)]) (n := 2) (Nat.le_of_ble_eq_true rfl)
  rw [lg_entry_eq]
  generalize (lg_sl ([.ref a, .int (nI x)]) ++ List.replicate (2 - (lg_sl ([.ref a, .int (nI x)])).length) Slot.unset).toArray = ls at hl ⊢
  have hl : lv_has ls 2 [(0, .ref a), (1, .int (nI x))] := hl
  generalize hQ : MQ below (va_Sq (fun r => r = q x)) args s 0 0 (fun _ => False) = Q
  refine lv_aload_n hx hb dJx4a65c_elementData_915e3_0 rfl (lv_at hl 0 rfl) ?_
  refine va_get (D := D) (ci := 0) (v := .ref d) (C := RJx4a65c) (T := TJx4a65c) (N := 3) hx hb hts (fun _ h => List.mem_cons_of_mem _ (List.mem_append_right _ (h))) hown hK hP k0 e0 rfl 1 (by decide) (hts _ (List.mem_of_getElem? (i := 1) rfl)) (fun _ h9 => h9) rfl dJx4a65c_elementData_915e3_1 ?_
  refine lv_iload_n hx hb dJx4a65c_elementData_915e3_4 rfl (lv_at hl 1 rfl) ?_
  refine ld_q (k := x) hx hb hK hP k1 2 e1 rfl (by omega) (by omega) dJx4a65c_elementData_915e3_5 ?_
  subst hQ
  exact W.aret (v := va_rf (q x)) hx hb hr (Or.inl ⟨_, rfl⟩) (va_rf_or _) (fun t ht _ => ⟨q x, rfl, (by rfl), ht⟩) (fun _ h => absurd h List.not_mem_nil) dJx4a65c_elementData_915e3_6

set_option maxHeartbeats 800000 in
set_option maxRecDepth 100000 in
theorem k_Jx4a65c_get_915e3 (l : Launch) (D : va_G) (cI cZ cO : ClassId) {ws : va_W} {k0 k1 : Nat} {a d m9 : Nat} {mcv sz : Int32} {q : Nat → Option Nat} (e0 : ws[k0]? = some (a, .inr (0, [.int mcv, .ref d, .int sz]))) (e1 : ws[k1]? = some (d, refs cO m9 q)) (x : Nat)  (szn : Nat) (hsz : sz = nI szn) (hxs : x < szn) (hsn : szn ≤ m9) (hm2 : m9 < 2 ^ 31) : Met l yJx4a65c_get_915e3 wsJx4a65c_get_915e3 (rmr 2 43) (va_Pc [.ref a, .int (nI x)] (rdP D ([(cI, .int), (cI, .int), (cO, .object "java/lang/Object")]) (ws))) (va_Sq (fun r => r = q x)) 0 0 (fun _ => False) := by
  refine Met.ofW (cc := cJx4a65c_get_915e3) (maxL := 2) (ret := (some (.object "java/lang/Object"))) (by decide) rfl ?_
  intro p e s m args below meth c s₁ B hml hv
  obtain ⟨hargs, hP, hK, hN⟩ := hv
  have hx := B.exec
  have hb := B.bytes
  have hr := B.returns
  have hts := atoms_spec (ws := wsJx4a65c_get_915e3) B.pre
  have hown : s.vm.findClass RJx4a65c = some m.cls := findClass_of_methodNamed B.named
  have hlocks := B.notSynchronized
  have hen : entryFrame m args 2 = entryFrame m ([.ref a, .int (nI x)] : List Value).toArray 2 := by rw [hargs]
  rw [hen]
  have hl := lv_entry ([.ref a, .int (nI x)]) (n := 2) (Nat.le_of_ble_eq_true rfl)
  rw [lg_entry_eq]
  generalize (lg_sl ([.ref a, .int (nI x)]) ++ List.replicate (2 - (lg_sl ([.ref a, .int (nI x)])).length) Slot.unset).toArray = ls at hl ⊢
  have hl : lv_has ls 2 [(0, .ref a), (1, .int (nI x))] := hl
  generalize hQ : MQ below (va_Sq (fun r => r = q x)) args s 0 0 (fun _ => False) = Q
  refine lv_iload_n hx hb dJx4a65c_get_915e3_0 rfl (lv_at hl 1 rfl) ?_
  refine lv_aload_n hx hb dJx4a65c_get_915e3_1 rfl (lv_at hl 0 rfl) ?_
  refine va_get (D := D) (ci := 0) (v := .int sz) (C := RJx4a65c) (T := TJx4a65c) (N := 3) hx hb hts (fun _ h => List.mem_cons_of_mem _ (List.mem_append_right _ (h))) hown hK hP k0 e0 rfl 2 (by decide) (hts _ (List.mem_of_getElem? (i := 1) rfl)) (fun _ h9 => h9) rfl dJx4a65c_get_915e3_2 ?_
  refine top_eq (y := nI szn) (by exact hsz) ?_
  refine vp_callSi (W.runS (As := [.int (nI x), .int (nI szn)]) (rest := []) ⟨hx, hb, hml, hown, hts⟩ (k_J15_checkIndex_7cf53 l x szn (by omega) (by omega)) (va_cwS 2 hts gJx4a65c_get_915e3_J15_checkIndex_7cf53 rfl rfl rfl (by decide +kernel) ⟨Nat.le_of_ble_eq_true rfl, Nat.le_of_ble_eq_true rfl⟩) ⟨nf_blind, fun U hU hW => ⟨rfl, trivial⟩⟩ rfl rfl hl.1 rfl (lv_room (Nat.le_of_ble_eq_true rfl)) dJx4a65c_get_915e3_5 ⟨Nat.le_of_ble_eq_true rfl, Nat.le_of_ble_eq_true rfl⟩) (fun r er => ?_)
  subst er
  refine lv_pop hx hb dJx4a65c_get_915e3_8 rfl ?_
  refine lv_aload_n hx hb dJx4a65c_get_915e3_9 rfl (lv_at hl 0 rfl) ?_
  refine lv_iload_n hx hb dJx4a65c_get_915e3_10 rfl (lv_at hl 1 rfl) ?_
  refine va_csq (W.runV (As := [.int (nI x)]) (rest := []) ⟨hx, hb, hml, hown, hts⟩ (k_Jx4a65c_elementData_915e3 l D cI cZ cO e0 e1 x (by omega) (by omega)) (cwV 1 hts gJx4a65c_get_915e3_Jx4a65c_elementData_915e3 rfl rfl rfl (by decide +kernel) ⟨Nat.le_of_ble_eq_true rfl, Nat.le_of_ble_eq_true rfl⟩) ⟨rd_blind, va_recv hK hP (ci := 0) (q0 := k0) rfl e0, rd_pre hP hK hN⟩ rfl rfl hl.1 rfl (lv_room (Nat.le_of_ble_eq_true rfl)) dJx4a65c_get_915e3_11 ⟨Nat.le_of_ble_eq_true rfl, Nat.le_of_ble_eq_true rfl⟩) (fun r er => ?_)
  subst er
  subst hQ
  exact W.aret (v := va_rf (q x)) hx hb hr (Or.inl ⟨_, rfl⟩) (va_rf_or _) (fun t ht _ => ⟨q x, rfl, (by rfl), ht⟩) (fun _ h => absurd h List.not_mem_nil) dJx4a65c_get_915e3_14

set_option maxHeartbeats 800000 in
set_option maxRecDepth 100000 in
theorem k_X0_counts (l : Launch) (D : va_G) (cI cZ cO : ClassId) {ws : va_W} {k0 : Nat} {a : Nat} {wh al rt sc : Int32} (e0 : ws[k0]? = some (a, .inr (1, [.int wh, .int al, .int rt, .int sc]))) (b : Bool)   : Met l yX0_counts wsX0_counts (rmr 0 0) (va_Pc [.ref a, .int (b2i b)] (rdP D ([(cI, .int), (cI, .int), (cO, .object "java/lang/Object")]) (ws))) (vp_Si (fun r => r = b2i (!decide (sc = if b = true then 1 else 0)))) 0 0 (fun _ => False) := by
  refine Met.ofW (cc := cX0_counts) (maxL := 2) (ret := (some .boolean)) (by decide) rfl ?_
  intro p e s m args below meth c s₁ B hml hv
  obtain ⟨hargs, hP, hK, hN⟩ := hv
  have hx := B.exec
  have hb := B.bytes
  have hr := B.returns
  have hts := atoms_spec (ws := wsX0_counts) B.pre
  have hown : s.vm.findClass RX0 = some m.cls := findClass_of_methodNamed B.named
  have hlocks := B.notSynchronized
  have hen : entryFrame m args 2 = entryFrame m ([.ref a, .int (b2i b)] : List Value).toArray 2 := by rw [hargs]
  rw [hen]
  have hl := lv_entry ([.ref a, .int (b2i b)]) (n := 2) (Nat.le_of_ble_eq_true rfl)
  rw [lg_entry_eq]
  generalize (lg_sl ([.ref a, .int (b2i b)]) ++ List.replicate (2 - (lg_sl ([.ref a, .int (b2i b)])).length) Slot.unset).toArray = ls at hl ⊢
  have hl : lv_has ls 2 [(0, .ref a), (1, .int (b2i b))] := hl
  generalize hQ : MQ below (vp_Si (fun r => r = b2i (!decide (sc = if b = true then 1 else 0)))) args s 0 0 (fun _ => False) = Q
  refine lv_aload_n hx hb dX0_counts_0 rfl (lv_at hl 0 rfl) ?_
  refine va_get (D := D) (ci := 1) (v := .int sc) (C := RX0) (T := TX0) (N := 4) hx hb hts (fun _ h => List.mem_cons_of_mem _ (List.mem_append_right _ (h))) hown hK hP k0 e0 rfl 3 (by decide) (hts _ (List.mem_of_getElem? (i := 1) rfl)) (fun _ h9 => h9) rfl dX0_counts_1 ?_
  refine lv_iload_n hx hb dX0_counts_4 rfl (lv_at hl 1 rfl) ?_
  have J_13 : ∀ (z0 : Int32), z0 = (if b = true then 1 else 0) → ∀ ls : Array Slot, lv_has ls 2 [(0, .ref a), (1, .int (b2i b))] → W p l e (headSpec wsX0_counts (rmr 0 0)).room s m args below meth c s.heap [] 0 0 Q (F0 m 13 ls [.int z0, .int sc]) := by
    intro z0 ez0 ls hl
    subst ez0
    have J_21 : ∀ (z0 : Int32), z0 = (if sc = (if b = true then 1 else 0) then 0 else 1) → ∀ ls : Array Slot, lv_has ls 2 [(0, .ref a), (1, .int (b2i b))] → W p l e (headSpec wsX0_counts (rmr 0 0)).room s m args below meth c s.heap [] 0 0 Q (F0 m 21 ls [.int z0]) := by
      intro z0 ez0 ls hl
      subst ez0
      subst hQ
      have hrt : (if sc = (if b = true then 1 else 0) then 0 else 1 : Int32) = b2i (!decide (sc = if b = true then 1 else 0)) := by exact cnt_if _ _
      exact W.zret (v := if sc = (if b = true then 1 else 0) then 0 else 1) hx hb hr (by rw [hrt]; exact nar_b2i _) (fun t ht _ => ⟨_, rfl, hrt, ht⟩) (fun _ h => absurd h List.not_mem_nil) dX0_counts_21
    refine lv_icmp_eq (tgt := 20) hx hb dX0_counts_13 (by decide) (fun c_13 => ?_) (fun c_13 => ?_)
    ·
      refine lv_iconst (v := 0) hx hb dX0_counts_20 (by decide) ?_
      exact J_21 _ ((if_pos c_13).symm) ls (lv_sub hl [0, 1] rfl)
    ·
      refine lv_iconst (v := 1) hx hb dX0_counts_16 (by decide) ?_
      refine lv_goto (tgt := 21) hx hb dX0_counts_17 (by decide) ?_
      exact J_21 _ ((if_neg c_13).symm) ls (lv_sub hl [0, 1] rfl)
  refine lv_if_eq (tgt := 12) hx hb dX0_counts_5 (by decide) (fun c_5 => ?_) (fun c_5 => ?_)
  ·
    have c_5 := b2i_0 c_5
    refine lv_iconst (v := 0) hx hb dX0_counts_12 (by decide) ?_
    exact J_13 _ ((if_neg (b2i_bf c_5)).symm) ls (lv_sub hl [0, 1] rfl)
  ·
    have c_5 := b2i_1 c_5
    refine lv_iconst (v := 1) hx hb dX0_counts_8 (by decide) ?_
    refine lv_goto (tgt := 13) hx hb dX0_counts_9 (by decide) ?_
    exact J_13 _ ((if_pos c_5).symm) ls (lv_sub hl [0, 1] rfl)
