set_option maxHeartbeats 800000 in
set_option maxRecDepth 100000 in
theorem k_J8_newLength_cabcc (l : Launch) (x : Nat) (y : Nat) (z : Nat)  (hyz : y ≤ z) (hxz : 1 ≤ x + z ∧ x + z < 1000) : Met l yJ8_newLength_cabcc wsJ8_newLength_cabcc (rmr 2 40) (va_Pc [.int (nI x), .int (nI y), .int (nI z)] (fun _ => True)) (vp_Si (fun r => r = nI (x + z))) 0 0 (fun _ => False) := by
  refine Met.ofW (cc := cJ8_newLength_cabcc) (maxL := 4) (ret := (some .int)) (by decide) rfl ?_
  intro p e s m args below meth c s₁ B hml hv
  obtain ⟨hargs, -⟩ := hv
  have hx := B.exec
  have hb := B.bytes
  have hr := B.returns
  have hts := atoms_spec (ws := wsJ8_newLength_cabcc) B.pre
  have hown : s.vm.findClass RJ8 = some m.cls := findClass_of_methodNamed B.named
  have hlocks := B.notSynchronized
  have hen : entryFrame m args 4 = entryFrame m ([.int (nI x), .int (nI y), .int (nI z)] : List Value).toArray 4 := by rw [hargs]
  rw [hen]
  have hl := lv_entry ([.int (nI x), .int (nI y), .int (nI z)]) (n := 4) (Nat.le_of_ble_eq_true rfl)
  rw [lg_entry_eq]
  generalize (lg_sl ([.int (nI x), .int (nI y), .int (nI z)]) ++ List.replicate (4 - (lg_sl ([.int (nI x), .int (nI y), .int (nI z)])).length) Slot.unset).toArray = ls at hl ⊢
  have hl : lv_has ls 4 [(0, .int (nI x)), (1, .int (nI y)), (2, .int (nI z))] := hl
  generalize hQ : MQ below (vp_Si (fun r => r = nI (x + z))) args s 0 0 (fun _ => False) = Q
  refine lv_iload_n hx hb dJ8_newLength_cabcc_0 rfl (lv_at hl 0 rfl) ?_
  refine lv_iload_n hx hb dJ8_newLength_cabcc_1 rfl (lv_at hl 1 rfl) ?_
  refine lv_iload_n hx hb dJ8_newLength_cabcc_2 rfl (lv_at hl 2 rfl) ?_
  refine va_mmax hx hb (hml.trans hl.1.symm) hown (hts _ (List.mem_of_getElem? (i := 1) rfl)) (hts _ (List.mem_of_getElem? (i := 2) rfl)) (hts _ (List.mem_of_getElem? (i := 3) rfl)) (hts _ (List.mem_of_getElem? (i := 4) rfl)) (Nat.le_of_ble_eq_true rfl) (Nat.le_of_ble_eq_true rfl) (Nat.zero_le _) (Nat.zero_le _) dJ8_newLength_cabcc_3 ?_
  refine top_eq (y := nI z) (max_n hyz (by omega)) ?_
  refine iadd_n (x := x) (y := z) hx hb dJ8_newLength_cabcc_6 ?_
  refine lv_istore_n (lv' := [(3, .int (nI (x + z))), (0, .int (nI x)), (1, .int (nI y)), (2, .int (nI z))]) hx hb dJ8_newLength_cabcc_7 rfl hl (by decide) rfl (fun ls hl => ?_)
  refine lv_iconst (v := 0) hx hb dJ8_newLength_cabcc_8 (by decide) ?_
  refine lv_iload_n hx hb dJ8_newLength_cabcc_9 rfl (lv_at hl 0 rfl) ?_
  refine lv_icmp_ge (tgt := 21) hx hb dJ8_newLength_cabcc_10 (by decide) (fun c_10 => ?_) (fun c_10 => ?_)
  ·
    exact absurd c_10 (show ¬ nI (x + z) ≤ nI 0 from nI_ge (by omega) (by omega))
  ·
    refine lv_iload_n hx hb dJ8_newLength_cabcc_13 rfl (lv_at hl 0 rfl) ?_
    refine lv_ldc (v := 2147483639) hx hb hown (hts _ (List.mem_of_getElem? (i := 5) rfl)) dJ8_newLength_cabcc_14 ?_
    refine lv_icmp_gt (tgt := 21) hx hb dJ8_newLength_cabcc_16 (by decide) (fun c_16 => ?_) (fun c_16 => ?_)
    ·
      exact absurd c_16 (show ¬ nI 2147483639 < nI (x + z) from Int32.not_lt.mpr (nI_le (by omega) (by decide)))
    ·
      refine lv_iload_n hx hb dJ8_newLength_cabcc_19 rfl (lv_at hl 0 rfl) ?_
      subst hQ
      exact W.iret (v := nI (x + z)) hx hb hr (fun t ht _ => ⟨_, rfl, (by rfl), ht⟩) (fun _ h => absurd h List.not_mem_nil) dJ8_newLength_cabcc_20

set_option maxHeartbeats 800000 in
set_option maxRecDepth 100000 in
theorem k_cpy1 (l : Launch) (D : va_G) (cI cZ cO : ClassId) (d m9 m8 mi z0 : Nat) (q : Nat → Option Nat) (hm : m9 ≤ m8 ∧ m8 ≤ 22) (hnA : ∀ j, j < m9 → ∀ y, q j = some y → ¬ alZ d z0 y) : Met l yJ7_copyOf_6403c wsJ7_copyOf_6403c (rma 2 60) (va_Pc [.ref d, .int (nI m8), .ref mi] (rdY D ([(cI, .int), (cI, .int), (cO, .object "java/lang/Object")]) ([(d, refs cO m9 q)]) (cyY q m9 mi z0))) (va_Qq (fun (r : Option Nat) (b : Nat) => r = some b) (fun b t => va_P D vwCl [(d, refs cO m9 q), (b, refs cO m8 (va_cpy q (fun _ => none) 0 0 m9))] t.heap ∧ z0 ≤ b ∧ b ≠ d) (alZ d z0)) 1 22 (alZ d z0) := by
  refine Met.ofW (cc := cJ7_copyOf_6403c) (maxL := 4) (ret := (some (.array (.object "java/lang/Object")))) (by decide) rfl ?_
  intro p e s m args below meth c s₁ B hml hv
  obtain ⟨hargs, ⟨hP, hK, hN⟩, ⟨hMi, hDc, hAO, hz0⟩, hY⟩ := hv
  have hx := B.exec
  have hb := B.bytes
  have hr := B.returns
  have hts := atoms_spec (ws := wsJ7_copyOf_6403c) B.pre
  have hown : s.vm.findClass RJ7 = some m.cls := findClass_of_methodNamed B.named
  have hlocks := B.notSynchronized
  have hen : entryFrame m args 4 = entryFrame m ([.ref d, .int (nI m8), .ref mi] : List Value).toArray 4 := by rw [hargs]
  rw [hen]
  have hl := lv_entry ([.ref d, .int (nI m8), .ref mi]) (n := 4) (Nat.le_of_ble_eq_true rfl)
  rw [lg_entry_eq]
  generalize (lg_sl ([.ref d, .int (nI m8), .ref mi]) ++ List.replicate (4 - (lg_sl ([.ref d, .int (nI m8), .ref mi])).length) Slot.unset).toArray = ls at hl ⊢
  have hl : lv_has ls 4 [(0, .ref d), (1, .int (nI m8)), (2, .ref mi)] := hl
  generalize hQ : MQ below (va_Qq (fun (r : Option Nat) (b : Nat) => r = some b) (fun b t => va_P D vwCl [(d, refs cO m9 q), (b, refs cO m8 (va_cpy q (fun _ => none) 0 0 m9))] t.heap ∧ z0 ≤ b ∧ b ≠ d) (alZ d z0)) args s 1 22 (alZ d z0) = Q
  have go : ∀ (H : Heap) (locs : List Loc), va_P D vwCl ([(d, refs cO m9 q)]) H → va_S (alZ d z0) s.heap H locs → W p l e (headSpec wsJ7_copyOf_6403c (rma 2 60)).room s m args below meth c H locs 0 0 Q (F0 m 0 ls []) := by
    intro H locs hP hS
    refine lv_aload_n hx hb dJ7_copyOf_6403c_0 rfl (lv_at hl 2 rfl) ?_
    refine va_ldcM hx hb hown (hts _ (List.mem_of_getElem? (i := 1) rfl)) hMi dJ7_copyOf_6403c_1 ?_
    refine lv_acmp_ne (rx := some mi) (ry := some mi) (tgt := 13) hx hb dJ7_copyOf_6403c_3 (by decide) (fun c_3 => ?_) (fun c_3 => ?_)
    ·
      exact absurd rfl c_3
    ·
      refine lv_iload_n hx hb dJ7_copyOf_6403c_6 rfl (lv_at hl 1 rfl) ?_
      refine va_newq (N' := m8) hx hb hown (hts _ (List.mem_of_getElem? (i := 2) rfl)) hAO hK hP cp_D1 hS (fun q9 hq9 => Or.inr (Nat.le_trans hz0 hq9)) (nI_pos (by omega)) (nI_clamp (by omega)) (by omega) (Nat.le_of_ble_eq_true rfl) (by show 0 + m8 ≤ 22; omega) dJ7_copyOf_6403c_7 (fun b9 cA H hK2 hP hD9 hS => ?_)
      have hcA : cO = cA := idO (u := 2) (v := 3) hK2 rfl rfl
      subst hcA
      have hne9 : b9 ≠ d := fun h9 => by have h8 := hD9.1 1 0 _ _ rfl rfl h9; omega
      have hz9 : z0 ≤ b9 := (hD9.2 1 _ rfl).resolve_left hne9
      have hP : va_P D vwCl ([(d, refs cO m9 q), (b9, refs cO m8 (fun _ => none))]) H := hP
      refine lv_goto (tgt := 24) hx hb dJ7_copyOf_6403c_10 (by decide) ?_
      refine lv_astore_n (lv' := [(3, .ref b9), (0, .ref d), (1, .int (nI m8)), (2, .ref mi)]) hx hb dJ7_copyOf_6403c_24 rfl hl (by decide) rfl (fun ls hl => ?_)
      refine lv_aload_n hx hb dJ7_copyOf_6403c_25 rfl (lv_at hl 1 rfl) ?_
      refine lv_iconst (v := 0) hx hb dJ7_copyOf_6403c_26 (by decide) ?_
      refine lv_aload_n hx hb dJ7_copyOf_6403c_27 rfl (lv_at hl 0 rfl) ?_
      refine lv_iconst (v := 0) hx hb dJ7_copyOf_6403c_28 (by decide) ?_
      refine lv_aload_n hx hb dJ7_copyOf_6403c_29 rfl (lv_at hl 1 rfl) ?_
      refine va_alen (v := nI m9) hx hb hK hP 0 2 rfl rfl rfl dJ7_copyOf_6403c_30 ?_
      refine lv_iload_n hx hb dJ7_copyOf_6403c_31 rfl (lv_at hl 2 rfl) ?_
      refine va_mmin hx hb (hml.trans hl.1.symm) hown (hts _ (List.mem_of_getElem? (i := 3) rfl)) (hts _ (List.mem_of_getElem? (i := 4) rfl)) (hts _ (List.mem_of_getElem? (i := 5) rfl)) (hts _ (List.mem_of_getElem? (i := 6) rfl)) (Nat.le_of_ble_eq_true rfl) (Nat.le_of_ble_eq_true rfl) (Nat.le_of_ble_eq_true rfl) (by show 0 + m8 ≤ 22; omega) dJ7_copyOf_6403c_32 ?_
      refine top_eq (y := nI m9) (min_n hm.1 (by omega)) ?_
      refine cp_q (x := 0) (y := 0) (k := m9) hx hb (hml.trans hl.1.symm) hown (hts _ (List.mem_of_getElem? (i := 7) rfl)) (hts _ (List.mem_of_getElem? (i := 8) rfl)) (hts _ (List.mem_of_getElem? (i := 9) rfl)) (hts _ (List.mem_of_getElem? (i := 10) rfl)) hK hP (cp_D hne9 hz9) hS 0 1 2 2 rfl rfl rfl rfl (by decide) (by decide) (by omega) (by omega) (by omega) (fun i9 hi9 z9 hz8 => hY.at hnA hS hi9 (by rw [Nat.zero_add] at hz8; exact hz8)) (Nat.le_of_ble_eq_true rfl) (Nat.le_of_ble_eq_true rfl) dJ7_copyOf_6403c_35 (fun H locs hP _ hS => ?_)
      have hP : va_P D vwCl ([(d, refs cO m9 q), (b9, refs cO m8 (va_cpy q (fun _ => none) 0 0 m9))]) H := hP
      refine lv_aload_n hx hb dJ7_copyOf_6403c_38 rfl (lv_at hl 0 rfl) ?_
      subst hQ
      refine W.widen (k := 1) (n := 22) (Nat.le_of_ble_eq_true rfl) (by show 0 + m8 ≤ 22; omega) ?_
      exact W.aret (v := va_rf (some b9)) hx hb hr (Or.inr ⟨_, rfl⟩) (va_rf_or _) (fun t ht hW => ⟨⟨some b9, b9, rfl, rfl, by have e := hP; rw [← ht] at e; exact ⟨e, hz9, hne9⟩⟩, hS.F ht⟩) hS.2.2 dJ7_copyOf_6403c_39
  exact go _ _ hP va_S.rf
