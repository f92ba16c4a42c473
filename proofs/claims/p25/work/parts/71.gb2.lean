set_option maxHeartbeats 800000 in
set_option maxRecDepth 100000 in
theorem k_growB (l : Launch) (D : va_G) (cI cZ cO : ClassId) (a d m9 mi z0 : Nat) (q : Nat → Option Nat) (mcv sz : Int32) (mn : Nat) (hmn : mn = m9 + 1) (hm : m9 = 10 ∨ m9 = 15) (had : a ≠ d) (haz : a < z0) (hnA : ∀ j, j < m9 → ∀ y, q j = some y → ¬ alB a d z0 y) : Met l yJx4a65c_grow_92f84 wsJx4a65c_grow_92f84 (rma 4 125) (va_Pc [.ref a, .int (nI mn)] (rdY D ([(cI, .int), (cI, .int), (cO, .object "java/lang/Object")]) (l2W cO a d m9 q mcv d sz) (cyY q m9 mi z0))) (va_Qq (fun (r : Option Nat) (b : Nat) => r = some b) (fun b t => va_P D vwCl (l2W cO a b (m9 + m9 / 2) (va_cpy q (fun _ => none) 0 0 m9) mcv b sz) t.heap ∧ z0 ≤ b ∧ b ≠ a) (alB a d z0)) 1 22 (alB a d z0) := by
  refine Met.ofW (cc := cJx4a65c_grow_92f84) (maxL := 4) (ret := (some (.array (.object "java/lang/Object")))) (by decide) rfl ?_
  intro p e s m args below meth c s₁ B hml hv
  obtain ⟨hargs, ⟨hP, hK, hN⟩, hC⟩ := hv
  have hx := B.exec
  have hb := B.bytes
  have hr := B.returns
  have hts := atoms_spec (ws := wsJx4a65c_grow_92f84) B.pre
  have hown : s.vm.findClass RJx4a65c = some m.cls := findClass_of_methodNamed B.named
  have hlocks := B.notSynchronized
  have hen : entryFrame m args 4 = entryFrame m ([.ref a, .int (nI mn)] : List Value).toArray 4 := by rw [hargs]
  rw [hen]
  have hl := lv_entry ([.ref a, .int (nI mn)]) (n := 4) (Nat.le_of_ble_eq_true rfl)
  rw [lg_entry_eq]
  generalize (lg_sl ([.ref a, .int (nI mn)]) ++ List.replicate (4 - (lg_sl ([.ref a, .int (nI mn)])).length) Slot.unset).toArray = ls at hl ⊢
  have hl : lv_has ls 4 [(0, .ref a), (1, .int (nI mn))] := hl
  generalize hQ : MQ below (va_Qq (fun (r : Option Nat) (b : Nat) => r = some b) (fun b t => va_P D vwCl (l2W cO a b (m9 + m9 / 2) (va_cpy q (fun _ => none) 0 0 m9) mcv b sz) t.heap ∧ z0 ≤ b ∧ b ≠ a) (alB a d z0)) args s 1 22 (alB a d z0) = Q
  have go : ∀ (H : Heap) (locs : List Loc), va_P D vwCl (l2W cO a d m9 q mcv d sz) H → va_S (alB a d z0) s.heap H locs → W p l e (headSpec wsJx4a65c_grow_92f84 (rma 4 125)).room s m args below meth c H locs 0 0 Q (F0 m 0 ls []) := by
    intro H locs hP hS
    refine lv_aload_n hx hb dJx4a65c_grow_92f84_0 rfl (lv_at hl 0 rfl) ?_
    refine va_get (D := D) (ci := 0) (v := .ref d) (C := RJx4a65c) (T := TJx4a65c) (N := 3) hx hb hts (fun _ h => List.mem_cons_of_mem _ (List.mem_append_right _ (h))) hown hK hP 0 rfl rfl 1 (by decide) (hts _ (List.mem_of_getElem? (i := 1) rfl)) (fun _ h9 => h9) rfl dJx4a65c_grow_92f84_1 ?_
    refine va_alen (v := nI m9) hx hb hK hP 1 2 rfl rfl rfl dJx4a65c_grow_92f84_4 ?_
    refine lv_istore_n (lv' := [(2, .int (nI m9)), (0, .ref a), (1, .int (nI mn))]) hx hb dJx4a65c_grow_92f84_5 rfl hl (by decide) rfl (fun ls hl => ?_)
    refine lv_iload_n hx hb dJx4a65c_grow_92f84_6 rfl (lv_at hl 0 rfl) ?_
    refine lv_if_gt (tgt := 20) hx hb dJx4a65c_grow_92f84_7 (by decide) (fun c_7 => ?_) (fun c_7 => ?_)
    ·
      refine lv_iload_n hx hb dJx4a65c_grow_92f84_20 rfl (lv_at hl 0 rfl) ?_
      refine lv_iload_n hx hb dJx4a65c_grow_92f84_21 rfl (lv_at hl 2 rfl) ?_
      refine lv_iload_n hx hb dJx4a65c_grow_92f84_22 rfl (lv_at hl 0 rfl) ?_
      refine isub_n (x := mn) (y := m9) (by omega) hx hb dJx4a65c_grow_92f84_23 ?_
      refine lv_iload_n hx hb dJx4a65c_grow_92f84_24 rfl (lv_at hl 0 rfl) ?_
      refine lv_iconst (v := 1) hx hb dJx4a65c_grow_92f84_25 (by decide) ?_
      refine lv_ishr hx hb dJx4a65c_grow_92f84_26 ?_
      refine top_eq (y := nI (m9 / 2)) (by exact half_n hm) ?_
      refine vp_callSi (W.runS (As := [.int (nI m9), .int (nI (mn - m9)), .int (nI (m9 / 2))]) (rest := []) ⟨hx, hb, hml, hown, hts⟩ (k_J8_newLength_cabcc l m9 (mn - m9) (m9 / 2) (by omega) (by omega)) (va_cwS 3 hts gJx4a65c_grow_92f84_J8_newLength_cabcc rfl rfl rfl (by decide +kernel) ⟨Nat.le_of_ble_eq_true rfl, Nat.le_of_ble_eq_true rfl⟩) ⟨nf_blind, fun U hU hW => ⟨rfl, trivial⟩⟩ rfl rfl hl.1 rfl (lv_room (Nat.le_of_ble_eq_true rfl)) dJx4a65c_grow_92f84_27 ⟨Nat.le_of_ble_eq_true rfl, Nat.le_of_ble_eq_true rfl⟩) (fun r er => ?_)
      subst er
      refine lv_istore_n (lv' := [(3, .int (nI (m9 + (m9 / 2)))), (2, .int (nI m9)), (0, .ref a), (1, .int (nI mn))]) hx hb dJx4a65c_grow_92f84_30 rfl hl (by decide) rfl (fun ls hl => ?_)
      refine lv_aload_n hx hb dJx4a65c_grow_92f84_31 rfl (lv_at hl 2 rfl) ?_
      refine lv_aload_n hx hb dJx4a65c_grow_92f84_32 rfl (lv_at hl 2 rfl) ?_
      refine va_get (D := D) (ci := 0) (v := .ref d) (C := RJx4a65c) (T := TJx4a65c) (N := 3) hx hb hts (fun _ h => List.mem_cons_of_mem _ (List.mem_append_right _ (h))) hown hK hP 0 rfl rfl 1 (by decide) (hts _ (List.mem_of_getElem? (i := 1) rfl)) (fun _ h9 => h9) rfl dJx4a65c_grow_92f84_33 ?_
      refine lv_iload_n hx hb dJx4a65c_grow_92f84_36 rfl (lv_at hl 0 rfl) ?_
      have hPd : va_P D vwCl [(d, refs cO m9 q)] H := va_P_in hP (fun x hx => List.mem_cons_of_mem _ hx)
      have hsub : ∀ x, alZ d z0 x → alB a d z0 x := fun x hx => Or.inr hx
      refine va_callq (va_runS (As := [.ref d, .int (nI (m9 + m9 / 2))]) (rest := [.ref a]) ⟨hx, hb, hml, hown, hts⟩ (k_cpy2 l D cI cZ cO d m9 (m9 + m9 / 2) mi z0 q (by omega) (fun j hj y hy hc => hnA j hj y hy (hsub y hc))) (va_cwS 2 hts gJx4a65c_grow_92f84_J7_copyOf_1904c rfl rfl rfl (by decide +kernel) ⟨Nat.le_of_ble_eq_true rfl, Nat.le_of_ble_eq_true rfl⟩) ⟨rdK_blind, rdK_pre hPd hK hN hC hnA hS⟩ rfl rfl hl.1 rfl (lv_room (Nat.le_of_ble_eq_true rfl)) dJx4a65c_grow_92f84_37 ⟨Nat.le_of_ble_eq_true rfl, Nat.le_of_ble_eq_true rfl⟩) hS (fun x _ h => hsub x h) hsub (fun r b9 t H1 locs ht hvm hw hB hz1 hk1 hS => ?_)
      subst hw
      obtain ⟨hP1, hz9, hnd9⟩ := hB
      rw [ht] at hP1
      have hne9 : b9 ≠ a := by omega
      have hP := lB_at hP hk1 hP1 had haz
      refine top_rf (q := b9) rfl ?_
      refine lv_dup_x1 hx hb dJx4a65c_grow_92f84_40 rfl rfl ?_
      refine va_put (D := D) (ci := 0) (v := .ref b9) (ty := .array (.object "java/lang/Object")) (C := RJx4a65c) (T := TJx4a65c) (N := 3) hx hb hts (fun _ h => List.mem_cons_of_mem _ (List.mem_append_right _ (h))) tyJx4a65c tyJx4a65c_ok nmJx4a65c hown hK hP (lB_D hne9 (Or.inr (Or.inr hz9))) hS 0 rfl rfl 1 (by decide) (hts _ (List.mem_of_getElem? (i := 1) rfl)) (fun _ h9 => h9) rfl (by decide +kernel) rfl rfl (Nat.le_of_ble_eq_true rfl) dJx4a65c_grow_92f84_41 (fun H locs hP _ hS => ?_)
      subst hQ
      refine W.widen (k := 1) (n := 22) (Nat.le_of_ble_eq_true rfl) (Nat.le_of_ble_eq_true rfl) ?_
      exact W.aret (v := va_rf (some b9)) hx hb hr (Or.inr ⟨_, rfl⟩) (va_rf_or _) (fun t ht hW => ⟨⟨some b9, b9, rfl, rfl, by have e := hP; rw [← ht] at e; exact ⟨e, hz9, hne9⟩⟩, hS.F ht⟩) hS.2.2 dJx4a65c_grow_92f84_44
    ·
      exact absurd (show nI 0 < nI m9 from nI_lt (by omega) (by omega)) c_7
  exact go _ _ hP va_S.rf
