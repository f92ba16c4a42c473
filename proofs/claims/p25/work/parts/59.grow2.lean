set_option maxHeartbeats 800000 in
set_option maxRecDepth 100000 in
theorem k_growC (l : Launch) (D : va_G) (cI cZ cO : ClassId) (a e0 z0 : Nat) (mcv : Int32) (mn : Nat) (hmn : mn ≤ 10) : Met l yJx4a65c_grow_92f84 wsJx4a65c_grow_92f84 (rma 2 60) (va_Pc [.ref a, .int (nI mn)] (rdY D ([(cI, .int), (cI, .int), (cO, .object "java/lang/Object")]) (l1W a mcv e0 (nI 0)) (growY D cO a e0 z0))) (va_Qq (fun (r : Option Nat) (b : Nat) => r = some b) (fun b t => va_P D vwCl (l2W cO a b 10 (fun _ => none) mcv b (nI 0)) t.heap ∧ z0 ≤ b ∧ b ≠ a) (alZ a z0)) 1 22 (alZ a z0) := by
  refine Met.ofW (cc := cJx4a65c_grow_92f84) (maxL := 4) (ret := (some (.array (.object "java/lang/Object")))) (by decide) rfl ?_
  intro p e s m args below meth c s₁ B hml hv
  obtain ⟨hargs, ⟨hP, hK, hN⟩, hG⟩ := hv
  have hx := B.exec
  have hb := B.bytes
  have hr := B.returns
  have hts := atoms_spec (ws := wsJx4a65c_grow_92f84) B.pre
  have hown : s.vm.findClass RJx4a65c = some m.cls := findClass_of_methodNamed B.named
  have hlocks := B.notSynchronized
  have hen : entryFrame m args 4 = entryFrame m ([.ref a, .int (nI mn)] : List Value).toArray 4 := by rw [hargs]
  rw [hen]
  have hl := lv_entry ([.ref a, .int (nI mn)]) (n := 4) (Nat.le_of_ble_eq_true rfl)
  rw [lg_entry_eq]
  generalize (lg_sl ([.ref a, .int (nI mn)]) ++ List.replicate (4 - (lg_sl ([.ref a, .int (nI mn)])).length) Slot.unset).toArray = ls at hl ⊢
  have hl : lv_has ls 4 [(0, .ref a), (1, .int (nI mn))] := hl
  generalize hQ : MQ below (va_Qq (fun (r : Option Nat) (b : Nat) => r = some b) (fun b t => va_P D vwCl (l2W cO a b 10 (fun _ => none) mcv b (nI 0)) t.heap ∧ z0 ≤ b ∧ b ≠ a) (alZ a z0)) args s 1 22 (alZ a z0) = Q
  have hA : True := trivial
  have go : ∀ (H : Heap) (locs : List Loc), va_P D vwCl (l1W a mcv e0 (nI 0)) H → va_S (alZ a z0) s.heap H locs → W p l e (headSpec wsJx4a65c_grow_92f84 (rma 2 60)).room s m args below meth c H locs 0 0 Q (F0 m 0 ls []) := by
    intro H locs hP hS
    have hT0 := hG.1
    refine lv_aload_n hx hb dJx4a65c_grow_92f84_0 rfl (lv_at hl 0 rfl) ?_
    refine va_get (D := D) (ci := 0) (v := .ref e0) (C := RJx4a65c) (T := TJx4a65c) (N := 3) hx hb hts (fun _ h => List.mem_cons_of_mem _ (List.mem_append_right _ (h))) hown hK hP 0 rfl rfl 1 (by decide) (hts _ (List.mem_of_getElem? (i := 1) rfl)) (fun _ h9 => h9) rfl dJx4a65c_grow_92f84_1 ?_
    refine va_tlen (v := nI 0) hx hb hT0 hS rfl dJx4a65c_grow_92f84_4 ?_
    refine lv_istore_n (lv' := [(2, .int (nI 0)), (0, .ref a), (1, .int (nI mn))]) hx hb dJx4a65c_grow_92f84_5 rfl hl (by decide) rfl (fun ls hl => ?_)
    refine lv_iload_n hx hb dJx4a65c_grow_92f84_6 rfl (lv_at hl 0 rfl) ?_
    refine lv_if_gt (tgt := 20) hx hb dJx4a65c_grow_92f84_7 (by decide) (fun c_7 => ?_) (fun c_7 => ?_)
    ·
      exact absurd c_7 (by decide)
    ·
      refine lv_aload_n hx hb dJx4a65c_grow_92f84_10 rfl (lv_at hl 1 rfl) ?_
      refine va_get (D := D) (ci := 0) (v := .ref e0) (C := RJx4a65c) (T := TJx4a65c) (N := 3) hx hb hts (fun _ h => List.mem_cons_of_mem _ (List.mem_append_right _ (h))) hown hK hP 0 rfl rfl 1 (by decide) (hts _ (List.mem_of_getElem? (i := 1) rfl)) (fun _ h9 => h9) rfl dJx4a65c_grow_92f84_11 ?_
      refine va_gets hx hb (hG.2.1) hS hown (hts _ (List.mem_of_getElem? (i := 2) rfl)) (fun _ h9 => h9) dJx4a65c_grow_92f84_14 ?_
      refine lv_acmp_eq (rx := some e0) (ry := some e0) (tgt := 45) hx hb dJx4a65c_grow_92f84_17 (by decide) (fun c_17 => ?_) (fun c_17 => ?_)
      ·
        refine lv_aload_n hx hb dJx4a65c_grow_92f84_45 rfl (lv_at hl 1 rfl) ?_
        refine lv_bipush (v := 10) hx hb dJx4a65c_grow_92f84_46 (by decide) ?_
        refine lv_iload_n hx hb dJx4a65c_grow_92f84_48 rfl (lv_at hl 2 rfl) ?_
        refine va_mmax hx hb (hml.trans hl.1.symm) hown (hts _ (List.mem_of_getElem? (i := 3) rfl)) (hts _ (List.mem_of_getElem? (i := 4) rfl)) (hts _ (List.mem_of_getElem? (i := 5) rfl)) (hts _ (List.mem_of_getElem? (i := 6) rfl)) (Nat.le_of_ble_eq_true rfl) (Nat.le_of_ble_eq_true rfl) (Nat.zero_le _) (Nat.zero_le _) dJx4a65c_grow_92f84_49 ?_
        refine top_eq (y := 10) (by exact if_neg (Int32.not_lt.mpr (nI_le (b := 10) hmn (by decide)))) ?_
        refine va_newq (N' := 10) hx hb hown (hts _ (List.mem_of_getElem? (i := 7) rfl)) (hG.2.2.2.1) hK hP l1_D hS (fun q9 hq9 => Or.inr (Nat.le_trans hG.2.2.1 hq9)) (by decide) (by decide) (by decide) (Nat.le_of_ble_eq_true rfl) (Nat.le_of_ble_eq_true rfl) dJx4a65c_grow_92f84_52 (fun b9 cA H hK2 hP hD9 hS => ?_)
        have hcA : cO = cA := idO (u := 2) (v := 3) hK2 rfl rfl
        subst hcA
        have hne9 : b9 ≠ a := fun h9 => by have h8 := hD9.1 1 0 _ _ rfl rfl h9; omega
        have hz9 : z0 ≤ b9 := (hD9.2 1 _ rfl).resolve_left hne9
        have hP : va_P D vwCl (l2W cO a b9 10 (fun _ => none) mcv e0 (nI 0)) H := hP
        refine lv_dup_x1 hx hb dJx4a65c_grow_92f84_55 rfl rfl ?_
        refine va_put (D := D) (ci := 0) (v := .ref b9) (ty := .array (.object "java/lang/Object")) (C := RJx4a65c) (T := TJx4a65c) (N := 3) hx hb hts (fun _ h => List.mem_cons_of_mem _ (List.mem_append_right _ (h))) tyJx4a65c tyJx4a65c_ok nmJx4a65c hown hK hP (l2_D hne9 hz9) hS 0 rfl rfl 1 (by decide) (hts _ (List.mem_of_getElem? (i := 1) rfl)) (fun _ h9 => h9) rfl (by decide +kernel) rfl rfl (Nat.le_of_ble_eq_true rfl) dJx4a65c_grow_92f84_56 (fun H locs hP _ hS => ?_)
        subst hQ
        refine W.widen (k := 1) (n := 22) (Nat.le_of_ble_eq_true rfl) (Nat.le_of_ble_eq_true rfl) ?_
        exact W.aret (v := va_rf (some b9)) hx hb hr (Or.inr ⟨_, rfl⟩) (va_rf_or _) (fun t ht hW => ⟨⟨some b9, b9, rfl, rfl, by have e := hP; rw [← ht] at e; exact ⟨e, hz9, hne9⟩⟩, hS.F ht⟩) hS.2.2 dJx4a65c_grow_92f84_59
      ·
        exact absurd rfl c_17
  exact go _ _ hP va_S.rf
