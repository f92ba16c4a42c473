set_option maxHeartbeats 800000 in
set_option maxRecDepth 100000 in
theorem k_growC2 (l : Launch) (D : va_G) (cI cZ cO : ClassId) (a e0 z0 : Nat) (mcv : Int32)  : Met l yJx4a65c_grow_d5877 wsJx4a65c_grow_d5877 (rma 3 90) (va_Pc [.ref a] (rdY D ([(cI, .int), (cI, .int), (cO, .object "java/lang/Object")]) (l1W a mcv e0 (nI 0)) (growY D cO a e0 z0))) (va_Qq (fun (r : Option Nat) (b : Nat) => r = some b) (fun b t => va_P D vwCl (l2W cO a b 10 (fun _ => none) mcv b (nI 0)) t.heap ∧ z0 ≤ b ∧ b ≠ a) (alZ a z0)) 1 22 (alZ a z0) := by
  refine Met.ofW (cc := cJx4a65c_grow_d5877) (maxL := 1) (ret := (some (.array (.object "java/lang/Object")))) (by decide) rfl ?_
  intro p e s m args below meth c s₁ B hml hv
  obtain ⟨hargs, ⟨hP, hK, hN⟩, hG⟩ := hv
  have hx := B.exec
  have hb := B.bytes
  have hr := B.returns
  have hts := atoms_spec (ws := wsJx4a65c_grow_d5877) B.pre
  have hown : s.vm.findClass RJx4a65c = some m.cls := findClass_of_methodNamed B.named
  have hlocks := B.notSynchronized
  have hen : entryFrame m args 1 = entryFrame m ([.ref a] : List Value).toArray 1 := by rw [hargs]
  rw [hen]
  have hl := lv_entry ([.ref a]) (n := 1) (Nat.le_of_ble_eq_true rfl)
  rw [lg_entry_eq]
  generalize (lg_sl ([.ref a]) ++ List.replicate (1 - (lg_sl ([.ref a])).length) Slot.unset).toArray = ls at hl ⊢
  have hl : lv_has ls 1 [(0, .ref a)] := hl
  generalize hQ : MQ below (va_Qq (fun (r : Option Nat) (b : Nat) => r = some b) (fun b t => va_P D vwCl (l2W cO a b 10 (fun _ => none) mcv b (nI 0)) t.heap ∧ z0 ≤ b ∧ b ≠ a) (alZ a z0)) args s 1 22 (alZ a z0) = Q
  have hA : True := trivial
  have go : ∀ (H : Heap) (locs : List Loc), va_P D vwCl (l1W a mcv e0 (nI 0)) H → va_S (alZ a z0) s.heap H locs → W p l e (headSpec wsJx4a65c_grow_d5877 (rma 3 90)).room s m args below meth c H locs 0 0 Q (F0 m 0 ls []) := by
    intro H locs hP hS
    have hT0 := hG.1
    refine lv_aload_n hx hb dJx4a65c_grow_d5877_0 rfl (lv_at hl 0 rfl) ?_
    refine lv_aload_n hx hb dJx4a65c_grow_d5877_1 rfl (lv_at hl 0 rfl) ?_
    refine va_get (D := D) (ci := 0) (v := .int (nI 0)) (C := RJx4a65c) (T := TJx4a65c) (N := 3) hx hb hts (fun _ h => List.mem_cons_of_mem _ (List.mem_append_right _ (h))) hown hK hP 0 rfl rfl 2 (by decide) (hts _ (List.mem_of_getElem? (i := 1) rfl)) (fun _ h9 => h9) rfl dJx4a65c_grow_d5877_2 ?_
    refine lv_iconst (v := 1) hx hb dJx4a65c_grow_d5877_5 (by decide) ?_
    refine iadd_n (x := 0) (y := 1) hx hb dJx4a65c_grow_d5877_6 ?_
    refine va_callq (va_runV (As := [.int (nI (0 + 1))]) (rest := []) ⟨hx, hb, hml, hown, hts⟩ (k_growC l D cI cZ cO a e0 z0 mcv (0 + 1) (by decide)) (cwV 1 hts gJx4a65c_grow_d5877_Jx4a65c_grow_92f84 rfl rfl rfl (by decide +kernel) ⟨Nat.le_of_ble_eq_true rfl, Nat.le_of_ble_eq_true rfl⟩) ⟨rdG_blind, va_recv hK hP (ci := 0) (q0 := 0) rfl rfl, rdG_pre hP hK hN hG hS⟩ rfl rfl hl.1 rfl (lv_room (Nat.le_of_ble_eq_true rfl)) dJx4a65c_grow_d5877_7 ⟨Nat.le_of_ble_eq_true rfl, Nat.le_of_ble_eq_true rfl⟩) hS (fun q _ h => h) (fun q h => h) (fun r b9 t H locs ht hvm hw hB hz1 hk1 hS => ?_)
    subst hw
    obtain ⟨hP, hz9, hne9⟩ := hB
    rw [ht] at hP
    refine top_rf (q := b9) rfl ?_
    subst hQ
    refine W.widen (k := 1) (n := 22) (Nat.le_of_ble_eq_true rfl) (Nat.le_of_ble_eq_true rfl) ?_
    exact W.aret (v := va_rf (some b9)) hx hb hr (Or.inr ⟨_, rfl⟩) (va_rf_or _) (fun t ht hW => ⟨⟨some b9, b9, rfl, rfl, by have e := hP; rw [← ht] at e; exact ⟨e, hz9, hne9⟩⟩, hS.F ht⟩) hS.2.2 dJx4a65c_grow_d5877_10
  exact go _ _ hP va_S.rf

set_option maxHeartbeats 800000 in
set_option maxRecDepth 100000 in
theorem k_addC (l : Launch) (D : va_G) (cI cZ cO : ClassId) (a e0 z0 : Nat) (mcv : Int32) (v : Nat) (hva : v ≠ a) (hvz : v < z0) : Met l yJx4a65c_add_72be8 wsJx4a65c_add_72be8 (rma 4 120) (va_Pc [.ref a, .ref v, .ref e0, .int (nI 0)] (rdY D ([(cI, .int), (cI, .int), (cO, .object "java/lang/Object")]) (l1W a mcv e0 (nI 0)) (gaY D cO a e0 z0 v))) (va_Qv (fun _ : Nat => True) (fun b t => va_P D vwCl (l2W cO a b 10 (va_up (fun _ => none) 0 (some v)) mcv b (nI (0 + 1))) t.heap ∧ z0 ≤ b ∧ b ≠ a) (alZ a z0)) 1 22 (alZ a z0) := by
  refine Met.ofW (cc := cJx4a65c_add_72be8) (maxL := 4) (ret := none) (by decide) rfl ?_
  intro p e s m args below meth c s₁ B hml hv
  obtain ⟨hargs, ⟨hP, hK, hN⟩, hG⟩ := hv
  obtain ⟨hG, hV⟩ := hG
  have hnV := nV hva hvz
  have hx := B.exec
  have hb := B.bytes
  have hr := B.returns
  have hts := atoms_spec (ws := wsJx4a65c_add_72be8) B.pre
  have hown : s.vm.findClass RJx4a65c = some m.cls := findClass_of_methodNamed B.named
  have hlocks := B.notSynchronized
  have hen : entryFrame m args 4 = entryFrame m ([.ref a, .ref v, .ref e0, .int (nI 0)] : List Value).toArray 4 := by rw [hargs]
  rw [hen]
  have hl := lv_entry ([.ref a, .ref v, .ref e0, .int (nI 0)]) (n := 4) (Nat.le_of_ble_eq_true rfl)
  rw [lg_entry_eq]
  generalize (lg_sl ([.ref a, .ref v, .ref e0, .int (nI 0)]) ++ List.replicate (4 - (lg_sl ([.ref a, .ref v, .ref e0, .int (nI 0)])).length) Slot.unset).toArray = ls at hl ⊢
  have hl : lv_has ls 4 [(0, .ref a), (1, .ref v), (2, .ref e0), (3, .int (nI 0))] := hl
  generalize hQ : MQ below (va_Qv (fun _ : Nat => True) (fun b t => va_P D vwCl (l2W cO a b 10 (va_up (fun _ => none) 0 (some v)) mcv b (nI (0 + 1))) t.heap ∧ z0 ≤ b ∧ b ≠ a) (alZ a z0)) args s 1 22 (alZ a z0) = Q
  have hA : True := trivial
  have go : ∀ (H : Heap) (locs : List Loc), va_P D vwCl (l1W a mcv e0 (nI 0)) H → va_S (alZ a z0) s.heap H locs → W p l e (headSpec wsJx4a65c_add_72be8 (rma 4 120)).room s m args below meth c H locs 0 0 Q (F0 m 0 ls []) := by
    intro H locs hP hS
    have hT0 := hG.1
    refine lv_iload_n hx hb dJx4a65c_add_72be8_0 rfl (lv_at hl 3 rfl) ?_
    refine lv_aload_n hx hb dJx4a65c_add_72be8_1 rfl (lv_at hl 2 rfl) ?_
    refine va_tlen (v := nI 0) hx hb hT0 hS rfl dJx4a65c_add_72be8_2 ?_
    refine lv_icmp_ne (tgt := 11) hx hb dJx4a65c_add_72be8_3 (by decide) (fun c_3 => ?_) (fun c_3 => ?_)
    ·
      exact absurd rfl c_3
    ·
      refine lv_aload_n hx hb dJx4a65c_add_72be8_6 rfl (lv_at hl 0 rfl) ?_
      refine va_callq (va_runV (As := []) (rest := []) ⟨hx, hb, hml, hown, hts⟩ (k_growC2 l D cI cZ cO a e0 z0 mcv) (cwV 0 hts gJx4a65c_add_72be8_Jx4a65c_grow_d5877 rfl rfl rfl (by decide +kernel) ⟨Nat.le_of_ble_eq_true rfl, Nat.le_of_ble_eq_true rfl⟩) ⟨rdG_blind, va_recv hK hP (ci := 0) (q0 := 0) rfl rfl, rdG_pre hP hK hN hG hS⟩ rfl rfl hl.1 rfl (lv_room (Nat.le_of_ble_eq_true rfl)) dJx4a65c_add_72be8_7 ⟨Nat.le_of_ble_eq_true rfl, Nat.le_of_ble_eq_true rfl⟩) hS (fun q _ h => h) (fun q h => h) (fun r b9 t H locs ht hvm hw hB hz1 hk1 hS => ?_)
      subst hw
      obtain ⟨hP, hz9, hne9⟩ := hB
      rw [ht] at hP
      refine top_rf (q := b9) rfl ?_
      refine lv_astore_n (lv' := [(2, .ref b9), (0, .ref a), (1, .ref v), (3, .int (nI 0))]) hx hb dJx4a65c_add_72be8_10 rfl hl (by decide) rfl (fun ls hl => ?_)
      refine lv_aload_n hx hb dJx4a65c_add_72be8_11 rfl (lv_at hl 0 rfl) ?_
      refine lv_iload_n hx hb dJx4a65c_add_72be8_12 rfl (lv_at hl 3 rfl) ?_
      refine lv_aload_n hx hb dJx4a65c_add_72be8_13 rfl (lv_at hl 2 rfl) ?_
      refine st_qM (k := 0) hx hb hK hP (l2_D hne9 hz9) hS 1 2 rfl rfl (hV.at hnV hS (j := 0) (by decide) rfl) (by decide) (by decide) dJx4a65c_add_72be8_14 (fun H locs hP _ hS => ?_)
      have hP : va_P D vwCl (l2W cO a b9 10 (va_up (fun _ => none) 0 (some v)) mcv b9 (nI 0)) H := hP
      refine lv_aload_n hx hb dJx4a65c_add_72be8_15 rfl (lv_at hl 1 rfl) ?_
      refine lv_iload_n hx hb dJx4a65c_add_72be8_16 rfl (lv_at hl 3 rfl) ?_
      refine lv_iconst (v := 1) hx hb dJx4a65c_add_72be8_17 (by decide) ?_
      refine iadd_n (x := 0) (y := 1) hx hb dJx4a65c_add_72be8_18 ?_
      refine va_put (D := D) (ci := 0) (v := .int (nI (0 + 1))) (ty := .int) (C := RJx4a65c) (T := TJx4a65c) (N := 3) hx hb hts (fun _ h => List.mem_cons_of_mem _ (List.mem_append_right _ (h))) tyJx4a65c tyJx4a65c_ok nmJx4a65c hown hK hP ((fun _ => l2_D hne9 hz9) hA) hS 0 rfl rfl 2 (by decide) (hts _ (List.mem_of_getElem? (i := 1) rfl)) (fun _ h9 => h9) rfl (by decide +kernel) rfl rfl (Nat.le_of_ble_eq_true rfl) dJx4a65c_add_72be8_19 (fun H locs hP _ hS => ?_)
      have hP : va_P D vwCl (l2W cO a b9 10 (va_up (fun _ => none) 0 (some v)) mcv b9 (nI (0 + 1))) H := hP
      subst hQ
      refine W.widen (k := 1) (n := 22) (Nat.le_of_ble_eq_true rfl) (Nat.le_of_ble_eq_true rfl) ?_
      exact W.vret hx hb hr (fun t ht hW => ⟨⟨b9, rfl, trivial, by have e := hP; rw [← ht] at e; exact ⟨e, hz9, hne9⟩⟩, hS.F ht⟩) hS.2.2 dJx4a65c_add_72be8_22
  exact go _ _ hP va_S.rf

set_option maxHeartbeats 800000 in
set_option maxRecDepth 100000 in
theorem k_addC2 (l : Launch) (D : va_G) (cI cZ cO : ClassId) (a e0 z0 : Nat) (mcv : Int32) (v : Nat) (hva : v ≠ a) (hvz : v < z0) : Met l yJx4a65c_add_9ea2d wsJx4a65c_add_9ea2d (rma 5 150) (va_Pc [.ref a, .ref v] (rdY D ([(cI, .int), (cI, .int), (cO, .object "java/lang/Object")]) (l1W a mcv e0 (nI 0)) (gaY D cO a e0 z0 v))) (va_Qi (fun (r : Int32) (_ : Nat) => r = b2i true) (fun b t => va_P D vwCl (l2W cO a b 10 (va_up (fun _ => none) 0 (some v)) (mcv + 1) b (nI (0 + 1))) t.heap ∧ z0 ≤ b ∧ b ≠ a) (alZ a z0)) 1 22 (alZ a z0) := by
  refine Met.ofW (cc := cJx4a65c_add_9ea2d) (maxL := 2) (ret := (some .boolean)) (by decide) rfl ?_
  intro p e s m args below meth c s₁ B hml hv
  obtain ⟨hargs, ⟨hP, hK, hN⟩, hG⟩ := hv
  obtain ⟨hG, hV⟩ := hG
  have hnV := nV hva hvz
  have hx := B.exec
  have hb := B.bytes
  have hr := B.returns
  have hts := atoms_spec (ws := wsJx4a65c_add_9ea2d) B.pre
  have hown : s.vm.findClass RJx4a65c = some m.cls := findClass_of_methodNamed B.named
  have hlocks := B.notSynchronized
  have hen : entryFrame m args 2 = entryFrame m ([.ref a, .ref v] : List Value).toArray 2 := by rw [hargs]
  rw [hen]
  have hl := lv_entry ([.ref a, .ref v]) (n := 2) (Nat.le_of_ble_eq_true rfl)
  rw [lg_entry_eq]
  generalize (lg_sl ([.ref a, .ref v]) ++ List.replicate (2 - (lg_sl ([.ref a, .ref v])).length) Slot.unset).toArray = ls at hl ⊢
  have hl : lv_has ls 2 [(0, .ref a), (1, .ref v)] := hl
  generalize hQ : MQ below (va_Qi (fun (r : Int32) (_ : Nat) => r = b2i true) (fun b t => va_P D vwCl (l2W cO a b 10 (va_up (fun _ => none) 0 (some v)) (mcv + 1) b (nI (0 + 1))) t.heap ∧ z0 ≤ b ∧ b ≠ a) (alZ a z0)) args s 1 22 (alZ a z0) = Q
  have hA : True := trivial
  have go : ∀ (H : Heap) (locs : List Loc), va_P D vwCl (l1W a mcv e0 (nI 0)) H → va_S (alZ a z0) s.heap H locs → W p l e (headSpec wsJx4a65c_add_9ea2d (rma 5 150)).room s m args below meth c H locs 0 0 Q (F0 m 0 ls []) := by
    intro H locs hP hS
    have hT0 := hG.1
    refine lv_aload_n hx hb dJx4a65c_add_9ea2d_0 rfl (lv_at hl 0 rfl) ?_
    refine lv_dup hx hb dJx4a65c_add_9ea2d_1 rfl ?_
    refine va_get (D := D) (ci := 0) (v := .int mcv) (C := RJx4a65c) (T := TJx4a65c) (N := 3) hx hb hts (fun _ h => List.mem_cons_of_mem _ (List.mem_append_right _ (h))) hown hK hP 0 rfl rfl 0 (by decide) (hts _ (List.mem_of_getElem? (i := 1) rfl)) (fun x9 h9 => u_same (hts _ (List.mem_of_getElem? (i := 2) rfl)) x9 h9) rfl dJx4a65c_add_9ea2d_2 ?_
    refine lv_iconst (v := 1) hx hb dJx4a65c_add_9ea2d_5 (by decide) ?_
    refine lv_iadd hx hb dJx4a65c_add_9ea2d_6 ?_
    refine va_put (D := D) (ci := 0) (v := .int (mcv + 1)) (ty := .int) (C := RJx4a65c) (T := TJx4a65c) (N := 3) hx hb hts (fun _ h => List.mem_cons_of_mem _ (List.mem_append_right _ (h))) tyJx4a65c tyJx4a65c_ok nmJx4a65c hown hK hP ((fun _ => l1_D) hA) hS 0 rfl rfl 0 (by decide) (hts _ (List.mem_of_getElem? (i := 1) rfl)) (fun x9 h9 => u_same (hts _ (List.mem_of_getElem? (i := 2) rfl)) x9 h9) rfl (by decide +kernel) rfl rfl (Nat.le_of_ble_eq_true rfl) dJx4a65c_add_9ea2d_7 (fun H locs hP _ hS => ?_)
    have hP : va_P D vwCl (l1W a (mcv + 1) e0 (nI 0)) H := hP
    refine lv_aload_n hx hb dJx4a65c_add_9ea2d_10 rfl (lv_at hl 0 rfl) ?_
    refine lv_aload_n hx hb dJx4a65c_add_9ea2d_11 rfl (lv_at hl 1 rfl) ?_
    refine lv_aload_n hx hb dJx4a65c_add_9ea2d_12 rfl (lv_at hl 0 rfl) ?_
    refine va_get (D := D) (ci := 0) (v := .ref e0) (C := RJx4a65c) (T := TJx4a65c) (N := 3) hx hb hts (fun _ h => List.mem_cons_of_mem _ (List.mem_append_right _ (h))) hown hK hP 0 rfl rfl 1 (by decide) (hts _ (List.mem_of_getElem? (i := 3) rfl)) (fun _ h9 => h9) rfl dJx4a65c_add_9ea2d_13 ?_
    refine lv_aload_n hx hb dJx4a65c_add_9ea2d_16 rfl (lv_at hl 0 rfl) ?_
    refine va_get (D := D) (ci := 0) (v := .int (nI 0)) (C := RJx4a65c) (T := TJx4a65c) (N := 3) hx hb hts (fun _ h => List.mem_cons_of_mem _ (List.mem_append_right _ (h))) hown hK hP 0 rfl rfl 2 (by decide) (hts _ (List.mem_of_getElem? (i := 4) rfl)) (fun _ h9 => h9) rfl dJx4a65c_add_9ea2d_17 ?_
    refine va_callv (va_runV (As := [.ref v, .ref e0, .int (nI 0)]) (rest := []) ⟨hx, hb, hml, hown, hts⟩ (k_addC l D cI cZ cO a e0 z0 (mcv + 1) v hva hvz) (cwV 3 hts gJx4a65c_add_9ea2d_Jx4a65c_add_72be8 rfl rfl rfl (by decide +kernel) ⟨Nat.le_of_ble_eq_true rfl, Nat.le_of_ble_eq_true rfl⟩) ⟨rdH_blind, va_recv hK hP (ci := 0) (q0 := 0) rfl rfl, rdH_pre hP hK hN hG hS (fun j hj y hy => hV.at hnV hS hj hy)⟩ rfl rfl hl.1 rfl (lv_room (Nat.le_of_ble_eq_true rfl)) dJx4a65c_add_9ea2d_20 ⟨Nat.le_of_ble_eq_true rfl, Nat.le_of_ble_eq_true rfl⟩) hS (fun q _ h => h) (fun q h => h) (fun b9 t H locs ht hvm hw hB hz1 hk1 hS => ?_)
    obtain ⟨hP, hz9, hne9⟩ := hB
    rw [ht] at hP
    refine lv_iconst (v := 1) hx hb dJx4a65c_add_9ea2d_23 (by decide) ?_
    subst hQ
    refine W.widen (k := 1) (n := 22) (Nat.le_of_ble_eq_true rfl) (Nat.le_of_ble_eq_true rfl) ?_
    exact W.zret (v := 1) hx hb hr rfl (fun t ht hW => ⟨⟨_, b9, rfl, rfl, by have e := hP; rw [← ht] at e; exact ⟨e, hz9, hne9⟩⟩, hS.F ht⟩) hS.2.2 dJx4a65c_add_9ea2d_24
  exact go _ _ hP va_S.rf
