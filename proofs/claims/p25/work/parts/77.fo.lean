set_option maxHeartbeats 800000 in
set_option maxRecDepth 100000 in
theorem k_X1i (l : Launch) (D : va_G) (cI cZ cO : ClassId) (a z0 : Nat) (e0 pa : Nat) (ow9 : Int32) : Met l yX1_init wsX1_init { frames := 5, cells := 2, slots := 11, locals := 130 } (va_Pc [.ref a, .ref pa, .int ow9] (rdY D ([(cI, .int), (cI, .int), (cO, .object "java/lang/Object")]) ([(a, .inr (2, [.null, .null, .null, .int 0, .int 0, .int 0, .int 0]))]) (foY a e0 z0))) (va_Qv (fun _ : Nat → Nat => True) (fun u t => va_P D vwCl ([(a, .inr (2, [.ref pa, .ref (u 1), .ref (u 2), .int ow9, .int 1, .int 0, .int 0])), ((u 1), .inr (0, [.int 0, .ref e0, .int 0])), ((u 2), i0 cI 8)]) t.heap ∧ va_D (alZ a z0) ([(a, .inr (2, [.ref pa, .ref (u 1), .ref (u 2), .int ow9, .int 1, .int 0, .int 0])), ((u 1), .inr (0, [.int 0, .ref e0, .int 0])), ((u 2), i0 cI 8)])) (alZ a z0)) 2 11 (alZ a z0) := by
  refine Met.ofW (cc := cX1_init) (maxL := 3) (ret := none) (by decide) rfl ?_
  intro p e s m args below meth c s₁ B hml hv
  obtain ⟨hargs, ⟨hP, hK, hN⟩, hz0, hZ⟩ := hv
  have hin : meth.name = "<init>" := (name_of_methodNamed B.named B.method).1
  have hx := B.exec
  have hb := B.bytes
  have hr := B.returns
  have hts := atoms_spec (ws := wsX1_init) B.pre
  have hown : s.vm.findClass RX1 = some m.cls := findClass_of_methodNamed B.named
  have hlocks := B.notSynchronized
  have hen : entryFrame m args 3 = entryFrame m ([.ref a, .ref pa, .int ow9] : List Value).toArray 3 := by rw [hargs]
  rw [hen]
  have hl := lv_entry ([.ref a, .ref pa, .int ow9]) (n := 3) (Nat.le_of_ble_eq_true rfl)
  rw [lg_entry_eq]
  generalize (lg_sl ([.ref a, .ref pa, .int ow9]) ++ List.replicate (3 - (lg_sl ([.ref a, .ref pa, .int ow9])).length) Slot.unset).toArray = ls at hl ⊢
  have hl : lv_has ls 3 [(0, .ref a), (1, .ref pa), (2, .int ow9)] := hl
  generalize hQ : MQ below (va_Qv (fun _ : Nat → Nat => True) (fun u t => va_P D vwCl ([(a, .inr (2, [.ref pa, .ref (u 1), .ref (u 2), .int ow9, .int 1, .int 0, .int 0])), ((u 1), .inr (0, [.int 0, .ref e0, .int 0])), ((u 2), i0 cI 8)]) t.heap ∧ va_D (alZ a z0) ([(a, .inr (2, [.ref pa, .ref (u 1), .ref (u 2), .int ow9, .int 1, .int 0, .int 0])), ((u 1), .inr (0, [.int 0, .ref e0, .int 0])), ((u 2), i0 cI 8)])) (alZ a z0)) args s 2 11 (alZ a z0) = Q
  have hD : va_D (alZ a z0) ([(a, .inr (2, [.null, .null, .null, .int 0, .int 0, .int 0, .int 0]))]) := oz_D
  have hS : va_S (alZ a z0) s.heap s.heap [] := va_S.rf
  refine lv_aload_n hx hb dX1_init_0 rfl (lv_at hl 0 rfl) ?_
  refine W.objInit hx hb hown (hts _ (List.mem_of_getElem? (i := 1) rfl)) (hts _ (List.mem_of_getElem? (i := 2) rfl)) (hts _ (List.mem_of_getElem? (i := 3) rfl)) rfl (by rw [hml]; exact hl.1) rfl dX1_init_1 (Nat.le_of_ble_eq_true rfl) (Nat.le_of_ble_eq_true rfl) ?_
  refine W.eq (g2 := F0 m 4 ls []) rfl ?_
  refine lv_aload_n hx hb dX1_init_4 rfl (lv_at hl 0 rfl) ?_
  refine va_new (ci := 0) (fs := [.int 0, .null, .int 0]) (C := RJx4a65c) (T := TJx4a65c) (N := 3) hx hb hts (fun _ h => List.mem_cons_of_mem _ (List.mem_append_left _ (List.mem_append_right _ (h)))) tyJx4a65c tyJx4a65c_ok hown (hts _ (List.mem_of_getElem? (i := 4) rfl)) (hts _ (List.mem_of_getElem? (i := 5) rfl)) (hts _ (List.mem_of_getElem? (i := 6) rfl)) hK hP hD hS (fun q9 hq9 => Or.inr (Nat.le_trans hz0 hq9)) rfl (fun j hj => by rcases (show j = 0 ∨ j = 1 ∨ j = 2 by omega) with rfl | rfl | rfl <;> rfl) (Nat.le_of_ble_eq_true rfl) (Nat.le_of_ble_eq_true rfl) dX1_init_5 (fun b1 H hP hD hS => ?_)
  have hP : va_P D vwCl ([(a, .inr (2, [.null, .null, .null, .int 0, .int 0, .int 0, .int 0])), (b1, .inr (0, [.int 0, .null, .int 0]))]) H := hP
  have hD : va_D (alZ a z0) ([(a, .inr (2, [.null, .null, .null, .int 0, .int 0, .int 0, .int 0])), (b1, .inr (0, [.int 0, .null, .int 0]))]) := hD
  have hab : a ≠ b1 := fun h9 => by have h8 := hD.1 0 1 _ _ rfl rfl h9; omega
  have hA1 : alZ a z0 b1 := hD.2 1 _ rfl
  refine lv_dup hx hb dX1_init_8 rfl ?_
  have hPb : va_P D vwCl [(b1, .inr (0, [.int 0, .null, .int 0]))] H := va_P_in hP (fun q hq => List.mem_cons_of_mem _ hq)
  refine va_callv (va_runI (As := []) (rest := [.ref b1, .ref a]) ⟨hx, hb, hml, hown, hts⟩ (k_i3 l D cI cZ cO b1 e0) (cwI 0 hts gX1_init_Jx4a65c_init_da8c8 rfl rfl rfl (hts _ (List.mem_of_getElem? (i := 6) rfl)) (hts _ (List.mem_of_getElem? (i := 15) rfl)) (hts _ (List.mem_of_getElem? (i := 16) rfl)) rfl (by decide +kernel) ⟨Nat.le_of_ble_eq_true rfl, Nat.le_of_ble_eq_true rfl⟩) ⟨rdE_blind, rdE_pre hPb hK hN ((va_Z.kept hZ hS.2.1).narrow (fun q hq => by rw [hq]; exact hA1))⟩ rfl rfl hl.1 rfl (lv_room (Nat.le_of_ble_eq_true rfl)) dX1_init_9 ⟨Nat.le_of_ble_eq_true rfl, Nat.le_of_ble_eq_true rfl⟩) hS (fun q _ h => by rw [show q = b1 from h]; exact hA1) (fun q h => by rw [show q = b1 from h]; exact hA1) (fun u t H1 locs ht hvm hw hB hz1 hk1 hS => ?_)
  rw [ht] at hB
  have hP := fo_join hP hk1 hB hab
  have hD := fo_D (x' := .inr (0, [.int 0, .ref e0, .int 0])) hD
  refine va_putF (D := D) (ci := 2) (v := .ref b1) (ty := .object "java/util/ArrayList") (C := RX1) (T := TX1) (N := 7) hx hb hts (fun _ h => List.mem_cons_of_mem _ (List.mem_append_right _ (h))) tyX1 tyX1_ok nmX1 hown hK hP hD hS 0 rfl rfl 1 (by decide) (hts _ (List.mem_of_getElem? (i := 7) rfl)) (fun _ h9 => h9) rfl hin rfl (by decide +kernel) rfl rfl (Nat.le_of_ble_eq_true rfl) dX1_init_12 (fun H locs hP hD hS => ?_)
  have hP : va_P D vwCl ([(a, .inr (2, [.null, .ref b1, .null, .int 0, .int 0, .int 0, .int 0])), (b1, .inr (0, [.int 0, .ref e0, .int 0]))]) H := hP
  have hD : va_D (alZ a z0) ([(a, .inr (2, [.null, .ref b1, .null, .int 0, .int 0, .int 0, .int 0])), (b1, .inr (0, [.int 0, .ref e0, .int 0]))]) := hD
  refine lv_aload_n hx hb dX1_init_15 rfl (lv_at hl 0 rfl) ?_
  refine lv_bipush (v := 8) hx hb dX1_init_16 (by decide) ?_
  refine va_newa (N' := 8) (a0 := (8, .inl (fun _ => 0))) (ty := .int) hx hb (hts _ (List.mem_of_getElem? (i := 8) rfl)) rfl hK hP hD hS (fun q9 hq9 => Or.inr (Nat.le_trans hz0 hq9)) (fun _ => rfl) (by decide) (by decide) (by decide) (Nat.le_of_ble_eq_true rfl) (Nat.le_of_ble_eq_true rfl) dX1_init_18 (fun b2 cA H hK2 hP hD hS => ?_)
  have hcA : cI = cA := idI (u := 0) (v := 3) hK2 rfl rfl
  subst hcA
  clear hK2
  have hP : va_P D vwCl ([(a, .inr (2, [.null, .ref b1, .null, .int 0, .int 0, .int 0, .int 0])), (b1, .inr (0, [.int 0, .ref e0, .int 0])), (b2, i0 cI 8)]) H := hP
  have hD : va_D (alZ a z0) ([(a, .inr (2, [.null, .ref b1, .null, .int 0, .int 0, .int 0, .int 0])), (b1, .inr (0, [.int 0, .ref e0, .int 0])), (b2, i0 cI 8)]) := hD
  refine va_putF (D := D) (ci := 2) (v := .ref b2) (ty := .array .int) (C := RX1) (T := TX1) (N := 7) hx hb hts (fun _ h => List.mem_cons_of_mem _ (List.mem_append_right _ (h))) tyX1 tyX1_ok nmX1 hown hK hP hD hS 0 rfl rfl 2 (by decide) (hts _ (List.mem_of_getElem? (i := 9) rfl)) (fun _ h9 => h9) rfl hin rfl (by decide +kernel) rfl rfl (Nat.le_of_ble_eq_true rfl) dX1_init_20 (fun H locs hP hD hS => ?_)
  have hP : va_P D vwCl ([(a, .inr (2, [.null, .ref b1, .ref b2, .int 0, .int 0, .int 0, .int 0])), (b1, .inr (0, [.int 0, .ref e0, .int 0])), (b2, i0 cI 8)]) H := hP
  have hD : va_D (alZ a z0) ([(a, .inr (2, [.null, .ref b1, .ref b2, .int 0, .int 0, .int 0, .int 0])), (b1, .inr (0, [.int 0, .ref e0, .int 0])), (b2, i0 cI 8)]) := hD
  refine lv_aload_n hx hb dX1_init_23 rfl (lv_at hl 0 rfl) ?_
  refine lv_iconst (v := 1) hx hb dX1_init_24 (by decide) ?_
  refine va_put (D := D) (ci := 2) (v := .int 1) (ty := .boolean) (C := RX1) (T := TX1) (N := 7) hx hb hts (fun _ h => List.mem_cons_of_mem _ (List.mem_append_right _ (h))) tyX1 tyX1_ok nmX1 hown hK hP hD hS 0 rfl rfl 4 (by decide) (hts _ (List.mem_of_getElem? (i := 10) rfl)) (fun _ h9 => h9) rfl (by decide +kernel) (by decide) (by decide) (Nat.le_of_ble_eq_true rfl) dX1_init_25 (fun H locs hP hD hS => ?_)
  have hP : va_P D vwCl ([(a, .inr (2, [.null, .ref b1, .ref b2, .int 0, .int 1, .int 0, .int 0])), (b1, .inr (0, [.int 0, .ref e0, .int 0])), (b2, i0 cI 8)]) H := hP
  have hD : va_D (alZ a z0) ([(a, .inr (2, [.null, .ref b1, .ref b2, .int 0, .int 1, .int 0, .int 0])), (b1, .inr (0, [.int 0, .ref e0, .int 0])), (b2, i0 cI 8)]) := hD
  refine lv_aload_n hx hb dX1_init_28 rfl (lv_at hl 0 rfl) ?_
  refine lv_iconst (v := 0) hx hb dX1_init_29 (by decide) ?_
  refine va_put (D := D) (ci := 2) (v := .int 0) (ty := .boolean) (C := RX1) (T := TX1) (N := 7) hx hb hts (fun _ h => List.mem_cons_of_mem _ (List.mem_append_right _ (h))) tyX1 tyX1_ok nmX1 hown hK hP hD hS 0 rfl rfl 5 (by decide) (hts _ (List.mem_of_getElem? (i := 11) rfl)) (fun _ h9 => h9) rfl (by decide +kernel) (by decide) (by decide) (Nat.le_of_ble_eq_true rfl) dX1_init_30 (fun H locs hP hD hS => ?_)
  have hP : va_P D vwCl ([(a, .inr (2, [.null, .ref b1, .ref b2, .int 0, .int 1, .int 0, .int 0])), (b1, .inr (0, [.int 0, .ref e0, .int 0])), (b2, i0 cI 8)]) H := hP
  have hD : va_D (alZ a z0) ([(a, .inr (2, [.null, .ref b1, .ref b2, .int 0, .int 1, .int 0, .int 0])), (b1, .inr (0, [.int 0, .ref e0, .int 0])), (b2, i0 cI 8)]) := hD
  refine lv_aload_n hx hb dX1_init_33 rfl (lv_at hl 0 rfl) ?_
  refine lv_iconst (v := 0) hx hb dX1_init_34 (by decide) ?_
  refine va_put (D := D) (ci := 2) (v := .int 0) (ty := .boolean) (C := RX1) (T := TX1) (N := 7) hx hb hts (fun _ h => List.mem_cons_of_mem _ (List.mem_append_right _ (h))) tyX1 tyX1_ok nmX1 hown hK hP hD hS 0 rfl rfl 6 (by decide) (hts _ (List.mem_of_getElem? (i := 12) rfl)) (fun _ h9 => h9) rfl (by decide +kernel) (by decide) (by decide) (Nat.le_of_ble_eq_true rfl) dX1_init_35 (fun H locs hP hD hS => ?_)
  have hP : va_P D vwCl ([(a, .inr (2, [.null, .ref b1, .ref b2, .int 0, .int 1, .int 0, .int 0])), (b1, .inr (0, [.int 0, .ref e0, .int 0])), (b2, i0 cI 8)]) H := hP
  have hD : va_D (alZ a z0) ([(a, .inr (2, [.null, .ref b1, .ref b2, .int 0, .int 1, .int 0, .int 0])), (b1, .inr (0, [.int 0, .ref e0, .int 0])), (b2, i0 cI 8)]) := hD
  refine lv_aload_n hx hb dX1_init_38 rfl (lv_at hl 0 rfl) ?_
  refine lv_aload_n hx hb dX1_init_39 rfl (lv_at hl 1 rfl) ?_
  refine va_putF (D := D) (ci := 2) (v := .ref pa) (ty := .object "ShareMover$Folder") (C := RX1) (T := TX1) (N := 7) hx hb hts (fun _ h => List.mem_cons_of_mem _ (List.mem_append_right _ (h))) tyX1 tyX1_ok nmX1 hown hK hP hD hS 0 rfl rfl 0 (by decide) (hts _ (List.mem_of_getElem? (i := 13) rfl)) (fun _ h9 => h9) rfl hin rfl (by decide +kernel) rfl rfl (Nat.le_of_ble_eq_true rfl) dX1_init_40 (fun H locs hP hD hS => ?_)
  have hP : va_P D vwCl ([(a, .inr (2, [.ref pa, .ref b1, .ref b2, .int 0, .int 1, .int 0, .int 0])), (b1, .inr (0, [.int 0, .ref e0, .int 0])), (b2, i0 cI 8)]) H := hP
  have hD : va_D (alZ a z0) ([(a, .inr (2, [.ref pa, .ref b1, .ref b2, .int 0, .int 1, .int 0, .int 0])), (b1, .inr (0, [.int 0, .ref e0, .int 0])), (b2, i0 cI 8)]) := hD
  refine lv_aload_n hx hb dX1_init_43 rfl (lv_at hl 0 rfl) ?_
  refine lv_iload_n hx hb dX1_init_44 rfl (lv_at hl 2 rfl) ?_
  refine va_put (D := D) (ci := 2) (v := .int ow9) (ty := .int) (C := RX1) (T := TX1) (N := 7) hx hb hts (fun _ h => List.mem_cons_of_mem _ (List.mem_append_right _ (h))) tyX1 tyX1_ok nmX1 hown hK hP hD hS 0 rfl rfl 3 (by decide) (hts _ (List.mem_of_getElem? (i := 14) rfl)) (fun _ h9 => h9) rfl (by decide +kernel) rfl rfl (Nat.le_of_ble_eq_true rfl) dX1_init_45 (fun H locs hP hD hS => ?_)
  have hP : va_P D vwCl ([(a, .inr (2, [.ref pa, .ref b1, .ref b2, .int ow9, .int 1, .int 0, .int 0])), (b1, .inr (0, [.int 0, .ref e0, .int 0])), (b2, i0 cI 8)]) H := hP
  have hD : va_D (alZ a z0) ([(a, .inr (2, [.ref pa, .ref b1, .ref b2, .int ow9, .int 1, .int 0, .int 0])), (b1, .inr (0, [.int 0, .ref e0, .int 0])), (b2, i0 cI 8)]) := hD
  subst hQ
  exact W.vret hx hb hr (fun t ht hW => ⟨⟨fun z => if z = 1 then b1 else if z = 2 then b2 else 0, rfl, trivial, by have e := hP; rw [← ht] at e; exact ⟨e, hD⟩⟩, hS.F ht⟩) hS.2.2 dX1_init_48

set_option maxHeartbeats 800000 in
set_option maxRecDepth 100000 in
theorem k_X1n (l : Launch) (D : va_G) (cI cZ cO : ClassId) (a z0 : Nat) (e0 : Nat) (ow9 : Int32) : Met l yX1_init wsX1_init { frames := 5, cells := 2, slots := 11, locals := 130 } (va_Pc [.ref a, .null, .int ow9] (rdY D ([(cI, .int), (cI, .int), (cO, .object "java/lang/Object")]) ([(a, .inr (2, [.null, .null, .null, .int 0, .int 0, .int 0, .int 0]))]) (foY a e0 z0))) (va_Qv (fun _ : Nat → Nat => True) (fun u t => va_P D vwCl ([(a, .inr (2, [.null, .ref (u 1), .ref (u 2), .int ow9, .int 1, .int 0, .int 0])), ((u 1), .inr (0, [.int 0, .ref e0, .int 0])), ((u 2), i0 cI 8)]) t.heap ∧ va_D (alZ a z0) ([(a, .inr (2, [.null, .ref (u 1), .ref (u 2), .int ow9, .int 1, .int 0, .int 0])), ((u 1), .inr (0, [.int 0, .ref e0, .int 0])), ((u 2), i0 cI 8)])) (alZ a z0)) 2 11 (alZ a z0) := by
  refine Met.ofW (cc := cX1_init) (maxL := 3) (ret := none) (by decide) rfl ?_
  intro p e s m args below meth c s₁ B hml hv
  obtain ⟨hargs, ⟨hP, hK, hN⟩, hz0, hZ⟩ := hv
  have hin : meth.name = "<init>" := (name_of_methodNamed B.named B.method).1
  have hx := B.exec
  have hb := B.bytes
  have hr := B.returns
  have hts := atoms_spec (ws := wsX1_init) B.pre
  have hown : s.vm.findClass RX1 = some m.cls := findClass_of_methodNamed B.named
  have hlocks := B.notSynchronized
  have hen : entryFrame m args 3 = entryFrame m ([.ref a, .null, .int ow9] : List Value).toArray 3 := by rw [hargs]
  rw [hen]
  have hl := lv_entry ([.ref a, .null, .int ow9]) (n := 3) (Nat.le_of_ble_eq_true rfl)
  rw [lg_entry_eq]
  generalize (lg_sl ([.ref a, .null, .int ow9]) ++ List.replicate (3 - (lg_sl ([.ref a, .null, .int ow9])).length) Slot.unset).toArray = ls at hl ⊢
  have hl : lv_has ls 3 [(0, .ref a), (1, .null), (2, .int ow9)] := hl
  generalize hQ : MQ below (va_Qv (fun _ : Nat → Nat => True) (fun u t => va_P D vwCl ([(a, .inr (2, [.null, .ref (u 1), .ref (u 2), .int ow9, .int 1, .int 0, .int 0])), ((u 1), .inr (0, [.int 0, .ref e0, .int 0])), ((u 2), i0 cI 8)]) t.heap ∧ va_D (alZ a z0) ([(a, .inr (2, [.null, .ref (u 1), .ref (u 2), .int ow9, .int 1, .int 0, .int 0])), ((u 1), .inr (0, [.int 0, .ref e0, .int 0])), ((u 2), i0 cI 8)])) (alZ a z0)) args s 2 11 (alZ a z0) = Q
  have hD : va_D (alZ a z0) ([(a, .inr (2, [.null, .null, .null, .int 0, .int 0, .int 0, .int 0]))]) := oz_D
  have hS : va_S (alZ a z0) s.heap s.heap [] := va_S.rf
  refine lv_aload_n hx hb dX1_init_0 rfl (lv_at hl 0 rfl) ?_
  refine W.objInit hx hb hown (hts _ (List.mem_of_getElem? (i := 1) rfl)) (hts _ (List.mem_of_getElem? (i := 2) rfl)) (hts _ (List.mem_of_getElem? (i := 3) rfl)) rfl (by rw [hml]; exact hl.1) rfl dX1_init_1 (Nat.le_of_ble_eq_true rfl) (Nat.le_of_ble_eq_true rfl) ?_
  refine W.eq (g2 := F0 m 4 ls []) rfl ?_
  refine lv_aload_n hx hb dX1_init_4 rfl (lv_at hl 0 rfl) ?_
  refine va_new (ci := 0) (fs := [.int 0, .null, .int 0]) (C := RJx4a65c) (T := TJx4a65c) (N := 3) hx hb hts (fun _ h => List.mem_cons_of_mem _ (List.mem_append_left _ (List.mem_append_right _ (h)))) tyJx4a65c tyJx4a65c_ok hown (hts _ (List.mem_of_getElem? (i := 4) rfl)) (hts _ (List.mem_of_getElem? (i := 5) rfl)) (hts _ (List.mem_of_getElem? (i := 6) rfl)) hK hP hD hS (fun q9 hq9 => Or.inr (Nat.le_trans hz0 hq9)) rfl (fun j hj => by rcases (show j = 0 ∨ j = 1 ∨ j = 2 by omega) with rfl | rfl | rfl <;> rfl) (Nat.le_of_ble_eq_true rfl) (Nat.le_of_ble_eq_true rfl) dX1_init_5 (fun b1 H hP hD hS => ?_)
  have hP : va_P D vwCl ([(a, .inr (2, [.null, .null, .null, .int 0, .int 0, .int 0, .int 0])), (b1, .inr (0, [.int 0, .null, .int 0]))]) H := hP
  have hD : va_D (alZ a z0) ([(a, .inr (2, [.null, .null, .null, .int 0, .int 0, .int 0, .int 0])), (b1, .inr (0, [.int 0, .null, .int 0]))]) := hD
  have hab : a ≠ b1 := fun h9 => by have h8 := hD.1 0 1 _ _ rfl rfl h9; omega
  have hA1 : alZ a z0 b1 := hD.2 1 _ rfl
  refine lv_dup hx hb dX1_init_8 rfl ?_
  have hPb : va_P D vwCl [(b1, .inr (0, [.int 0, .null, .int 0]))] H := va_P_in hP (fun q hq => List.mem_cons_of_mem _ hq)
  refine va_callv (va_runI (As := []) (rest := [.ref b1, .ref a]) ⟨hx, hb, hml, hown, hts⟩ (k_i3 l D cI cZ cO b1 e0) (cwI 0 hts gX1_init_Jx4a65c_init_da8c8 rfl rfl rfl (hts _ (List.mem_of_getElem? (i := 6) rfl)) (hts _ (List.mem_of_getElem? (i := 15) rfl)) (hts _ (List.mem_of_getElem? (i := 16) rfl)) rfl (by decide +kernel) ⟨Nat.le_of_ble_eq_true rfl, Nat.le_of_ble_eq_true rfl⟩) ⟨rdE_blind, rdE_pre hPb hK hN ((va_Z.kept hZ hS.2.1).narrow (fun q hq => by rw [hq]; exact hA1))⟩ rfl rfl hl.1 rfl (lv_room (Nat.le_of_ble_eq_true rfl)) dX1_init_9 ⟨Nat.le_of_ble_eq_true rfl, Nat.le_of_ble_eq_true rfl⟩) hS (fun q _ h => by rw [show q = b1 from h]; exact hA1) (fun q h => by rw [show q = b1 from h]; exact hA1) (fun u t H1 locs ht hvm hw hB hz1 hk1 hS => ?_)
  rw [ht] at hB
  have hP := fo_join hP hk1 hB hab
  have hD := fo_D (x' := .inr (0, [.int 0, .ref e0, .int 0])) hD
  refine va_putF (D := D) (ci := 2) (v := .ref b1) (ty := .object "java/util/ArrayList") (C := RX1) (T := TX1) (N := 7) hx hb hts (fun _ h => List.mem_cons_of_mem _ (List.mem_append_right _ (h))) tyX1 tyX1_ok nmX1 hown hK hP hD hS 0 rfl rfl 1 (by decide) (hts _ (List.mem_of_getElem? (i := 7) rfl)) (fun _ h9 => h9) rfl hin rfl (by decide +kernel) rfl rfl (Nat.le_of_ble_eq_true rfl) dX1_init_12 (fun H locs hP hD hS => ?_)
  have hP : va_P D vwCl ([(a, .inr (2, [.null, .ref b1, .null, .int 0, .int 0, .int 0, .int 0])), (b1, .inr (0, [.int 0, .ref e0, .int 0]))]) H := hP
  have hD : va_D (alZ a z0) ([(a, .inr (2, [.null, .ref b1, .null, .int 0, .int 0, .int 0, .int 0])), (b1, .inr (0, [.int 0, .ref e0, .int 0]))]) := hD
  refine lv_aload_n hx hb dX1_init_15 rfl (lv_at hl 0 rfl) ?_
  refine lv_bipush (v := 8) hx hb dX1_init_16 (by decide) ?_
  refine va_newa (N' := 8) (a0 := (8, .inl (fun _ => 0))) (ty := .int) hx hb (hts _ (List.mem_of_getElem? (i := 8) rfl)) rfl hK hP hD hS (fun q9 hq9 => Or.inr (Nat.le_trans hz0 hq9)) (fun _ => rfl) (by decide) (by decide) (by decide) (Nat.le_of_ble_eq_true rfl) (Nat.le_of_ble_eq_true rfl) dX1_init_18 (fun b2 cA H hK2 hP hD hS => ?_)
  have hcA : cI = cA := idI (u := 0) (v := 3) hK2 rfl rfl
  subst hcA
  clear hK2
  have hP : va_P D vwCl ([(a, .inr (2, [.null, .ref b1, .null, .int 0, .int 0, .int 0, .int 0])), (b1, .inr (0, [.int 0, .ref e0, .int 0])), (b2, i0 cI 8)]) H := hP
  have hD : va_D (alZ a z0) ([(a, .inr (2, [.null, .ref b1, .null, .int 0, .int 0, .int 0, .int 0])), (b1, .inr (0, [.int 0, .ref e0, .int 0])), (b2, i0 cI 8)]) := hD
  refine va_putF (D := D) (ci := 2) (v := .ref b2) (ty := .array .int) (C := RX1) (T := TX1) (N := 7) hx hb hts (fun _ h => List.mem_cons_of_mem _ (List.mem_append_right _ (h))) tyX1 tyX1_ok nmX1 hown hK hP hD hS 0 rfl rfl 2 (by decide) (hts _ (List.mem_of_getElem? (i := 9) rfl)) (fun _ h9 => h9) rfl hin rfl (by decide +kernel) rfl rfl (Nat.le_of_ble_eq_true rfl) dX1_init_20 (fun H locs hP hD hS => ?_)
  have hP : va_P D vwCl ([(a, .inr (2, [.null, .ref b1, .ref b2, .int 0, .int 0, .int 0, .int 0])), (b1, .inr (0, [.int 0, .ref e0, .int 0])), (b2, i0 cI 8)]) H := hP
  have hD : va_D (alZ a z0) ([(a, .inr (2, [.null, .ref b1, .ref b2, .int 0, .int 0, .int 0, .int 0])), (b1, .inr (0, [.int 0, .ref e0, .int 0])), (b2, i0 cI 8)]) := hD
  refine lv_aload_n hx hb dX1_init_23 rfl (lv_at hl 0 rfl) ?_
  refine lv_iconst (v := 1) hx hb dX1_init_24 (by decide) ?_
  refine va_put (D := D) (ci := 2) (v := .int 1) (ty := .boolean) (C := RX1) (T := TX1) (N := 7) hx hb hts (fun _ h => List.mem_cons_of_mem _ (List.mem_append_right _ (h))) tyX1 tyX1_ok nmX1 hown hK hP hD hS 0 rfl rfl 4 (by decide) (hts _ (List.mem_of_getElem? (i := 10) rfl)) (fun _ h9 => h9) rfl (by decide +kernel) (by decide) (by decide) (Nat.le_of_ble_eq_true rfl) dX1_init_25 (fun H locs hP hD hS => ?_)
  have hP : va_P D vwCl ([(a, .inr (2, [.null, .ref b1, .ref b2, .int 0, .int 1, .int 0, .int 0])), (b1, .inr (0, [.int 0, .ref e0, .int 0])), (b2, i0 cI 8)]) H := hP
  have hD : va_D (alZ a z0) ([(a, .inr (2, [.null, .ref b1, .ref b2, .int 0, .int 1, .int 0, .int 0])), (b1, .inr (0, [.int 0, .ref e0, .int 0])), (b2, i0 cI 8)]) := hD
  refine lv_aload_n hx hb dX1_init_28 rfl (lv_at hl 0 rfl) ?_
  refine lv_iconst (v := 0) hx hb dX1_init_29 (by decide) ?_
  refine va_put (D := D) (ci := 2) (v := .int 0) (ty := .boolean) (C := RX1) (T := TX1) (N := 7) hx hb hts (fun _ h => List.mem_cons_of_mem _ (List.mem_append_right _ (h))) tyX1 tyX1_ok nmX1 hown hK hP hD hS 0 rfl rfl 5 (by decide) (hts _ (List.mem_of_getElem? (i := 11) rfl)) (fun _ h9 => h9) rfl (by decide +kernel) (by decide) (by decide) (Nat.le_of_ble_eq_true rfl) dX1_init_30 (fun H locs hP hD hS => ?_)
  have hP : va_P D vwCl ([(a, .inr (2, [.null, .ref b1, .ref b2, .int 0, .int 1, .int 0, .int 0])), (b1, .inr (0, [.int 0, .ref e0, .int 0])), (b2, i0 cI 8)]) H := hP
  have hD : va_D (alZ a z0) ([(a, .inr (2, [.null, .ref b1, .ref b2, .int 0, .int 1, .int 0, .int 0])), (b1, .inr (0, [.int 0, .ref e0, .int 0])), (b2, i0 cI 8)]) := hD
  refine lv_aload_n hx hb dX1_init_33 rfl (lv_at hl 0 rfl) ?_
  refine lv_iconst (v := 0) hx hb dX1_init_34 (by decide) ?_
  refine va_put (D := D) (ci := 2) (v := .int 0) (ty := .boolean) (C := RX1) (T := TX1) (N := 7) hx hb hts (fun _ h => List.mem_cons_of_mem _ (List.mem_append_right _ (h))) tyX1 tyX1_ok nmX1 hown hK hP hD hS 0 rfl rfl 6 (by decide) (hts _ (List.mem_of_getElem? (i := 12) rfl)) (fun _ h9 => h9) rfl (by decide +kernel) (by decide) (by decide) (Nat.le_of_ble_eq_true rfl) dX1_init_35 (fun H locs hP hD hS => ?_)
  have hP : va_P D vwCl ([(a, .inr (2, [.null, .ref b1, .ref b2, .int 0, .int 1, .int 0, .int 0])), (b1, .inr (0, [.int 0, .ref e0, .int 0])), (b2, i0 cI 8)]) H := hP
  have hD : va_D (alZ a z0) ([(a, .inr (2, [.null, .ref b1, .ref b2, .int 0, .int 1, .int 0, .int 0])), (b1, .inr (0, [.int 0, .ref e0, .int 0])), (b2, i0 cI 8)]) := hD
  refine lv_aload_n hx hb dX1_init_38 rfl (lv_at hl 0 rfl) ?_
  refine lv_aload_nN hx hb dX1_init_39 rfl (lv_at hl 1 rfl) ?_
  refine va_putF (D := D) (ci := 2) (v := .null) (ty := .object "ShareMover$Folder") (C := RX1) (T := TX1) (N := 7) hx hb hts (fun _ h => List.mem_cons_of_mem _ (List.mem_append_right _ (h))) tyX1 tyX1_ok nmX1 hown hK hP hD hS 0 rfl rfl 0 (by decide) (hts _ (List.mem_of_getElem? (i := 13) rfl)) (fun _ h9 => h9) rfl hin rfl (by decide +kernel) rfl rfl (Nat.le_of_ble_eq_true rfl) dX1_init_40 (fun H locs hP hD hS => ?_)
  have hP : va_P D vwCl ([(a, .inr (2, [.null, .ref b1, .ref b2, .int 0, .int 1, .int 0, .int 0])), (b1, .inr (0, [.int 0, .ref e0, .int 0])), (b2, i0 cI 8)]) H := hP
  have hD : va_D (alZ a z0) ([(a, .inr (2, [.null, .ref b1, .ref b2, .int 0, .int 1, .int 0, .int 0])), (b1, .inr (0, [.int 0, .ref e0, .int 0])), (b2, i0 cI 8)]) := hD
  refine lv_aload_n hx hb dX1_init_43 rfl (lv_at hl 0 rfl) ?_
  refine lv_iload_n hx hb dX1_init_44 rfl (lv_at hl 2 rfl) ?_
  refine va_put (D := D) (ci := 2) (v := .int ow9) (ty := .int) (C := RX1) (T := TX1) (N := 7) hx hb hts (fun _ h => List.mem_cons_of_mem _ (List.mem_append_right _ (h))) tyX1 tyX1_ok nmX1 hown hK hP hD hS 0 rfl rfl 3 (by decide) (hts _ (List.mem_of_getElem? (i := 14) rfl)) (fun _ h9 => h9) rfl (by decide +kernel) rfl rfl (Nat.le_of_ble_eq_true rfl) dX1_init_45 (fun H locs hP hD hS => ?_)
  have hP : va_P D vwCl ([(a, .inr (2, [.null, .ref b1, .ref b2, .int ow9, .int 1, .int 0, .int 0])), (b1, .inr (0, [.int 0, .ref e0, .int 0])), (b2, i0 cI 8)]) H := hP
  have hD : va_D (alZ a z0) ([(a, .inr (2, [.null, .ref b1, .ref b2, .int ow9, .int 1, .int 0, .int 0])), (b1, .inr (0, [.int 0, .ref e0, .int 0])), (b2, i0 cI 8)]) := hD
  subst hQ
  exact W.vret hx hb hr (fun t ht hW => ⟨⟨fun z => if z = 1 then b1 else if z = 2 then b2 else 0, rfl, trivial, by have e := hP; rw [← ht] at e; exact ⟨e, hD⟩⟩, hS.F ht⟩) hS.2.2 dX1_init_48
