set_option maxHeartbeats 800000 in
set_option maxRecDepth 100000 in
theorem k_X2i (l : Launch) (D : va_G) (cI cZ cO : ClassId) (a z0 : Nat)  : Met l yX2_init wsX2_init { frames := 2, cells := 3, slots := 18, locals := 40 } (va_Pc [.ref a] (rdY D ([(cI, .int), (cI, .int), (cO, .object "java/lang/Object")]) ([(a, .inr (3, [.null, .null, .null]))]) (szY z0))) (va_Qv (fun _ : Nat → Nat => True) (fun u t => va_P D vwCl ([(a, .inr (3, [.ref (u 1), .ref (u 2), .ref (u 3)])), ((u 1), i0 cI 6), ((u 2), i0 cI 6), ((u 3), i0 cI 6)]) t.heap ∧ va_D (alZ a z0) ([(a, .inr (3, [.ref (u 1), .ref (u 2), .ref (u 3)])), ((u 1), i0 cI 6), ((u 2), i0 cI 6), ((u 3), i0 cI 6)])) (alZ a z0)) 3 18 (alZ a z0) := by
  refine Met.ofW (cc := cX2_init) (maxL := 1) (ret := none) (by decide) rfl ?_
  intro p e s m args below meth c s₁ B hml hv
  obtain ⟨hargs, ⟨hP, hK, hN⟩, hz0⟩ := hv
  have hin : meth.name = "<init>" := (name_of_methodNamed B.named B.method).1
  have hx := B.exec
  have hb := B.bytes
  have hr := B.returns
  have hts := atoms_spec (ws := wsX2_init) B.pre
  have hown : s.vm.findClass RX2 = some m.cls := findClass_of_methodNamed B.named
  have hlocks := B.notSynchronized
  have hen : entryFrame m args 1 = entryFrame m ([.ref a] : List Value).toArray 1 := by rw [hargs]
  rw [hen]
  have hl := lv_entry ([.ref a]) (n := 1) (Nat.le_of_ble_eq_true rfl)
  rw [lg_entry_eq]
  generalize (lg_sl ([.ref a]) ++ List.replicate (1 - (lg_sl ([.ref a])).length) Slot.unset).toArray = ls at hl ⊢
  have hl : lv_has ls 1 [(0, .ref a)] := hl
  generalize hQ : MQ below (va_Qv (fun _ : Nat → Nat => True) (fun u t => va_P D vwCl ([(a, .inr (3, [.ref (u 1), .ref (u 2), .ref (u 3)])), ((u 1), i0 cI 6), ((u 2), i0 cI 6), ((u 3), i0 cI 6)]) t.heap ∧ va_D (alZ a z0) ([(a, .inr (3, [.ref (u 1), .ref (u 2), .ref (u 3)])), ((u 1), i0 cI 6), ((u 2), i0 cI 6), ((u 3), i0 cI 6)])) (alZ a z0)) args s 3 18 (alZ a z0) = Q
  have hD : va_D (alZ a z0) ([(a, .inr (3, [.null, .null, .null]))]) := oz_D
  have hS : va_S (alZ a z0) s.heap s.heap [] := va_S.rf
  refine lv_aload_n hx hb dX2_init_0 rfl (lv_at hl 0 rfl) ?_
  refine W.objInit hx hb hown (hts _ (List.mem_of_getElem? (i := 1) rfl)) (hts _ (List.mem_of_getElem? (i := 2) rfl)) (hts _ (List.mem_of_getElem? (i := 3) rfl)) rfl (by rw [hml]; exact hl.1) rfl dX2_init_1 (Nat.le_of_ble_eq_true rfl) (Nat.le_of_ble_eq_true rfl) ?_
  refine W.eq (g2 := F0 m 4 ls []) rfl ?_
  refine lv_aload_n hx hb dX2_init_4 rfl (lv_at hl 0 rfl) ?_
  refine lv_bipush (v := 6) hx hb dX2_init_5 (by decide) ?_
  refine va_newa (N' := 6) (a0 := (6, .inl (fun _ => 0))) (ty := .int) hx hb (hts _ (List.mem_of_getElem? (i := 4) rfl)) rfl hK hP hD hS (fun q9 hq9 => Or.inr (Nat.le_trans hz0 hq9)) (fun _ => rfl) (by decide) (by decide) (by decide) (Nat.le_of_ble_eq_true rfl) (Nat.le_of_ble_eq_true rfl) dX2_init_7 (fun b1 cA H hK2 hP hD hS => ?_)
  have hcA : cI = cA := idI (u := 0) (v := 3) hK2 rfl rfl
  subst hcA
  clear hK2
  have hP : va_P D vwCl ([(a, .inr (3, [.null, .null, .null])), (b1, i0 cI 6)]) H := hP
  have hD : va_D (alZ a z0) ([(a, .inr (3, [.null, .null, .null])), (b1, i0 cI 6)]) := hD
  refine va_putF (D := D) (ci := 3) (v := .ref b1) (ty := .array .int) (C := RX2) (T := TX2) (N := 3) hx hb hts (fun _ h => List.mem_cons_of_mem _ (List.mem_append_right _ (h))) tyX2 tyX2_ok nmX2 hown hK hP hD hS 0 rfl rfl 0 (by decide) (hts _ (List.mem_of_getElem? (i := 5) rfl)) (fun _ h9 => h9) rfl hin rfl (by decide +kernel) rfl rfl (Nat.le_of_ble_eq_true rfl) dX2_init_9 (fun H locs hP hD hS => ?_)
  have hP : va_P D vwCl ([(a, .inr (3, [.ref b1, .null, .null])), (b1, i0 cI 6)]) H := hP
  have hD : va_D (alZ a z0) ([(a, .inr (3, [.ref b1, .null, .null])), (b1, i0 cI 6)]) := hD
  refine lv_aload_n hx hb dX2_init_12 rfl (lv_at hl 0 rfl) ?_
  refine lv_bipush (v := 6) hx hb dX2_init_13 (by decide) ?_
  refine va_newa (N' := 6) (a0 := (6, .inl (fun _ => 0))) (ty := .int) hx hb (hts _ (List.mem_of_getElem? (i := 4) rfl)) rfl hK hP hD hS (fun q9 hq9 => Or.inr (Nat.le_trans hz0 hq9)) (fun _ => rfl) (by decide) (by decide) (by decide) (Nat.le_of_ble_eq_true rfl) (Nat.le_of_ble_eq_true rfl) dX2_init_15 (fun b2 cA H hK2 hP hD hS => ?_)
  have hcA : cI = cA := idI (u := 0) (v := 3) hK2 rfl rfl
  subst hcA
  clear hK2
  have hP : va_P D vwCl ([(a, .inr (3, [.ref b1, .null, .null])), (b1, i0 cI 6), (b2, i0 cI 6)]) H := hP
  have hD : va_D (alZ a z0) ([(a, .inr (3, [.ref b1, .null, .null])), (b1, i0 cI 6), (b2, i0 cI 6)]) := hD
  refine va_putF (D := D) (ci := 3) (v := .ref b2) (ty := .array .int) (C := RX2) (T := TX2) (N := 3) hx hb hts (fun _ h => List.mem_cons_of_mem _ (List.mem_append_right _ (h))) tyX2 tyX2_ok nmX2 hown hK hP hD hS 0 rfl rfl 1 (by decide) (hts _ (List.mem_of_getElem? (i := 6) rfl)) (fun _ h9 => h9) rfl hin rfl (by decide +kernel) rfl rfl (Nat.le_of_ble_eq_true rfl) dX2_init_17 (fun H locs hP hD hS => ?_)
  have hP : va_P D vwCl ([(a, .inr (3, [.ref b1, .ref b2, .null])), (b1, i0 cI 6), (b2, i0 cI 6)]) H := hP
  have hD : va_D (alZ a z0) ([(a, .inr (3, [.ref b1, .ref b2, .null])), (b1, i0 cI 6), (b2, i0 cI 6)]) := hD
  refine lv_aload_n hx hb dX2_init_20 rfl (lv_at hl 0 rfl) ?_
  refine lv_bipush (v := 6) hx hb dX2_init_21 (by decide) ?_
  refine va_newa (N' := 6) (a0 := (6, .inl (fun _ => 0))) (ty := .int) hx hb (hts _ (List.mem_of_getElem? (i := 4) rfl)) rfl hK hP hD hS (fun q9 hq9 => Or.inr (Nat.le_trans hz0 hq9)) (fun _ => rfl) (by decide) (by decide) (by decide) (Nat.le_of_ble_eq_true rfl) (Nat.le_of_ble_eq_true rfl) dX2_init_23 (fun b3 cA H hK2 hP hD hS => ?_)
  have hcA : cI = cA := idI (u := 0) (v := 3) hK2 rfl rfl
  subst hcA
  clear hK2
  have hP : va_P D vwCl ([(a, .inr (3, [.ref b1, .ref b2, .null])), (b1, i0 cI 6), (b2, i0 cI 6), (b3, i0 cI 6)]) H := hP
  have hD : va_D (alZ a z0) ([(a, .inr (3, [.ref b1, .ref b2, .null])), (b1, i0 cI 6), (b2, i0 cI 6), (b3, i0 cI 6)]) := hD
  refine va_putF (D := D) (ci := 3) (v := .ref b3) (ty := .array .int) (C := RX2) (T := TX2) (N := 3) hx hb hts (fun _ h => List.mem_cons_of_mem _ (List.mem_append_right _ (h))) tyX2 tyX2_ok nmX2 hown hK hP hD hS 0 rfl rfl 2 (by decide) (hts _ (List.mem_of_getElem? (i := 7) rfl)) (fun _ h9 => h9) rfl hin rfl (by decide +kernel) rfl rfl (Nat.le_of_ble_eq_true rfl) dX2_init_25 (fun H locs hP hD hS => ?_)
  have hP : va_P D vwCl ([(a, .inr (3, [.ref b1, .ref b2, .ref b3])), (b1, i0 cI 6), (b2, i0 cI 6), (b3, i0 cI 6)]) H := hP
  have hD : va_D (alZ a z0) ([(a, .inr (3, [.ref b1, .ref b2, .ref b3])), (b1, i0 cI 6), (b2, i0 cI 6), (b3, i0 cI 6)]) := hD
  subst hQ
  exact W.vret hx hb hr (fun t ht hW => ⟨⟨fun z => if z = 1 then b1 else if z = 2 then b2 else if z = 3 then b3 else 0, rfl, trivial, by have e := hP; rw [← ht] at e; exact ⟨e, hD⟩⟩, hS.F ht⟩) hS.2.2 dX2_init_28

set_option maxHeartbeats 800000 in
set_option maxRecDepth 100000 in
theorem k_X3i (l : Launch) (D : va_G) (cI cZ cO : ClassId) (a z0 : Nat)  : Met l yX3_init wsX3_init { frames := 2, cells := 2, slots := 16, locals := 40 } (va_Pc [.ref a] (rdY D ([(cI, .int), (cI, .int), (cO, .object "java/lang/Object")]) ([(a, .inr (4, [.null, .null, .int 0, .int 0, .int 0, .int 0, .int 0]))]) (szY z0))) (va_Qv (fun _ : Nat → Nat => True) (fun u t => va_P D vwCl ([(a, .inr (4, [.ref (u 1), .ref (u 2), .int (-1), .int 0, .int 0, .int 0, .int 0])), ((u 1), i0 cI 8), ((u 2), i0 cI 8)]) t.heap ∧ va_D (alZ a z0) ([(a, .inr (4, [.ref (u 1), .ref (u 2), .int (-1), .int 0, .int 0, .int 0, .int 0])), ((u 1), i0 cI 8), ((u 2), i0 cI 8)])) (alZ a z0)) 2 16 (alZ a z0) := by
  refine Met.ofW (cc := cX3_init) (maxL := 1) (ret := none) (by decide) rfl ?_
  intro p e s m args below meth c s₁ B hml hv
  obtain ⟨hargs, ⟨hP, hK, hN⟩, hz0⟩ := hv
  have hin : meth.name = "<init>" := (name_of_methodNamed B.named B.method).1
  have hx := B.exec
  have hb := B.bytes
  have hr := B.returns
  have hts := atoms_spec (ws := wsX3_init) B.pre
  have hown : s.vm.findClass RX3 = some m.cls := findClass_of_methodNamed B.named
  have hlocks := B.notSynchronized
  have hen : entryFrame m args 1 = entryFrame m ([.ref a] : List Value).toArray 1 := by rw [hargs]
  rw [hen]
  have hl := lv_entry ([.ref a]) (n := 1) (Nat.le_of_ble_eq_true rfl)
  rw [lg_entry_eq]
  generalize (lg_sl ([.ref a]) ++ List.replicate (1 - (lg_sl ([.ref a])).length) Slot.unset).toArray = ls at hl ⊢
  have hl : lv_has ls 1 [(0, .ref a)] := hl
  generalize hQ : MQ below (va_Qv (fun _ : Nat → Nat => True) (fun u t => va_P D vwCl ([(a, .inr (4, [.ref (u 1), .ref (u 2), .int (-1), .int 0, .int 0, .int 0, .int 0])), ((u 1), i0 cI 8), ((u 2), i0 cI 8)]) t.heap ∧ va_D (alZ a z0) ([(a, .inr (4, [.ref (u 1), .ref (u 2), .int (-1), .int 0, .int 0, .int 0, .int 0])), ((u 1), i0 cI 8), ((u 2), i0 cI 8)])) (alZ a z0)) args s 2 16 (alZ a z0) = Q
  have hD : va_D (alZ a z0) ([(a, .inr (4, [.null, .null, .int 0, .int 0, .int 0, .int 0, .int 0]))]) := oz_D
  have hS : va_S (alZ a z0) s.heap s.heap [] := va_S.rf
  refine lv_aload_n hx hb dX3_init_0 rfl (lv_at hl 0 rfl) ?_
  refine W.objInit hx hb hown (hts _ (List.mem_of_getElem? (i := 1) rfl)) (hts _ (List.mem_of_getElem? (i := 2) rfl)) (hts _ (List.mem_of_getElem? (i := 3) rfl)) rfl (by rw [hml]; exact hl.1) rfl dX3_init_1 (Nat.le_of_ble_eq_true rfl) (Nat.le_of_ble_eq_true rfl) ?_
  refine W.eq (g2 := F0 m 4 ls []) rfl ?_
  refine lv_aload_n hx hb dX3_init_4 rfl (lv_at hl 0 rfl) ?_
  refine lv_bipush (v := 8) hx hb dX3_init_5 (by decide) ?_
  refine va_newa (N' := 8) (a0 := (8, .inl (fun _ => 0))) (ty := .int) hx hb (hts _ (List.mem_of_getElem? (i := 4) rfl)) rfl hK hP hD hS (fun q9 hq9 => Or.inr (Nat.le_trans hz0 hq9)) (fun _ => rfl) (by decide) (by decide) (by decide) (Nat.le_of_ble_eq_true rfl) (Nat.le_of_ble_eq_true rfl) dX3_init_7 (fun b1 cA H hK2 hP hD hS => ?_)
  have hcA : cI = cA := idI (u := 0) (v := 3) hK2 rfl rfl
  subst hcA
  clear hK2
  have hP : va_P D vwCl ([(a, .inr (4, [.null, .null, .int 0, .int 0, .int 0, .int 0, .int 0])), (b1, i0 cI 8)]) H := hP
  have hD : va_D (alZ a z0) ([(a, .inr (4, [.null, .null, .int 0, .int 0, .int 0, .int 0, .int 0])), (b1, i0 cI 8)]) := hD
  refine va_putF (D := D) (ci := 4) (v := .ref b1) (ty := .array .int) (C := RX3) (T := TX3) (N := 7) hx hb hts (fun _ h => List.mem_cons_of_mem _ (List.mem_append_right _ (h))) tyX3 tyX3_ok nmX3 hown hK hP hD hS 0 rfl rfl 0 (by decide) (hts _ (List.mem_of_getElem? (i := 5) rfl)) (fun _ h9 => h9) rfl hin rfl (by decide +kernel) rfl rfl (Nat.le_of_ble_eq_true rfl) dX3_init_9 (fun H locs hP hD hS => ?_)
  have hP : va_P D vwCl ([(a, .inr (4, [.ref b1, .null, .int 0, .int 0, .int 0, .int 0, .int 0])), (b1, i0 cI 8)]) H := hP
  have hD : va_D (alZ a z0) ([(a, .inr (4, [.ref b1, .null, .int 0, .int 0, .int 0, .int 0, .int 0])), (b1, i0 cI 8)]) := hD
  refine lv_aload_n hx hb dX3_init_12 rfl (lv_at hl 0 rfl) ?_
  refine lv_bipush (v := 8) hx hb dX3_init_13 (by decide) ?_
  refine va_newa (N' := 8) (a0 := (8, .inl (fun _ => 0))) (ty := .int) hx hb (hts _ (List.mem_of_getElem? (i := 4) rfl)) rfl hK hP hD hS (fun q9 hq9 => Or.inr (Nat.le_trans hz0 hq9)) (fun _ => rfl) (by decide) (by decide) (by decide) (Nat.le_of_ble_eq_true rfl) (Nat.le_of_ble_eq_true rfl) dX3_init_15 (fun b2 cA H hK2 hP hD hS => ?_)
  have hcA : cI = cA := idI (u := 0) (v := 3) hK2 rfl rfl
  subst hcA
  clear hK2
  have hP : va_P D vwCl ([(a, .inr (4, [.ref b1, .null, .int 0, .int 0, .int 0, .int 0, .int 0])), (b1, i0 cI 8), (b2, i0 cI 8)]) H := hP
  have hD : va_D (alZ a z0) ([(a, .inr (4, [.ref b1, .null, .int 0, .int 0, .int 0, .int 0, .int 0])), (b1, i0 cI 8), (b2, i0 cI 8)]) := hD
  refine va_putF (D := D) (ci := 4) (v := .ref b2) (ty := .array .int) (C := RX3) (T := TX3) (N := 7) hx hb hts (fun _ h => List.mem_cons_of_mem _ (List.mem_append_right _ (h))) tyX3 tyX3_ok nmX3 hown hK hP hD hS 0 rfl rfl 1 (by decide) (hts _ (List.mem_of_getElem? (i := 6) rfl)) (fun _ h9 => h9) rfl hin rfl (by decide +kernel) rfl rfl (Nat.le_of_ble_eq_true rfl) dX3_init_17 (fun H locs hP hD hS => ?_)
  have hP : va_P D vwCl ([(a, .inr (4, [.ref b1, .ref b2, .int 0, .int 0, .int 0, .int 0, .int 0])), (b1, i0 cI 8), (b2, i0 cI 8)]) H := hP
  have hD : va_D (alZ a z0) ([(a, .inr (4, [.ref b1, .ref b2, .int 0, .int 0, .int 0, .int 0, .int 0])), (b1, i0 cI 8), (b2, i0 cI 8)]) := hD
  refine lv_aload_n hx hb dX3_init_20 rfl (lv_at hl 0 rfl) ?_
  refine lv_iconst (v := (-1)) hx hb dX3_init_21 (by decide) ?_
  refine va_put (D := D) (ci := 4) (v := .int (-1)) (ty := .int) (C := RX3) (T := TX3) (N := 7) hx hb hts (fun _ h => List.mem_cons_of_mem _ (List.mem_append_right _ (h))) tyX3 tyX3_ok nmX3 hown hK hP hD hS 0 rfl rfl 2 (by decide) (hts _ (List.mem_of_getElem? (i := 7) rfl)) (fun _ h9 => h9) rfl (by decide +kernel) rfl rfl (Nat.le_of_ble_eq_true rfl) dX3_init_22 (fun H locs hP hD hS => ?_)
  have hP : va_P D vwCl ([(a, .inr (4, [.ref b1, .ref b2, .int (-1), .int 0, .int 0, .int 0, .int 0])), (b1, i0 cI 8), (b2, i0 cI 8)]) H := hP
  have hD : va_D (alZ a z0) ([(a, .inr (4, [.ref b1, .ref b2, .int (-1), .int 0, .int 0, .int 0, .int 0])), (b1, i0 cI 8), (b2, i0 cI 8)]) := hD
  refine lv_aload_n hx hb dX3_init_25 rfl (lv_at hl 0 rfl) ?_
  refine lv_iconst (v := 0) hx hb dX3_init_26 (by decide) ?_
  refine va_put (D := D) (ci := 4) (v := .int 0) (ty := .int) (C := RX3) (T := TX3) (N := 7) hx hb hts (fun _ h => List.mem_cons_of_mem _ (List.mem_append_right _ (h))) tyX3 tyX3_ok nmX3 hown hK hP hD hS 0 rfl rfl 3 (by decide) (hts _ (List.mem_of_getElem? (i := 8) rfl)) (fun _ h9 => h9) rfl (by decide +kernel) rfl rfl (Nat.le_of_ble_eq_true rfl) dX3_init_27 (fun H locs hP hD hS => ?_)
  have hP : va_P D vwCl ([(a, .inr (4, [.ref b1, .ref b2, .int (-1), .int 0, .int 0, .int 0, .int 0])), (b1, i0 cI 8), (b2, i0 cI 8)]) H := hP
  have hD : va_D (alZ a z0) ([(a, .inr (4, [.ref b1, .ref b2, .int (-1), .int 0, .int 0, .int 0, .int 0])), (b1, i0 cI 8), (b2, i0 cI 8)]) := hD
  refine lv_aload_n hx hb dX3_init_30 rfl (lv_at hl 0 rfl) ?_
  refine lv_iconst (v := 0) hx hb dX3_init_31 (by decide) ?_
  refine va_put (D := D) (ci := 4) (v := .int 0) (ty := .int) (C := RX3) (T := TX3) (N := 7) hx hb hts (fun _ h => List.mem_cons_of_mem _ (List.mem_append_right _ (h))) tyX3 tyX3_ok nmX3 hown hK hP hD hS 0 rfl rfl 4 (by decide) (hts _ (List.mem_of_getElem? (i := 9) rfl)) (fun _ h9 => h9) rfl (by decide +kernel) rfl rfl (Nat.le_of_ble_eq_true rfl) dX3_init_32 (fun H locs hP hD hS => ?_)
  have hP : va_P D vwCl ([(a, .inr (4, [.ref b1, .ref b2, .int (-1), .int 0, .int 0, .int 0, .int 0])), (b1, i0 cI 8), (b2, i0 cI 8)]) H := hP
  have hD : va_D (alZ a z0) ([(a, .inr (4, [.ref b1, .ref b2, .int (-1), .int 0, .int 0, .int 0, .int 0])), (b1, i0 cI 8), (b2, i0 cI 8)]) := hD
  refine lv_aload_n hx hb dX3_init_35 rfl (lv_at hl 0 rfl) ?_
  refine lv_iconst (v := 0) hx hb dX3_init_36 (by decide) ?_
  refine va_put (D := D) (ci := 4) (v := .int 0) (ty := .int) (C := RX3) (T := TX3) (N := 7) hx hb hts (fun _ h => List.mem_cons_of_mem _ (List.mem_append_right _ (h))) tyX3 tyX3_ok nmX3 hown hK hP hD hS 0 rfl rfl 5 (by decide) (hts _ (List.mem_of_getElem? (i := 10) rfl)) (fun _ h9 => h9) rfl (by decide +kernel) rfl rfl (Nat.le_of_ble_eq_true rfl) dX3_init_37 (fun H locs hP hD hS => ?_)
  have hP : va_P D vwCl ([(a, .inr (4, [.ref b1, .ref b2, .int (-1), .int 0, .int 0, .int 0, .int 0])), (b1, i0 cI 8), (b2, i0 cI 8)]) H := hP
  have hD : va_D (alZ a z0) ([(a, .inr (4, [.ref b1, .ref b2, .int (-1), .int 0, .int 0, .int 0, .int 0])), (b1, i0 cI 8), (b2, i0 cI 8)]) := hD
  refine lv_aload_n hx hb dX3_init_40 rfl (lv_at hl 0 rfl) ?_
  refine lv_iconst (v := 0) hx hb dX3_init_41 (by decide) ?_
  refine va_put (D := D) (ci := 4) (v := .int 0) (ty := .int) (C := RX3) (T := TX3) (N := 7) hx hb hts (fun _ h => List.mem_cons_of_mem _ (List.mem_append_right _ (h))) tyX3 tyX3_ok nmX3 hown hK hP hD hS 0 rfl rfl 6 (by decide) (hts _ (List.mem_of_getElem? (i := 11) rfl)) (fun _ h9 => h9) rfl (by decide +kernel) rfl rfl (Nat.le_of_ble_eq_true rfl) dX3_init_42 (fun H locs hP hD hS => ?_)
  have hP : va_P D vwCl ([(a, .inr (4, [.ref b1, .ref b2, .int (-1), .int 0, .int 0, .int 0, .int 0])), (b1, i0 cI 8), (b2, i0 cI 8)]) H := hP
  have hD : va_D (alZ a z0) ([(a, .inr (4, [.ref b1, .ref b2, .int (-1), .int 0, .int 0, .int 0, .int 0])), (b1, i0 cI 8), (b2, i0 cI 8)]) := hD
  subst hQ
  exact W.vret hx hb hr (fun t ht hW => ⟨⟨fun z => if z = 1 then b1 else if z = 2 then b2 else 0, rfl, trivial, by have e := hP; rw [← ht] at e; exact ⟨e, hD⟩⟩, hS.F ht⟩) hS.2.2 dX3_init_45
