set_option maxHeartbeats 800000 in
set_option maxRecDepth 100000 in
theorem k_X4i (l : Launch) (D : va_G) (cI cZ cO : ClassId) (a z0 e0 : Nat) (hne : ¬ alZ a z0 e0) : Met l yX4_init wsX4_init { frames := 6, cells := 12, slots := 87, locals := 190 } (va_Pc [.ref a] (rdY D ([(cI, .int), (cI, .int), (cO, .object "java/lang/Object")]) ([(a, .inr (5, [.null, .null, .null]))]) (aY D cO (alZ a z0) e0 z0))) (va_Qv (fun _ : Unit => True) (fun _ t => PX D cI cO (alZ a z0) a e0 F0i (fun _ => 0) (fun _ => 0) (fun _ => 0) 1 (fun _ => 0) (fun _ => 0) (-1) 0 0 0 0 t) (alZ a z0)) 12 87 (alZ a z0) := by
  refine Met.ofW (cc := cX4_init) (maxL := 1) (ret := none) (by decide) rfl ?_
  intro p e s m args below meth c s₁ B hml hv
  obtain ⟨hargs, ⟨hP, hK, hN⟩, hY⟩ := hv
  have hin : meth.name = "<init>" := (name_of_methodNamed B.named B.method).1
  have hx := B.exec
  have hb := B.bytes
  have hr := B.returns
  have hts := atoms_spec (ws := wsX4_init) B.pre
  have hown : s.vm.findClass RX4 = some m.cls := findClass_of_methodNamed B.named
  have hlocks := B.notSynchronized
  have hen : entryFrame m args 1 = entryFrame m ([.ref a] : List Value).toArray 1 := by rw [hargs]
  rw [hen]
  have hl := lv_entry ([.ref a]) (n := 1) (Nat.le_of_ble_eq_true rfl)
  rw [lg_entry_eq]
  generalize (lg_sl ([.ref a]) ++ List.replicate (1 - (lg_sl ([.ref a])).length) Slot.unset).toArray = ls at hl ⊢
  have hl : lv_has ls 1 [(0, .ref a)] := hl
  generalize hQ : MQ below (va_Qv (fun _ : Unit => True) (fun _ t => PX D cI cO (alZ a z0) a e0 F0i (fun _ => 0) (fun _ => 0) (fun _ => 0) 1 (fun _ => 0) (fun _ => 0) (-1) 0 0 0 0 t) (alZ a z0)) args s 12 87 (alZ a z0) = Q
  have hz0 : z0 ≤ s.heap.size := hY.2.2.2.2
  have hAz : ∀ q, z0 ≤ q → alZ a z0 q := fun q h => Or.inr h
  have hD : va_D (alZ a z0) ([(a, .inr (5, [.null, .null, .null]))]) := oz_D
  have hS : va_S (alZ a z0) s.heap s.heap [] := va_S.rf
  refine lv_aload_n hx hb dX4_init_0 rfl (lv_at hl 0 rfl) ?_
  refine W.objInit hx hb hown (hts _ (List.mem_of_getElem? (i := 1) rfl)) (hts _ (List.mem_of_getElem? (i := 2) rfl)) (hts _ (List.mem_of_getElem? (i := 3) rfl)) rfl (by rw [hml]; exact hl.1) rfl dX4_init_1 (Nat.le_of_ble_eq_true rfl) (Nat.le_of_ble_eq_true rfl) ?_
  refine W.eq (g2 := F0 m 4 ls []) rfl ?_
  refine lv_aload_n hx hb dX4_init_4 rfl (lv_at hl 0 rfl) ?_
  refine va_new (ci := 3) (fs := [.null, .null, .null]) (C := RX2) (T := TX2) (N := 3) hx hb hts (fun _ h => List.mem_cons_of_mem _ (List.mem_append_left _ (List.mem_append_left _ (List.mem_append_left _ (List.mem_append_left _ (List.mem_append_right _ (h))))))) tyX2 tyX2_ok hown (hts _ (List.mem_of_getElem? (i := 4) rfl)) (hts _ (List.mem_of_getElem? (i := 5) rfl)) (hts _ (List.mem_of_getElem? (i := 6) rfl)) hK hP hD hS (fun q9 hq9 => Or.inr (Nat.le_trans hz0 hq9)) rfl (fun j hj => by rcases (show j = 0 ∨ j = 1 ∨ j = 2 by omega) with rfl | rfl | rfl <;> rfl) (Nat.le_of_ble_eq_true rfl) (Nat.le_of_ble_eq_true rfl) dX4_init_5 (fun b1 H hP hD hS => ?_)
  have hP : va_P D vwCl ([(a, .inr (5, [.null, .null, .null])), (b1, .inr (3, [.null, .null, .null]))]) H := hP
  have hD : va_D (alZ a z0) ([(a, .inr (5, [.null, .null, .null])), (b1, .inr (3, [.null, .null, .null]))]) := hD
  have hA_b1 : alZ a z0 b1 := hD.2 1 _ rfl
  have hAs : ∀ q, alZ b1 H.size q → alZ a z0 q := fun q h => h.elim (fun e => by rw [e]; exact hA_b1) (fun h => Or.inr (Nat.le_trans hz0 (Nat.le_trans hS.1 h)))
  have hPb : va_P D vwCl [(b1, .inr (3, [.null, .null, .null]))] H := va_P_in hP (fun q hq => by rw [List.mem_singleton] at hq; rw [hq]; exact List.mem_of_getElem? (i := 1) rfl)
  refine lv_dup hx hb dX4_init_8 rfl ?_
  refine va_callv (va_runIN (As := []) (rest := [.ref b1, .ref a]) ⟨hx, hb, hml, hown, hts⟩ (k_X2i l D cI cZ cO b1 H.size) ⟨va_cnB (host := RX4) 0 hts ggX4_init_X2_init rfl rfl rfl hN.2.2.1 (hts _ (List.mem_of_getElem? (i := 6) rfl)) (by decide +kernel) ⟨Nat.le_of_ble_eq_true rfl, Nat.le_of_ble_eq_true rfl⟩, rfl, (hts _ (List.mem_of_getElem? (i := 19) rfl))⟩ ⟨rdS_blind, rdS_pre hPb hK hN (Nat.le_refl _)⟩ rfl rfl hl.1 rfl (lv_room (Nat.le_of_ble_eq_true rfl)) dX4_init_9 ⟨Nat.le_of_ble_eq_true rfl, Nat.le_of_ble_eq_true rfl⟩) hS (fun q _ h => hAs q h) hAs (fun uA t H1 locs ht hvm hw2 hB hz1 hk1 hS => ?_)
  obtain ⟨hB1, hB2⟩ := hB
  rw [ht] at hB1
  obtain ⟨hP, hD⟩ := jz (wr := [(a, .inr (5, [.null, .null, .null]))]) (w1 := [(b1, .inr (3, [.ref (uA 1), .ref (uA 2), .ref (uA 3)])), (uA 1, i0 cI 6), (uA 2, i0 cI 6), (uA 3, i0 cI 6)]) hP hD 1 rfl [0] rfl rfl (by decide) hk1 hAs hB1 hB2
  refine va_putF (D := D) (ci := 5) (v := .ref b1) (ty := .object "ShareMover$Groups") (C := RX4) (T := TX4) (N := 3) hx hb hts (fun _ h => List.mem_cons_of_mem _ (List.mem_append_left _ (List.mem_append_left _ (List.mem_append_left _ (List.mem_append_right _ (h)))))) tyX4 tyX4_ok nmX4 hown hK hP hD hS 0 rfl rfl 0 (by decide) (hts _ (List.mem_of_getElem? (i := 7) rfl)) (fun _ h9 => h9) rfl hin rfl (by decide +kernel) rfl rfl (Nat.le_of_ble_eq_true rfl) dX4_init_12 (fun H locs hP hD hS => ?_)
  have hP : va_P D vwCl ([(a, .inr (5, [.ref b1, .null, .null])), (b1, .inr (3, [.ref (uA 1), .ref (uA 2), .ref (uA 3)])), (uA 1, i0 cI 6), (uA 2, i0 cI 6), (uA 3, i0 cI 6)]) H := hP
  have hD : va_D (alZ a z0) ([(a, .inr (5, [.ref b1, .null, .null])), (b1, .inr (3, [.ref (uA 1), .ref (uA 2), .ref (uA 3)])), (uA 1, i0 cI 6), (uA 2, i0 cI 6), (uA 3, i0 cI 6)]) := hD
  refine lv_aload_n hx hb dX4_init_15 rfl (lv_at hl 0 rfl) ?_
  refine va_new (ci := 0) (fs := [.int 0, .null, .int 0]) (C := RJx4a65c) (T := TJx4a65c) (N := 3) hx hb hts (fun _ h => List.mem_cons_of_mem _ (List.mem_append_left _ (List.mem_append_left _ (List.mem_append_right _ (h))))) tyJx4a65c tyJx4a65c_ok hown (hts _ (List.mem_of_getElem? (i := 8) rfl)) (hts _ (List.mem_of_getElem? (i := 9) rfl)) (hts _ (List.mem_of_getElem? (i := 10) rfl)) hK hP hD hS (fun q9 hq9 => Or.inr (Nat.le_trans hz0 hq9)) rfl (fun j hj => by rcases (show j = 0 ∨ j = 1 ∨ j = 2 by omega) with rfl | rfl | rfl <;> rfl) (Nat.le_of_ble_eq_true rfl) (Nat.le_of_ble_eq_true rfl) dX4_init_16 (fun b5 H hP hD hS => ?_)
  have hP : va_P D vwCl ([(a, .inr (5, [.ref b1, .null, .null])), (b1, .inr (3, [.ref (uA 1), .ref (uA 2), .ref (uA 3)])), (uA 1, i0 cI 6), (uA 2, i0 cI 6), (uA 3, i0 cI 6), (b5, .inr (0, [.int 0, .null, .int 0]))]) H := hP
  have hD : va_D (alZ a z0) ([(a, .inr (5, [.ref b1, .null, .null])), (b1, .inr (3, [.ref (uA 1), .ref (uA 2), .ref (uA 3)])), (uA 1, i0 cI 6), (uA 2, i0 cI 6), (uA 3, i0 cI 6), (b5, .inr (0, [.int 0, .null, .int 0]))]) := hD
  have hA_b5 : alZ a z0 b5 := hD.2 5 _ rfl
  have hAs : ∀ q, alZ b5 H.size q → alZ a z0 q := fun q h => h.elim (fun e => by rw [e]; exact hA_b5) (fun h => Or.inr (Nat.le_trans hz0 (Nat.le_trans hS.1 h)))
  have hPb : va_P D vwCl [(b5, .inr (0, [.int 0, .null, .int 0]))] H := va_P_in hP (fun q hq => by rw [List.mem_singleton] at hq; rw [hq]; exact List.mem_of_getElem? (i := 5) rfl)
  refine lv_dup hx hb dX4_init_19 rfl ?_
  refine va_callv (va_runI (As := []) (rest := [.ref b5, .ref a]) ⟨hx, hb, hml, hown, hts⟩ (k_i3 l D cI cZ cO b5 e0) (cwI 0 hts gX4_init_Jx4a65c_init_da8c8 rfl rfl rfl (hts _ (List.mem_of_getElem? (i := 10) rfl)) (hts _ (List.mem_of_getElem? (i := 26) rfl)) (hts _ (List.mem_of_getElem? (i := 27) rfl)) rfl (by decide +kernel) ⟨Nat.le_of_ble_eq_true rfl, Nat.le_of_ble_eq_true rfl⟩) ⟨rdE_blind, rdE_pre hPb hK hN ((va_Z.kept hY.2.2.2.1 hS.2.1).narrow (fun q hq => by rw [hq]; exact hA_b5))⟩ rfl rfl hl.1 rfl (lv_room (Nat.le_of_ble_eq_true rfl)) dX4_init_20 ⟨Nat.le_of_ble_eq_true rfl, Nat.le_of_ble_eq_true rfl⟩) hS (fun q _ h => by rw [show q = b5 from h]; exact hA_b5) (fun q h => by rw [show q = b5 from h]; exact hA_b5) (fun u t H1 locs ht hvm hw2 hB hz1 hk1 hS => ?_)
  rw [ht] at hB
  obtain ⟨hP, hD⟩ := jz (wr := [(a, .inr (5, [.ref b1, .null, .null])), (b1, .inr (3, [.ref (uA 1), .ref (uA 2), .ref (uA 3)])), (uA 1, i0 cI 6), (uA 2, i0 cI 6), (uA 3, i0 cI 6)]) (w1 := [(b5, .inr (0, [.int 0, .ref e0, .int 0]))]) hP hD 5 rfl [0, 1, 2, 3, 4] rfl rfl (by decide) (fun q h1 h2 => hk1 q h1 (fun e => h2 (Or.inl e))) hAs hB oz_D
  refine va_putF (D := D) (ci := 5) (v := .ref b5) (ty := .object "java/util/ArrayList") (C := RX4) (T := TX4) (N := 3) hx hb hts (fun _ h => List.mem_cons_of_mem _ (List.mem_append_left _ (List.mem_append_left _ (List.mem_append_left _ (List.mem_append_right _ (h)))))) tyX4 tyX4_ok nmX4 hown hK hP hD hS 0 rfl rfl 1 (by decide) (hts _ (List.mem_of_getElem? (i := 11) rfl)) (fun _ h9 => h9) rfl hin rfl (by decide +kernel) rfl rfl (Nat.le_of_ble_eq_true rfl) dX4_init_23 (fun H locs hP hD hS => ?_)
  have hP : va_P D vwCl ([(a, .inr (5, [.ref b1, .ref b5, .null])), (b1, .inr (3, [.ref (uA 1), .ref (uA 2), .ref (uA 3)])), (uA 1, i0 cI 6), (uA 2, i0 cI 6), (uA 3, i0 cI 6), (b5, .inr (0, [.int 0, .ref e0, .int 0]))]) H := hP
  have hD : va_D (alZ a z0) ([(a, .inr (5, [.ref b1, .ref b5, .null])), (b1, .inr (3, [.ref (uA 1), .ref (uA 2), .ref (uA 3)])), (uA 1, i0 cI 6), (uA 2, i0 cI 6), (uA 3, i0 cI 6), (b5, .inr (0, [.int 0, .ref e0, .int 0]))]) := hD
  refine lv_aload_n hx hb dX4_init_26 rfl (lv_at hl 0 rfl) ?_
  refine va_new (ci := 4) (fs := [.null, .null, .int 0, .int 0, .int 0, .int 0, .int 0]) (C := RX3) (T := TX3) (N := 7) hx hb hts (fun _ h => List.mem_cons_of_mem _ (List.mem_append_left _ (List.mem_append_right _ (h)))) tyX3 tyX3_ok hown (hts _ (List.mem_of_getElem? (i := 12) rfl)) (hts _ (List.mem_of_getElem? (i := 13) rfl)) (hts _ (List.mem_of_getElem? (i := 14) rfl)) hK hP hD hS (fun q9 hq9 => Or.inr (Nat.le_trans hz0 hq9)) rfl (fun j hj => by rcases (show j = 0 ∨ j = 1 ∨ j = 2 ∨ j = 3 ∨ j = 4 ∨ j = 5 ∨ j = 6 by omega) with rfl | rfl | rfl | rfl | rfl | rfl | rfl <;> rfl) (Nat.le_of_ble_eq_true rfl) (Nat.le_of_ble_eq_true rfl) dX4_init_27 (fun b6 H hP hD hS => ?_)
  have hP : va_P D vwCl ([(a, .inr (5, [.ref b1, .ref b5, .null])), (b1, .inr (3, [.ref (uA 1), .ref (uA 2), .ref (uA 3)])), (uA 1, i0 cI 6), (uA 2, i0 cI 6), (uA 3, i0 cI 6), (b5, .inr (0, [.int 0, .ref e0, .int 0])), (b6, .inr (4, [.null, .null, .int 0, .int 0, .int 0, .int 0, .int 0]))]) H := hP
  have hD : va_D (alZ a z0) ([(a, .inr (5, [.ref b1, .ref b5, .null])), (b1, .inr (3, [.ref (uA 1), .ref (uA 2), .ref (uA 3)])), (uA 1, i0 cI 6), (uA 2, i0 cI 6), (uA 3, i0 cI 6), (b5, .inr (0, [.int 0, .ref e0, .int 0])), (b6, .inr (4, [.null, .null, .int 0, .int 0, .int 0, .int 0, .int 0]))]) := hD
  have hA_b6 : alZ a z0 b6 := hD.2 6 _ rfl
  have hAs : ∀ q, alZ b6 H.size q → alZ a z0 q := fun q h => h.elim (fun e => by rw [e]; exact hA_b6) (fun h => Or.inr (Nat.le_trans hz0 (Nat.le_trans hS.1 h)))
  have hPb : va_P D vwCl [(b6, .inr (4, [.null, .null, .int 0, .int 0, .int 0, .int 0, .int 0]))] H := va_P_in hP (fun q hq => by rw [List.mem_singleton] at hq; rw [hq]; exact List.mem_of_getElem? (i := 6) rfl)
  refine lv_dup hx hb dX4_init_30 rfl ?_
  refine va_callv (va_runIN (As := []) (rest := [.ref b6, .ref a]) ⟨hx, hb, hml, hown, hts⟩ (k_X3i l D cI cZ cO b6 H.size) ⟨va_cnB (host := RX4) 0 hts ggX4_init_X3_init rfl rfl rfl hN.2.2.2 (hts _ (List.mem_of_getElem? (i := 14) rfl)) (by decide +kernel) ⟨Nat.le_of_ble_eq_true rfl, Nat.le_of_ble_eq_true rfl⟩, rfl, (hts _ (List.mem_of_getElem? (i := 41) rfl))⟩ ⟨rdS_blind, rdS_pre hPb hK hN (Nat.le_refl _)⟩ rfl rfl hl.1 rfl (lv_room (Nat.le_of_ble_eq_true rfl)) dX4_init_31 ⟨Nat.le_of_ble_eq_true rfl, Nat.le_of_ble_eq_true rfl⟩) hS (fun q _ h => hAs q h) hAs (fun uB t H1 locs ht hvm hw2 hB hz1 hk1 hS => ?_)
  obtain ⟨hB1, hB2⟩ := hB
  rw [ht] at hB1
  obtain ⟨hP, hD⟩ := jz (wr := [(a, .inr (5, [.ref b1, .ref b5, .null])), (b1, .inr (3, [.ref (uA 1), .ref (uA 2), .ref (uA 3)])), (uA 1, i0 cI 6), (uA 2, i0 cI 6), (uA 3, i0 cI 6), (b5, .inr (0, [.int 0, .ref e0, .int 0]))]) (w1 := [(b6, .inr (4, [.ref (uB 1), .ref (uB 2), .int (-1), .int 0, .int 0, .int 0, .int 0])), (uB 1, i0 cI 8), (uB 2, i0 cI 8)]) hP hD 6 rfl [0, 1, 2, 3, 4, 5] rfl rfl (by decide) hk1 hAs hB1 hB2
  refine va_putF (D := D) (ci := 5) (v := .ref b6) (ty := .object "ShareMover$Mapping") (C := RX4) (T := TX4) (N := 3) hx hb hts (fun _ h => List.mem_cons_of_mem _ (List.mem_append_left _ (List.mem_append_left _ (List.mem_append_left _ (List.mem_append_right _ (h)))))) tyX4 tyX4_ok nmX4 hown hK hP hD hS 0 rfl rfl 2 (by decide) (hts _ (List.mem_of_getElem? (i := 15) rfl)) (fun _ h9 => h9) rfl hin rfl (by decide +kernel) rfl rfl (Nat.le_of_ble_eq_true rfl) dX4_init_34 (fun H locs hP hD hS => ?_)
  have hP : va_P D vwCl ([(a, .inr (5, [.ref b1, .ref b5, .ref b6])), (b1, .inr (3, [.ref (uA 1), .ref (uA 2), .ref (uA 3)])), (uA 1, i0 cI 6), (uA 2, i0 cI 6), (uA 3, i0 cI 6), (b5, .inr (0, [.int 0, .ref e0, .int 0])), (b6, .inr (4, [.ref (uB 1), .ref (uB 2), .int (-1), .int 0, .int 0, .int 0, .int 0])), (uB 1, i0 cI 8), (uB 2, i0 cI 8)]) H := hP
  have hD : va_D (alZ a z0) ([(a, .inr (5, [.ref b1, .ref b5, .ref b6])), (b1, .inr (3, [.ref (uA 1), .ref (uA 2), .ref (uA 3)])), (uA 1, i0 cI 6), (uA 2, i0 cI 6), (uA 3, i0 cI 6), (b5, .inr (0, [.int 0, .ref e0, .int 0])), (b6, .inr (4, [.ref (uB 1), .ref (uB 2), .int (-1), .int 0, .int 0, .int 0, .int 0])), (uB 1, i0 cI 8), (uB 2, i0 cI 8)]) := hD
  refine lv_aload_n hx hb dX4_init_37 rfl (lv_at hl 0 rfl) ?_
  refine va_get (D := D) (ci := 5) (v := .ref b5) (C := RX4) (T := TX4) (N := 3) hx hb hts (fun _ h => List.mem_cons_of_mem _ (List.mem_append_left _ (List.mem_append_left _ (List.mem_append_left _ (List.mem_append_right _ (h)))))) hown hK hP 0 rfl rfl 1 (by decide) (hts _ (List.mem_of_getElem? (i := 11) rfl)) (fun _ h9 => h9) rfl dX4_init_38 ?_
  refine va_new (ci := 2) (fs := [.null, .null, .null, .int 0, .int 0, .int 0, .int 0]) (C := RX1) (T := TX1) (N := 7) hx hb hts (fun _ h => List.mem_cons_of_mem _ (List.mem_append_right _ (h))) tyX1 tyX1_ok hown (hts _ (List.mem_of_getElem? (i := 16) rfl)) (hts _ (List.mem_of_getElem? (i := 17) rfl)) (hts _ (List.mem_of_getElem? (i := 18) rfl)) hK hP hD hS (fun q9 hq9 => Or.inr (Nat.le_trans hz0 hq9)) rfl (fun j hj => by rcases (show j = 0 ∨ j = 1 ∨ j = 2 ∨ j = 3 ∨ j = 4 ∨ j = 5 ∨ j = 6 by omega) with rfl | rfl | rfl | rfl | rfl | rfl | rfl <;> rfl) (Nat.le_of_ble_eq_true rfl) (Nat.le_of_ble_eq_true rfl) dX4_init_41 (fun b9 H hP hD hS => ?_)
  have hP : va_P D vwCl ([(a, .inr (5, [.ref b1, .ref b5, .ref b6])), (b1, .inr (3, [.ref (uA 1), .ref (uA 2), .ref (uA 3)])), (uA 1, i0 cI 6), (uA 2, i0 cI 6), (uA 3, i0 cI 6), (b5, .inr (0, [.int 0, .ref e0, .int 0])), (b6, .inr (4, [.ref (uB 1), .ref (uB 2), .int (-1), .int 0, .int 0, .int 0, .int 0])), (uB 1, i0 cI 8), (uB 2, i0 cI 8), (b9, .inr (2, [.null, .null, .null, .int 0, .int 0, .int 0, .int 0]))]) H := hP
  have hD : va_D (alZ a z0) ([(a, .inr (5, [.ref b1, .ref b5, .ref b6])), (b1, .inr (3, [.ref (uA 1), .ref (uA 2), .ref (uA 3)])), (uA 1, i0 cI 6), (uA 2, i0 cI 6), (uA 3, i0 cI 6), (b5, .inr (0, [.int 0, .ref e0, .int 0])), (b6, .inr (4, [.ref (uB 1), .ref (uB 2), .int (-1), .int 0, .int 0, .int 0, .int 0])), (uB 1, i0 cI 8), (uB 2, i0 cI 8), (b9, .inr (2, [.null, .null, .null, .int 0, .int 0, .int 0, .int 0]))]) := hD
  have hA_b9 : alZ a z0 b9 := hD.2 9 _ rfl
  have hAs : ∀ q, alZ b9 H.size q → alZ a z0 q := fun q h => h.elim (fun e => by rw [e]; exact hA_b9) (fun h => Or.inr (Nat.le_trans hz0 (Nat.le_trans hS.1 h)))
  have hPb : va_P D vwCl [(b9, .inr (2, [.null, .null, .null, .int 0, .int 0, .int 0, .int 0]))] H := va_P_in hP (fun q hq => by rw [List.mem_singleton] at hq; rw [hq]; exact List.mem_of_getElem? (i := 9) rfl)
  refine lv_dup hx hb dX4_init_44 rfl ?_
  refine lv_null hx hb dX4_init_45 ?_
  refine lv_iconst (v := 0) hx hb dX4_init_46 (by decide) ?_
  refine va_callv (va_runI (As := [.null, .int 0]) (rest := [.ref b9, .ref b5]) ⟨hx, hb, hml, hown, hts⟩ (k_X1n l D cI cZ cO b9 H.size e0 0) (cwI 2 hts gX4_init_X1_init rfl rfl rfl (hts _ (List.mem_of_getElem? (i := 18) rfl)) (hts _ (List.mem_of_getElem? (i := 51) rfl)) (hts _ (List.mem_of_getElem? (i := 52) rfl)) rfl (by decide +kernel) ⟨Nat.le_of_ble_eq_true rfl, Nat.le_of_ble_eq_true rfl⟩) ⟨rdF_blind, rdF_pre hPb hK hN (Nat.le_refl _) (hY.zz hS hA_b9 hAz)⟩ rfl rfl hl.1 rfl (lv_room (Nat.le_of_ble_eq_true rfl)) dX4_init_47 ⟨Nat.le_of_ble_eq_true rfl, Nat.le_of_ble_eq_true rfl⟩) hS (fun q _ h => hAs q h) hAs (fun uC t H1 locs ht hvm hw2 hB hz1 hk1 hS => ?_)
  obtain ⟨hB1, hB2⟩ := hB
  rw [ht] at hB1
  obtain ⟨hP, hD⟩ := jz (wr := [(a, .inr (5, [.ref b1, .ref b5, .ref b6])), (b1, .inr (3, [.ref (uA 1), .ref (uA 2), .ref (uA 3)])), (uA 1, i0 cI 6), (uA 2, i0 cI 6), (uA 3, i0 cI 6), (b5, .inr (0, [.int 0, .ref e0, .int 0])), (b6, .inr (4, [.ref (uB 1), .ref (uB 2), .int (-1), .int 0, .int 0, .int 0, .int 0])), (uB 1, i0 cI 8), (uB 2, i0 cI 8)]) (w1 := [(b9, .inr (2, [.null, .ref (uC 1), .ref (uC 2), .int 0, .int 1, .int 0, .int 0])), (uC 1, .inr (0, [.int 0, .ref e0, .int 0])), (uC 2, i0 cI 8)]) hP hD 9 rfl [0, 1, 2, 3, 4, 5, 6, 7, 8] rfl rfl (by decide) hk1 hAs hB1 hB2
  have hn95 : b9 ≠ b5 := fun e9 => absurd (hD.1 9 5 _ _ rfl rfl e9) (by decide)
  have hV : va_Any "java/lang/Object" s H1 b9 := va_rAny hK hP (q0 := 9) rfl (r := (RX1, TX1, 7)) rfl (vb_asgC hY.1.2)
  have e00 : nI 0 = 0 := rfl
  have hPl : va_P D vwCl (l1W b5 0 e0 (nI 0)) H1 := va_P_in hP (fun q hq => by rw [List.mem_singleton] at hq; rw [hq, e00]; exact List.mem_of_getElem? (i := 5) rfl)
  have hAs : ∀ q, alZ b5 H1.size q → alZ a z0 q := fun q h => h.elim (fun e => by rw [e]; exact hA_b5) (fun h => Or.inr (Nat.le_trans hz0 (Nat.le_trans hS.1 h)))
  refine va_calli (va_runV (As := [.ref b9]) (rest := []) ⟨hx, hb, hml, hown, hts⟩ (k_addC2 l D cI cZ cO b5 e0 H1.size 0 b9 hn95 hV.lt) (cwV 1 hts gX4_init_Jx4a65c_add_9ea2d rfl rfl rfl (by decide +kernel) ⟨Nat.le_of_ble_eq_true rfl, Nat.le_of_ble_eq_true rfl⟩) ⟨rdH_blind, va_recv hK hPl (ci := 0) (q0 := 0) rfl rfl, hY.pre hS hne hA_b5 hAz hPl hK hN hV⟩ rfl rfl hl.1 rfl (lv_room (Nat.le_of_ble_eq_true rfl)) dX4_init_50 ⟨Nat.le_of_ble_eq_true rfl, Nat.le_of_ble_eq_true rfl⟩) hS (fun q _ h => hAs q h) hAs (fun r9 c9 t H3 locs3 ht hvm hw2 hB hz1 hk1 hS => ?_)
  obtain ⟨hB1, hz9, hn9⟩ := hB
  rw [ht] at hB1
  obtain ⟨hP, hD⟩ := jz (wr := [(a, .inr (5, [.ref b1, .ref b5, .ref b6])), (b1, .inr (3, [.ref (uA 1), .ref (uA 2), .ref (uA 3)])), (uA 1, i0 cI 6), (uA 2, i0 cI 6), (uA 3, i0 cI 6), (b6, .inr (4, [.ref (uB 1), .ref (uB 2), .int (-1), .int 0, .int 0, .int 0, .int 0])), (uB 1, i0 cI 8), (uB 2, i0 cI 8), (b9, .inr (2, [.null, .ref (uC 1), .ref (uC 2), .int 0, .int 1, .int 0, .int 0])), (uC 1, .inr (0, [.int 0, .ref e0, .int 0])), (uC 2, i0 cI 8)]) (w1 := [(b5, .inr (0, [.int (0 + 1), .ref c9, .int (nI (0 + 1))])), (c9, refs cO 10 (va_up (fun _ => none) 0 (some b9)))]) hP hD 5 rfl [0, 1, 2, 3, 4, 6, 7, 8, 9, 10, 11] rfl rfl (by decide) hk1 hAs hB1 (l2_D hn9 hz9)
  refine lv_pop hx hb dX4_init_53 rfl ?_
  subst hQ
  refine W.widen (k := 12) (n := 87) (Nat.le_of_ble_eq_true rfl) (Nat.le_of_ble_eq_true rfl) ?_
  exact W.vret hx hb hr (fun t ht hW => ⟨⟨(), rfl, trivial, fin_X4 hP hD t ht⟩, hS.F ht⟩) hS.2.2 dX4_init_54
