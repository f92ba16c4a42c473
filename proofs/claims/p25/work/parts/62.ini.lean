set_option maxHeartbeats 800000 in
set_option maxRecDepth 100000 in
theorem k_i1 (l : Launch) (D : va_G) (cI cZ cO : ClassId) (a : Nat)  : Met l yJxa1e45_init_da8c8 wsJxa1e45_init_da8c8 (rmr 2 40) (va_Pc [.ref a] (rdP D ([(cI, .int), (cI, .int), (cO, .object "java/lang/Object")]) ([(a, .inr (0, [.int 0, .null, .int 0]))]))) (va_Qv (fun _ : Unit => True) (fun _ t => va_P D vwCl ([(a, .inr (0, [.int 0, .null, .int 0]))]) t.heap) (fun x => x = a)) 0 0 (fun x => x = a) := by
  refine Met.ofW (cc := cJxa1e45_init_da8c8) (maxL := 1) (ret := none) (by decide) rfl ?_
  intro p e s m args below meth c s₁ B hml hv
  obtain ⟨hargs, hP, hK, hN⟩ := hv
  have hin : meth.name = "<init>" := (name_of_methodNamed B.named B.method).1
  have hx := B.exec
  have hb := B.bytes
  have hr := B.returns
  have hts := atoms_spec (ws := wsJxa1e45_init_da8c8) B.pre
  have hown : s.vm.findClass RJxa1e45 = some m.cls := findClass_of_methodNamed B.named
  have hlocks := B.notSynchronized
  have hen : entryFrame m args 1 = entryFrame m ([.ref a] : List Value).toArray 1 := by rw [hargs]
  rw [hen]
  have hl := lv_entry ([.ref a]) (n := 1) (Nat.le_of_ble_eq_true rfl)
  rw [lg_entry_eq]
  generalize (lg_sl ([.ref a]) ++ List.replicate (1 - (lg_sl ([.ref a])).length) Slot.unset).toArray = ls at hl ⊢
  have hl : lv_has ls 1 [(0, .ref a)] := hl
  generalize hQ : MQ below (va_Qv (fun _ : Unit => True) (fun _ t => va_P D vwCl ([(a, .inr (0, [.int 0, .null, .int 0]))]) t.heap) (fun x => x = a)) args s 0 0 (fun x => x = a) = Q
  have go : ∀ (H : Heap) (locs : List Loc), va_P D vwCl ([(a, .inr (0, [.int 0, .null, .int 0]))]) H → va_S (fun x => x = a) s.heap H locs → W p l e (headSpec wsJxa1e45_init_da8c8 (rmr 2 40)).room s m args below meth c H locs 0 0 Q (F0 m 0 ls []) := by
    intro H locs hP hS
    refine lv_aload_n hx hb dJxa1e45_init_da8c8_0 rfl (lv_at hl 0 rfl) ?_
    refine W.objInit hx hb hown (hts _ (List.mem_of_getElem? (i := 1) rfl)) (hts _ (List.mem_of_getElem? (i := 2) rfl)) (hts _ (List.mem_of_getElem? (i := 3) rfl)) rfl (by rw [hml]; exact hl.1) rfl dJxa1e45_init_da8c8_1 (Nat.le_of_ble_eq_true rfl) (Nat.le_of_ble_eq_true rfl) ?_
    refine W.eq (g2 := F0 m 4 ls []) rfl ?_
    subst hQ
    exact W.vret hx hb hr (fun t ht hW => ⟨⟨(), rfl, trivial, by have e := hP; rw [← ht] at e; exact e⟩, hS.F ht⟩) hS.2.2 dJxa1e45_init_da8c8_4
  exact go _ _ hP va_S.rf

set_option maxHeartbeats 800000 in
set_option maxRecDepth 100000 in
theorem k_i2 (l : Launch) (D : va_G) (cI cZ cO : ClassId) (a : Nat)  : Met l yJxc12de_init_da8c8 wsJxc12de_init_da8c8 (rmr 3 70) (va_Pc [.ref a] (rdP D ([(cI, .int), (cI, .int), (cO, .object "java/lang/Object")]) ([(a, .inr (0, [.int 0, .null, .int 0]))]))) (va_Qv (fun _ : Unit => True) (fun _ t => va_P D vwCl ([(a, .inr (0, [.int 0, .null, .int 0]))]) t.heap) (fun x => x = a)) 0 0 (fun x => x = a) := by
  refine Met.ofW (cc := cJxc12de_init_da8c8) (maxL := 1) (ret := none) (by decide) rfl ?_
  intro p e s m args below meth c s₁ B hml hv
  obtain ⟨hargs, hP, hK, hN⟩ := hv
  have hin : meth.name = "<init>" := (name_of_methodNamed B.named B.method).1
  have hx := B.exec
  have hb := B.bytes
  have hr := B.returns
  have hts := atoms_spec (ws := wsJxc12de_init_da8c8) B.pre
  have hown : s.vm.findClass RJxc12de = some m.cls := findClass_of_methodNamed B.named
  have hlocks := B.notSynchronized
  have hen : entryFrame m args 1 = entryFrame m ([.ref a] : List Value).toArray 1 := by rw [hargs]
  rw [hen]
  have hl := lv_entry ([.ref a]) (n := 1) (Nat.le_of_ble_eq_true rfl)
  rw [lg_entry_eq]
  generalize (lg_sl ([.ref a]) ++ List.replicate (1 - (lg_sl ([.ref a])).length) Slot.unset).toArray = ls at hl ⊢
  have hl : lv_has ls 1 [(0, .ref a)] := hl
  generalize hQ : MQ below (va_Qv (fun _ : Unit => True) (fun _ t => va_P D vwCl ([(a, .inr (0, [.int 0, .null, .int 0]))]) t.heap) (fun x => x = a)) args s 0 0 (fun x => x = a) = Q
  have go : ∀ (H : Heap) (locs : List Loc), va_P D vwCl ([(a, .inr (0, [.int 0, .null, .int 0]))]) H → va_S (fun x => x = a) s.heap H locs → W p l e (headSpec wsJxc12de_init_da8c8 (rmr 3 70)).room s m args below meth c H locs 0 0 Q (F0 m 0 ls []) := by
    intro H locs hP hS
    refine lv_aload_n hx hb dJxc12de_init_da8c8_0 rfl (lv_at hl 0 rfl) ?_
    refine va_callv (va_runI (As := []) (rest := []) ⟨hx, hb, hml, hown, hts⟩ (k_i1 l D cI cZ cO a ) (cwI 0 hts gJxc12de_init_da8c8_Jxa1e45_init_da8c8 rfl rfl rfl (hts _ (List.mem_of_getElem? (i := 4) rfl)) (hts _ (List.mem_of_getElem? (i := 2) rfl)) (hts _ (List.mem_of_getElem? (i := 3) rfl)) rfl (by decide +kernel) ⟨Nat.le_of_ble_eq_true rfl, Nat.le_of_ble_eq_true rfl⟩) ⟨rd_blind, rd_pre hP hK hN⟩ rfl rfl hl.1 rfl (lv_room (Nat.le_of_ble_eq_true rfl)) dJxc12de_init_da8c8_1 ⟨Nat.le_of_ble_eq_true rfl, Nat.le_of_ble_eq_true rfl⟩) hS (fun q _ h => h) (fun q h => h) (fun u t H locs ht hvm hw hB hz1 hk1 hS => ?_)
    have hP := hB
    rw [ht] at hP
    have hP : va_P D vwCl ([(a, .inr (0, [.int 0, .null, .int 0]))]) H := hP
    refine lv_aload_n hx hb dJxc12de_init_da8c8_4 rfl (lv_at hl 0 rfl) ?_
    refine lv_iconst (v := 0) hx hb dJxc12de_init_da8c8_5 (by decide) ?_
    refine va_put (D := D) (ci := 0) (v := .int 0) (ty := .int) (C := RJx4a65c) (T := TJx4a65c) (N := 3) hx hb hts (fun _ h => List.mem_cons_of_mem _ (List.mem_append_right _ (h))) tyJx4a65c tyJx4a65c_ok nmJx4a65c hown hK hP ob_D hS 0 rfl rfl 0 (by decide) (hts _ (List.mem_of_getElem? (i := 1) rfl)) (fun _ h9 => h9) rfl (by decide +kernel) rfl rfl (Nat.le_of_ble_eq_true rfl) dJxc12de_init_da8c8_6 (fun H locs hP _ hS => ?_)
    have hP : va_P D vwCl ([(a, .inr (0, [.int 0, .null, .int 0]))]) H := hP
    subst hQ
    exact W.vret hx hb hr (fun t ht hW => ⟨⟨(), rfl, trivial, by have e := hP; rw [← ht] at e; exact e⟩, hS.F ht⟩) hS.2.2 dJxc12de_init_da8c8_9
  exact go _ _ hP va_S.rf

set_option maxHeartbeats 800000 in
set_option maxRecDepth 100000 in
theorem k_i3 (l : Launch) (D : va_G) (cI cZ cO : ClassId) (a : Nat) (e0 : Nat) : Met l yJx4a65c_init_da8c8 wsJx4a65c_init_da8c8 (rmr 4 100) (va_Pc [.ref a] (rdY D ([(cI, .int), (cI, .int), (cO, .object "java/lang/Object")]) ([(a, .inr (0, [.int 0, .null, .int 0]))]) (eZ a e0))) (va_Qv (fun _ : Unit => True) (fun _ t => va_P D vwCl ([(a, .inr (0, [.int 0, .ref e0, .int 0]))]) t.heap) (fun x => x = a)) 0 0 (fun x => x = a) := by
  refine Met.ofW (cc := cJx4a65c_init_da8c8) (maxL := 1) (ret := none) (by decide) rfl ?_
  intro p e s m args below meth c s₁ B hml hv
  obtain ⟨hargs, ⟨hP, hK, hN⟩, hE⟩ := hv
  have hin : meth.name = "<init>" := (name_of_methodNamed B.named B.method).1
  have hx := B.exec
  have hb := B.bytes
  have hr := B.returns
  have hts := atoms_spec (ws := wsJx4a65c_init_da8c8) B.pre
  have hown : s.vm.findClass RJx4a65c = some m.cls := findClass_of_methodNamed B.named
  have hlocks := B.notSynchronized
  have hen : entryFrame m args 1 = entryFrame m ([.ref a] : List Value).toArray 1 := by rw [hargs]
  rw [hen]
  have hl := lv_entry ([.ref a]) (n := 1) (Nat.le_of_ble_eq_true rfl)
  rw [lg_entry_eq]
  generalize (lg_sl ([.ref a]) ++ List.replicate (1 - (lg_sl ([.ref a])).length) Slot.unset).toArray = ls at hl ⊢
  have hl : lv_has ls 1 [(0, .ref a)] := hl
  generalize hQ : MQ below (va_Qv (fun _ : Unit => True) (fun _ t => va_P D vwCl ([(a, .inr (0, [.int 0, .ref e0, .int 0]))]) t.heap) (fun x => x = a)) args s 0 0 (fun x => x = a) = Q
  have go : ∀ (H : Heap) (locs : List Loc), va_P D vwCl ([(a, .inr (0, [.int 0, .null, .int 0]))]) H → va_S (fun x => x = a) s.heap H locs → W p l e (headSpec wsJx4a65c_init_da8c8 (rmr 4 100)).room s m args below meth c H locs 0 0 Q (F0 m 0 ls []) := by
    intro H locs hP hS
    refine lv_aload_n hx hb dJx4a65c_init_da8c8_0 rfl (lv_at hl 0 rfl) ?_
    refine va_callv (va_runI (As := []) (rest := []) ⟨hx, hb, hml, hown, hts⟩ (k_i2 l D cI cZ cO a ) (cwI 0 hts gJx4a65c_init_da8c8_Jxc12de_init_da8c8 rfl rfl rfl (hts _ (List.mem_of_getElem? (i := 5) rfl)) (hts _ (List.mem_of_getElem? (i := 3) rfl)) (hts _ (List.mem_of_getElem? (i := 4) rfl)) rfl (by decide +kernel) ⟨Nat.le_of_ble_eq_true rfl, Nat.le_of_ble_eq_true rfl⟩) ⟨rd_blind, rd_pre hP hK hN⟩ rfl rfl hl.1 rfl (lv_room (Nat.le_of_ble_eq_true rfl)) dJx4a65c_init_da8c8_1 ⟨Nat.le_of_ble_eq_true rfl, Nat.le_of_ble_eq_true rfl⟩) hS (fun q _ h => h) (fun q h => h) (fun u t H locs ht hvm hw hB hz1 hk1 hS => ?_)
    have hP := hB
    rw [ht] at hP
    have hP : va_P D vwCl ([(a, .inr (0, [.int 0, .null, .int 0]))]) H := hP
    refine lv_aload_n hx hb dJx4a65c_init_da8c8_4 rfl (lv_at hl 0 rfl) ?_
    refine va_gets hx hb hE hS hown (hts _ (List.mem_of_getElem? (i := 1) rfl)) (fun _ h9 => h9) dJx4a65c_init_da8c8_5 ?_
    refine va_put (D := D) (ci := 0) (v := .ref e0) (ty := .array (.object "java/lang/Object")) (C := RJx4a65c) (T := TJx4a65c) (N := 3) hx hb hts (fun _ h => List.mem_cons_of_mem _ (List.mem_append_right _ (h))) tyJx4a65c tyJx4a65c_ok nmJx4a65c hown hK hP ob_D hS 0 rfl rfl 1 (by decide) (hts _ (List.mem_of_getElem? (i := 2) rfl)) (fun _ h9 => h9) rfl (by decide +kernel) rfl rfl (Nat.le_of_ble_eq_true rfl) dJx4a65c_init_da8c8_8 (fun H locs hP _ hS => ?_)
    have hP : va_P D vwCl ([(a, .inr (0, [.int 0, .ref e0, .int 0]))]) H := hP
    subst hQ
    exact W.vret hx hb hr (fun t ht hW => ⟨⟨(), rfl, trivial, by have e := hP; rw [← ht] at e; exact e⟩, hS.F ht⟩) hS.2.2 dJx4a65c_init_da8c8_11
  exact go _ _ hP va_S.rf

set_option maxHeartbeats 800000 in
set_option maxRecDepth 100000 in
theorem k_X0i (l : Launch) (D : va_G) (cI cZ cO : ClassId) (a : Nat) (x0 : Int32) (b : Bool) (x1 x2 : Int32) : Met l yX0_init wsX0_init (rmr 2 40) (va_Pc [.ref a, .int x0, .int (b2i b), .int x1, .int x2] (rdP D ([(cI, .int), (cI, .int), (cO, .object "java/lang/Object")]) ([(a, .inr (1, [.int 0, .int 0, .int 0, .int 0]))]))) (va_Qv (fun _ : Unit => True) (fun _ t => va_P D vwCl ([(a, .inr (1, [.int x0, .int (b2i b), .int x1, .int x2]))]) t.heap) (fun x => x = a)) 0 0 (fun x => x = a) := by
  refine Met.ofW (cc := cX0_init) (maxL := 5) (ret := none) (by decide) rfl ?_
  intro p e s m args below meth c s₁ B hml hv
  obtain ⟨hargs, hP, hK, hN⟩ := hv
  have hin : meth.name = "<init>" := (name_of_methodNamed B.named B.method).1
  have hx := B.exec
  have hb := B.bytes
  have hr := B.returns
  have hts := atoms_spec (ws := wsX0_init) B.pre
  have hown : s.vm.findClass RX0 = some m.cls := findClass_of_methodNamed B.named
  have hlocks := B.notSynchronized
  have hen : entryFrame m args 5 = entryFrame m ([.ref a, .int x0, .int (b2i b), .int x1, .int x2] : List Value).toArray 5 := by rw [hargs]
  rw [hen]
  have hl := lv_entry ([.ref a, .int x0, .int (b2i b), .int x1, .int x2]) (n := 5) (Nat.le_of_ble_eq_true rfl)
  rw [lg_entry_eq]
  generalize (lg_sl ([.ref a, .int x0, .int (b2i b), .int x1, .int x2]) ++ List.replicate (5 - (lg_sl ([.ref a, .int x0, .int (b2i b), .int x1, .int x2])).length) Slot.unset).toArray = ls at hl ⊢
  have hl : lv_has ls 5 [(0, .ref a), (1, .int x0), (2, .int (b2i b)), (3, .int x1), (4, .int x2)] := hl
  generalize hQ : MQ below (va_Qv (fun _ : Unit => True) (fun _ t => va_P D vwCl ([(a, .inr (1, [.int x0, .int (b2i b), .int x1, .int x2]))]) t.heap) (fun x => x = a)) args s 0 0 (fun x => x = a) = Q
  have go : ∀ (H : Heap) (locs : List Loc), va_P D vwCl ([(a, .inr (1, [.int 0, .int 0, .int 0, .int 0]))]) H → va_S (fun x => x = a) s.heap H locs → W p l e (headSpec wsX0_init (rmr 2 40)).room s m args below meth c H locs 0 0 Q (F0 m 0 ls []) := by
    intro H locs hP hS
    refine lv_aload_n hx hb dX0_init_0 rfl (lv_at hl 0 rfl) ?_
    refine W.objInit hx hb hown (hts _ (List.mem_of_getElem? (i := 1) rfl)) (hts _ (List.mem_of_getElem? (i := 2) rfl)) (hts _ (List.mem_of_getElem? (i := 3) rfl)) rfl (by rw [hml]; exact hl.1) rfl dX0_init_1 (Nat.le_of_ble_eq_true rfl) (Nat.le_of_ble_eq_true rfl) ?_
    refine W.eq (g2 := F0 m 4 ls []) rfl ?_
    refine lv_aload_n hx hb dX0_init_4 rfl (lv_at hl 0 rfl) ?_
    refine lv_iload_n hx hb dX0_init_5 rfl (lv_at hl 1 rfl) ?_
    refine va_putF (D := D) (ci := 1) (v := .int x0) (ty := .int) (C := RX0) (T := TX0) (N := 4) hx hb hts (fun _ h => List.mem_cons_of_mem _ (List.mem_append_right _ (h))) tyX0 tyX0_ok nmX0 hown hK hP ob_D hS 0 rfl rfl 0 (by decide) (hts _ (List.mem_of_getElem? (i := 4) rfl)) (fun _ h9 => h9) rfl hin rfl (by decide +kernel) rfl rfl (Nat.le_of_ble_eq_true rfl) dX0_init_6 (fun H locs hP _ hS => ?_)
    have hP : va_P D vwCl ([(a, .inr (1, [.int x0, .int 0, .int 0, .int 0]))]) H := hP
    refine lv_aload_n hx hb dX0_init_9 rfl (lv_at hl 0 rfl) ?_
    refine lv_iload_n hx hb dX0_init_10 rfl (lv_at hl 2 rfl) ?_
    refine va_putF (D := D) (ci := 1) (v := .int (b2i b)) (ty := .boolean) (C := RX0) (T := TX0) (N := 4) hx hb hts (fun _ h => List.mem_cons_of_mem _ (List.mem_append_right _ (h))) tyX0 tyX0_ok nmX0 hown hK hP ob_D hS 0 rfl rfl 1 (by decide) (hts _ (List.mem_of_getElem? (i := 5) rfl)) (fun _ h9 => h9) rfl hin rfl (by decide +kernel) (by exact nar_b2i _) (fit_b2i _) (Nat.le_of_ble_eq_true rfl) dX0_init_11 (fun H locs hP _ hS => ?_)
    have hP : va_P D vwCl ([(a, .inr (1, [.int x0, .int (b2i b), .int 0, .int 0]))]) H := hP
    refine lv_aload_n hx hb dX0_init_14 rfl (lv_at hl 0 rfl) ?_
    refine lv_iload_n hx hb dX0_init_15 rfl (lv_at hl 3 rfl) ?_
    refine va_putF (D := D) (ci := 1) (v := .int x1) (ty := .int) (C := RX0) (T := TX0) (N := 4) hx hb hts (fun _ h => List.mem_cons_of_mem _ (List.mem_append_right _ (h))) tyX0 tyX0_ok nmX0 hown hK hP ob_D hS 0 rfl rfl 2 (by decide) (hts _ (List.mem_of_getElem? (i := 6) rfl)) (fun _ h9 => h9) rfl hin rfl (by decide +kernel) rfl rfl (Nat.le_of_ble_eq_true rfl) dX0_init_16 (fun H locs hP _ hS => ?_)
    have hP : va_P D vwCl ([(a, .inr (1, [.int x0, .int (b2i b), .int x1, .int 0]))]) H := hP
    refine lv_aload_n hx hb dX0_init_19 rfl (lv_at hl 0 rfl) ?_
    refine lv_iload hx hb dX0_init_20 (lv_at hl 4 rfl) ?_
    refine va_putF (D := D) (ci := 1) (v := .int x2) (ty := .int) (C := RX0) (T := TX0) (N := 4) hx hb hts (fun _ h => List.mem_cons_of_mem _ (List.mem_append_right _ (h))) tyX0 tyX0_ok nmX0 hown hK hP ob_D hS 0 rfl rfl 3 (by decide) (hts _ (List.mem_of_getElem? (i := 7) rfl)) (fun _ h9 => h9) rfl hin rfl (by decide +kernel) rfl rfl (Nat.le_of_ble_eq_true rfl) dX0_init_22 (fun H locs hP _ hS => ?_)
    have hP : va_P D vwCl ([(a, .inr (1, [.int x0, .int (b2i b), .int x1, .int x2]))]) H := hP
    subst hQ
    exact W.vret hx hb hr (fun t ht hW => ⟨⟨(), rfl, trivial, by have e := hP; rw [← ht] at e; exact e⟩, hS.F ht⟩) hS.2.2 dX0_init_25
  exact go _ _ hP va_S.rf
