set_option maxHeartbeats 800000 in
set_option maxRecDepth 100000 in
theorem k_addA (l : Launch) (D : va_G) (cI cZ cO : ClassId) (ad : Nat → Nat) (m9 : Nat) (A : Nat → Prop) (q : Nat → Option Nat) (mcv : Int32) (sz : Int32) (hA : apD 2 A ad) (v : Nat) (s0 : Int32)  (szn : Nat) (hsz : sz = nI szn) (hsn : szn < m9) (hm2 : m9 < 2 ^ 31) (hnA : ∀ j, j < 1 → ∀ y, (fun _ : Nat => some v) j = some y → ¬ A y) (hs0 : s0 = nI szn)  : Met l yJx4a65c_add_72be8 wsJx4a65c_add_72be8 (rmr 0 0) (va_Pc [.ref (ad 0), .ref v, .ref (ad 1), .int s0] (rdY D ([(cI, .int), (cI, .int), (cO, .object "java/lang/Object")]) (alW cO ad m9 q mcv sz) (anyQ (fun _ => some v) 1))) (va_Qv (fun _ : Unit => True) (fun _ t => va_P D vwCl (alW cO ad m9 (va_up q szn (some v)) mcv (nI (szn + 1))) t.heap) A) 0 0 A := by
  refine Met.ofW (cc := cJx4a65c_add_72be8) (maxL := 4) (ret := none) (by decide) rfl ?_
  intro p e s m args below meth c s₁ B hml hv
  obtain ⟨hargs, ⟨hP, hK, hN⟩, hY⟩ := hv
  have hx := B.exec
  have hb := B.bytes
  have hr := B.returns
  have hts := atoms_spec (ws := wsJx4a65c_add_72be8) B.pre
  have hown : s.vm.findClass RJx4a65c = some m.cls := findClass_of_methodNamed B.named
  have hlocks := B.notSynchronized
  have hen : entryFrame m args 4 = entryFrame m ([.ref (ad 0), .ref v, .ref (ad 1), .int s0] : List Value).toArray 4 := by rw [hargs]
  rw [hen]
  have hl := lv_entry ([.ref (ad 0), .ref v, .ref (ad 1), .int s0]) (n := 4) (Nat.le_of_ble_eq_true rfl)
  rw [lg_entry_eq]
  generalize (lg_sl ([.ref (ad 0), .ref v, .ref (ad 1), .int s0]) ++ List.replicate (4 - (lg_sl ([.ref (ad 0), .ref v, .ref (ad 1), .int s0])).length) Slot.unset).toArray = ls at hl ⊢
  have hl : lv_has ls 4 [(0, .ref (ad 0)), (1, .ref v), (2, .ref (ad 1)), (3, .int s0)] := hl
  have hS : va_S A s.heap s.heap [] := va_S.rf
  generalize hQ : MQ below (va_Qv (fun _ : Unit => True) (fun _ t => va_P D vwCl (alW cO ad m9 (va_up q szn (some v)) mcv (nI (szn + 1))) t.heap) A) args s 0 0 A = Q
  have go : ∀ (H : Heap) (locs : List Loc), va_P D vwCl (alW cO ad m9 q mcv sz) H → va_S A s.heap H locs → W p l e (headSpec wsJx4a65c_add_72be8 (rmr 0 0)).room s m args below meth c H locs 0 0 Q (F0 m 0 ls []) := by
    intro H locs hP hS
    refine lv_iload_n hx hb dJx4a65c_add_72be8_0 rfl (lv_at hl 3 rfl) ?_
    refine top_eq (y := nI szn) (by exact hs0) ?_
    refine lv_aload_n hx hb dJx4a65c_add_72be8_1 rfl (lv_at hl 2 rfl) ?_
    refine va_alen (v := nI m9) hx hb hK hP 1 2 rfl rfl rfl dJx4a65c_add_72be8_2 ?_
    refine lv_icmp_ne (tgt := 11) hx hb dJx4a65c_add_72be8_3 (by decide) (fun c_3 => ?_) (fun c_3 => ?_)
    ·
      refine lv_aload_n hx hb dJx4a65c_add_72be8_11 rfl (lv_at hl 2 rfl) ?_
      refine lv_iload_n hx hb dJx4a65c_add_72be8_12 rfl (lv_at hl 3 rfl) ?_
      refine top_eq (y := nI szn) (by exact hs0) ?_
      refine lv_aload_n hx hb dJx4a65c_add_72be8_13 rfl (lv_at hl 1 rfl) ?_
      refine st_qM (k := szn) hx hb hK hP (al_D hA) hS 1 2 rfl rfl (hY.at hnA hS (j := 0) (by omega) rfl) (by omega) (by omega) dJx4a65c_add_72be8_14 (fun H locs hP _ hS => ?_)
      have hP : va_P D vwCl (alW cO ad m9 (va_up q szn (some v)) mcv sz) H := hP
      refine lv_aload_n hx hb dJx4a65c_add_72be8_15 rfl (lv_at hl 0 rfl) ?_
      refine lv_iload_n hx hb dJx4a65c_add_72be8_16 rfl (lv_at hl 3 rfl) ?_
      refine top_eq (y := nI szn) (by exact hs0) ?_
      refine lv_iconst (v := 1) hx hb dJx4a65c_add_72be8_17 (by decide) ?_
      refine iadd_n (x := szn) (y := 1) hx hb dJx4a65c_add_72be8_18 ?_
      refine va_put (D := D) (ci := 0) (v := .int (nI (szn + 1))) (ty := .int) (C := RJx4a65c) (T := TJx4a65c) (N := 3) hx hb hts (fun _ h => List.mem_cons_of_mem _ (List.mem_append_right _ (h))) tyJx4a65c tyJx4a65c_ok nmJx4a65c hown hK hP (al_D hA) hS 0 rfl rfl 2 (by decide) (hts _ (List.mem_of_getElem? (i := 1) rfl)) (fun _ h9 => h9) rfl (by decide +kernel) rfl rfl (Nat.le_of_ble_eq_true rfl) dJx4a65c_add_72be8_19 (fun H locs hP _ hS => ?_)
      have hP : va_P D vwCl (alW cO ad m9 (va_up q szn (some v)) mcv (nI (szn + 1))) H := hP
      subst hQ
      have hP : va_P D vwCl (alW cO ad m9 (va_up q szn (some v)) mcv (nI (szn + 1))) H := hP
      exact W.vret hx hb hr (fun t ht _ => ⟨⟨(), rfl, trivial, by have e := hP; rw [← ht] at e; exact e⟩, hS.F ht⟩) hS.2.2 dJx4a65c_add_72be8_22
    ·
      exact absurd ((nI_eq (by omega) hm2).mp c_3) (by omega)
  exact go _ _ hP hS

set_option maxHeartbeats 800000 in
set_option maxRecDepth 100000 in
theorem k_addA2 (l : Launch) (D : va_G) (cI cZ cO : ClassId) (ad : Nat → Nat) (m9 : Nat) (A : Nat → Prop) (q : Nat → Option Nat) (mcv : Int32) (sz : Int32) (hA : apD 2 A ad) (v : Nat)  (szn : Nat) (hsz : sz = nI szn) (hsn : szn < m9) (hm2 : m9 < 2 ^ 31) (hnA : ∀ j, j < 1 → ∀ y, (fun _ : Nat => some v) j = some y → ¬ A y)  : Met l yJx4a65c_add_9ea2d wsJx4a65c_add_9ea2d (rmr 1 23) (va_Pc [.ref (ad 0), .ref v] (rdY D ([(cI, .int), (cI, .int), (cO, .object "java/lang/Object")]) (alW cO ad m9 q mcv sz) (anyQ (fun _ => some v) 1))) (va_Qi (fun (r : Int32) (_ : Unit) => r = b2i true) (fun _ t => va_P D vwCl (alW cO ad m9 (va_up q szn (some v)) (mcv + 1) (nI (szn + 1))) t.heap) A) 0 0 A := by
  refine Met.ofW (cc := cJx4a65c_add_9ea2d) (maxL := 2) (ret := (some .boolean)) (by decide) rfl ?_
  intro p e s m args below meth c s₁ B hml hv
  obtain ⟨hargs, ⟨hP, hK, hN⟩, hY⟩ := hv
  have hx := B.exec
  have hb := B.bytes
  have hr := B.returns
  have hts := atoms_spec (ws := wsJx4a65c_add_9ea2d) B.pre
  have hown : s.vm.findClass RJx4a65c = some m.cls := findClass_of_methodNamed B.named
  have hlocks := B.notSynchronized
  have hen : entryFrame m args 2 = entryFrame m ([.ref (ad 0), .ref v] : List Value).toArray 2 := by rw [hargs]
  rw [hen]
  have hl := lv_entry ([.ref (ad 0), .ref v]) (n := 2) (Nat.le_of_ble_eq_true rfl)
  rw [lg_entry_eq]
  generalize (lg_sl ([.ref (ad 0), .ref v]) ++ List.replicate (2 - (lg_sl ([.ref (ad 0), .ref v])).length) Slot.unset).toArray = ls at hl ⊢
  have hl : lv_has ls 2 [(0, .ref (ad 0)), (1, .ref v)] := hl
  have hS : va_S A s.heap s.heap [] := va_S.rf
  generalize hQ : MQ below (va_Qi (fun (r : Int32) (_ : Unit) => r = b2i true) (fun _ t => va_P D vwCl (alW cO ad m9 (va_up q szn (some v)) (mcv + 1) (nI (szn + 1))) t.heap) A) args s 0 0 A = Q
  have go : ∀ (H : Heap) (locs : List Loc), va_P D vwCl (alW cO ad m9 q mcv sz) H → va_S A s.heap H locs → W p l e (headSpec wsJx4a65c_add_9ea2d (rmr 1 23)).room s m args below meth c H locs 0 0 Q (F0 m 0 ls []) := by
    intro H locs hP hS
    refine lv_aload_n hx hb dJx4a65c_add_9ea2d_0 rfl (lv_at hl 0 rfl) ?_
    refine lv_dup hx hb dJx4a65c_add_9ea2d_1 rfl ?_
    refine va_get (D := D) (ci := 0) (v := .int mcv) (C := RJx4a65c) (T := TJx4a65c) (N := 3) hx hb hts (fun _ h => List.mem_cons_of_mem _ (List.mem_append_right _ (h))) hown hK hP 0 rfl rfl 0 (by decide) (hts _ (List.mem_of_getElem? (i := 1) rfl)) (fun x9 h9 => u_same (hts _ (List.mem_of_getElem? (i := 2) rfl)) x9 h9) rfl dJx4a65c_add_9ea2d_2 ?_
    refine lv_iconst (v := 1) hx hb dJx4a65c_add_9ea2d_5 (by decide) ?_
    refine lv_iadd hx hb dJx4a65c_add_9ea2d_6 ?_
    refine va_put (D := D) (ci := 0) (v := .int (mcv + 1)) (ty := .int) (C := RJx4a65c) (T := TJx4a65c) (N := 3) hx hb hts (fun _ h => List.mem_cons_of_mem _ (List.mem_append_right _ (h))) tyJx4a65c tyJx4a65c_ok nmJx4a65c hown hK hP (al_D hA) hS 0 rfl rfl 0 (by decide) (hts _ (List.mem_of_getElem? (i := 1) rfl)) (fun x9 h9 => u_same (hts _ (List.mem_of_getElem? (i := 2) rfl)) x9 h9) rfl (by decide +kernel) rfl rfl (Nat.le_of_ble_eq_true rfl) dJx4a65c_add_9ea2d_7 (fun H locs hP _ hS => ?_)
    have hP : va_P D vwCl (alW cO ad m9 q (mcv + 1) sz) H := hP
    refine lv_aload_n hx hb dJx4a65c_add_9ea2d_10 rfl (lv_at hl 0 rfl) ?_
    refine lv_aload_n hx hb dJx4a65c_add_9ea2d_11 rfl (lv_at hl 1 rfl) ?_
    refine lv_aload_n hx hb dJx4a65c_add_9ea2d_12 rfl (lv_at hl 0 rfl) ?_
    refine va_get (D := D) (ci := 0) (v := .ref (ad 1)) (C := RJx4a65c) (T := TJx4a65c) (N := 3) hx hb hts (fun _ h => List.mem_cons_of_mem _ (List.mem_append_right _ (h))) hown hK hP 0 rfl rfl 1 (by decide) (hts _ (List.mem_of_getElem? (i := 3) rfl)) (fun _ h9 => h9) rfl dJx4a65c_add_9ea2d_13 ?_
    refine lv_aload_n hx hb dJx4a65c_add_9ea2d_16 rfl (lv_at hl 0 rfl) ?_
    refine va_get (D := D) (ci := 0) (v := .int sz) (C := RJx4a65c) (T := TJx4a65c) (N := 3) hx hb hts (fun _ h => List.mem_cons_of_mem _ (List.mem_append_right _ (h))) hown hK hP 0 rfl rfl 2 (by decide) (hts _ (List.mem_of_getElem? (i := 4) rfl)) (fun _ h9 => h9) rfl dJx4a65c_add_9ea2d_17 ?_
    refine va_callv (va_runV (As := [.ref v, .ref (ad 1), .int sz]) (rest := []) ⟨hx, hb, hml, hown, hts⟩ (k_addA l D cI cZ cO ad m9 A q (mcv + 1) sz hA v sz szn hsz hsn hm2 hnA hsz) (cwV 3 hts gJx4a65c_add_9ea2d_Jx4a65c_add_72be8 rfl rfl rfl (by decide +kernel) ⟨Nat.le_of_ble_eq_true rfl, Nat.le_of_ble_eq_true rfl⟩) ⟨rdY_blind, va_recv hK hP (ci := 0) (q0 := 0) rfl rfl, rdY_pre hP hK hN (fun j hj y hy => hY.at hnA hS hj hy)⟩ rfl rfl hl.1 rfl (lv_room (Nat.le_of_ble_eq_true rfl)) dJx4a65c_add_9ea2d_20 ⟨Nat.le_of_ble_eq_true rfl, Nat.le_of_ble_eq_true rfl⟩) hS (fun q _ h => h) (fun q h => h) (fun u t H locs ht hvm hw hB hz1 hk1 hS => ?_)
    have hP := hB
    rw [ht] at hP
    have hP : va_P D vwCl (alW cO ad m9 (va_up q szn (some v)) (mcv + 1) (nI (szn + 1))) H := hP
    refine lv_iconst (v := 1) hx hb dJx4a65c_add_9ea2d_23 (by decide) ?_
    subst hQ
    have hP : va_P D vwCl (alW cO ad m9 (va_up q szn (some v)) (mcv + 1) (nI (szn + 1))) H := hP
    have hrt : (1 : Int32) = b2i true := by rfl
    exact W.zret (v := 1) hx hb hr (by rw [hrt]; exact nar_b2i _) (fun t ht _ => ⟨⟨_, (), rfl, hrt, by have e := hP; rw [← ht] at e; exact e⟩, hS.F ht⟩) hS.2.2 dJx4a65c_add_9ea2d_24
  exact go _ _ hP hS
