set_option maxHeartbeats 800000 in
set_option maxRecDepth 100000 in
theorem k_Jx4a65c_fastRemove_b59b0 (l : Launch) (D : va_G) (cI cZ cO : ClassId) (ad : Nat → Nat) (m9 : Nat) (A : Nat → Prop) (q : Nat → Option Nat) (mcv : Int32) (sz : Int32) (hA : apD 2 A ad) (x : Nat)  (szn : Nat) (hsz : sz = nI szn) (hxs : x < szn) (hsn : szn ≤ m9) (hm2 : m9 < 2 ^ 31) (hnA : ∀ j, j < szn → ∀ y, q j = some y → ¬ A y)  : Met l yJx4a65c_fastRemove_b59b0 wsJx4a65c_fastRemove_b59b0 (rmr 2 60) (va_Pc [.ref (ad 0), .ref (ad 1), .int (nI x)] (rdY D ([(cI, .int), (cI, .int), (cO, .object "java/lang/Object")]) (alW cO ad m9 q mcv sz) (anyQ q szn))) (va_Qv (fun _ : Unit => True) (fun _ t => va_P D vwCl (alW cO ad m9 (rmQ q x (szn - 1)) (mcv + 1) (nI (szn - 1))) t.heap) A) 0 0 A := by
  refine Met.ofW (cc := cJx4a65c_fastRemove_b59b0) (maxL := 4) (ret := none) (by decide) rfl ?_
  intro p e s m args below meth c s₁ B hml hv
  obtain ⟨hargs, ⟨hP, hK, hN⟩, hY⟩ := hv
  have hx := B.exec
  have hb := B.bytes
  have hr := B.returns
  have hts := atoms_spec (ws := wsJx4a65c_fastRemove_b59b0) B.pre
  have hown : s.vm.findClass RJx4a65c = some m.cls := findClass_of_methodNamed B.named
  have hlocks := B.notSynchronized
  have hen : entryFrame m args 4 = entryFrame m ([.ref (ad 0), .ref (ad 1), .int (nI x)] : List Value).toArray 4 := by rw [hargs]
  rw [hen]
  have hl := lv_entry ([.ref (ad 0), .ref (ad 1), .int (nI x)]) (n := 4) (Nat.le_of_ble_eq_true rfl)
  rw [lg_entry_eq]
  generalize (lg_sl ([.ref (ad 0), .ref (ad 1), .int (nI x)]) ++ List.replicate (4 - (lg_sl ([.ref (ad 0), .ref (ad 1), .int (nI x)])).length) Slot.unset).toArray = ls at hl ⊢
  have hl : lv_has ls 4 [(0, .ref (ad 0)), (1, .ref (ad 1)), (2, .int (nI x))] := hl
  have hS : va_S A s.heap s.heap [] := va_S.rf
  generalize hQ : MQ below (va_Qv (fun _ : Unit => True) (fun _ t => va_P D vwCl (alW cO ad m9 (rmQ q x (szn - 1)) (mcv + 1) (nI (szn - 1))) t.heap) A) args s 0 0 A = Q
  have go : ∀ (H : Heap) (locs : List Loc), va_P D vwCl (alW cO ad m9 q mcv sz) H → va_S A s.heap H locs → W p l e (headSpec wsJx4a65c_fastRemove_b59b0 (rmr 2 60)).room s m args below meth c H locs 0 0 Q (F0 m 0 ls []) := by
    intro H locs hP hS
    refine lv_aload_n hx hb dJx4a65c_fastRemove_b59b0_0 rfl (lv_at hl 0 rfl) ?_
    refine lv_dup hx hb dJx4a65c_fastRemove_b59b0_1 rfl ?_
    refine va_get (D := D) (ci := 0) (v := .int mcv) (C := RJx4a65c) (T := TJx4a65c) (N := 3) hx hb hts (fun _ h => List.mem_cons_of_mem _ (List.mem_append_right _ (h))) hown hK hP 0 rfl rfl 0 (by decide) (hts _ (List.mem_of_getElem? (i := 1) rfl)) (fun x9 h9 => u_same (hts _ (List.mem_of_getElem? (i := 2) rfl)) x9 h9) rfl dJx4a65c_fastRemove_b59b0_2 ?_
    refine lv_iconst (v := 1) hx hb dJx4a65c_fastRemove_b59b0_5 (by decide) ?_
    refine lv_iadd hx hb dJx4a65c_fastRemove_b59b0_6 ?_
    refine va_put (D := D) (ci := 0) (v := .int (mcv + 1)) (ty := .int) (C := RJx4a65c) (T := TJx4a65c) (N := 3) hx hb hts (fun _ h => List.mem_cons_of_mem _ (List.mem_append_right _ (h))) tyJx4a65c tyJx4a65c_ok nmJx4a65c hown hK hP (al_D hA) hS 0 rfl rfl 0 (by decide) (hts _ (List.mem_of_getElem? (i := 1) rfl)) (fun x9 h9 => u_same (hts _ (List.mem_of_getElem? (i := 2) rfl)) x9 h9) rfl (by decide +kernel) rfl rfl (Nat.le_of_ble_eq_true rfl) dJx4a65c_fastRemove_b59b0_7 (fun H locs hP _ hS => ?_)
    have hP : va_P D vwCl (alW cO ad m9 q (mcv + 1) sz) H := hP
    refine lv_aload_n hx hb dJx4a65c_fastRemove_b59b0_10 rfl (lv_at hl 0 rfl) ?_
    refine va_get (D := D) (ci := 0) (v := .int sz) (C := RJx4a65c) (T := TJx4a65c) (N := 3) hx hb hts (fun _ h => List.mem_cons_of_mem _ (List.mem_append_right _ (h))) hown hK hP 0 rfl rfl 2 (by decide) (hts _ (List.mem_of_getElem? (i := 3) rfl)) (fun _ h9 => h9) rfl dJx4a65c_fastRemove_b59b0_11 ?_
    refine top_eq (y := nI szn) (by exact hsz) ?_
    refine lv_iconst (v := 1) hx hb dJx4a65c_fastRemove_b59b0_14 (by decide) ?_
    refine isub_n (x := szn) (y := 1) (by omega) hx hb dJx4a65c_fastRemove_b59b0_15 ?_
    refine lv_dup hx hb dJx4a65c_fastRemove_b59b0_16 rfl ?_
    refine lv_istore_n (lv' := [(3, .int (nI (szn - 1))), (0, .ref (ad 0)), (1, .ref (ad 1)), (2, .int (nI x))]) hx hb dJx4a65c_fastRemove_b59b0_17 rfl hl (by decide) rfl (fun ls hl => ?_)
    refine lv_iload_n hx hb dJx4a65c_fastRemove_b59b0_18 rfl (lv_at hl 3 rfl) ?_
    refine lv_icmp_le (tgt := 34) hx hb dJx4a65c_fastRemove_b59b0_19 (by decide) (fun c_19 => ?_) (fun c_19 => ?_)
    ·
      have cle : szn - 1 ≤ x := Nat.not_lt.mp (fun hh => nI_ge hh (by omega) c_19)
      refine lv_aload_n hx hb dJx4a65c_fastRemove_b59b0_34 rfl (lv_at hl 2 rfl) ?_
      refine lv_aload_n hx hb dJx4a65c_fastRemove_b59b0_35 rfl (lv_at hl 1 rfl) ?_
      refine lv_iload_n hx hb dJx4a65c_fastRemove_b59b0_36 rfl (lv_at hl 0 rfl) ?_
      refine lv_dup_x1 hx hb dJx4a65c_fastRemove_b59b0_37 rfl rfl ?_
      refine va_put (D := D) (ci := 0) (v := .int (nI (szn - 1))) (ty := .int) (C := RJx4a65c) (T := TJx4a65c) (N := 3) hx hb hts (fun _ h => List.mem_cons_of_mem _ (List.mem_append_right _ (h))) tyJx4a65c tyJx4a65c_ok nmJx4a65c hown hK hP (al_D hA) hS 0 rfl rfl 2 (by decide) (hts _ (List.mem_of_getElem? (i := 3) rfl)) (fun _ h9 => h9) rfl (by decide +kernel) rfl rfl (Nat.le_of_ble_eq_true rfl) dJx4a65c_fastRemove_b59b0_38 (fun H locs hP _ hS => ?_)
      have hP : va_P D vwCl (alW cO ad m9 q (mcv + 1) (nI (szn - 1))) H := hP
      refine lv_null hx hb dJx4a65c_fastRemove_b59b0_41 ?_
      refine st_qN (k := szn - 1) hx hb hK hP (al_D hA) hS 1 2 rfl rfl (by omega) (by omega) dJx4a65c_fastRemove_b59b0_42 (fun H locs hP _ hS => ?_)
      have hP : va_P D vwCl (alW cO ad m9 (va_up q (szn - 1) none) (mcv + 1) (nI (szn - 1))) H := hP
      subst hQ
      have hP : va_P D vwCl (alW cO ad m9 (va_up q (szn - 1) none) (mcv + 1) (nI (szn - 1))) H := hP
      have qq : va_up q (szn - 1) none = rmQ q x (szn - 1) := by first | exact rmQ_1 cle | exact rmQ_2 clt
      have hP : va_P D vwCl (alW cO ad m9 (rmQ q x (szn - 1)) (mcv + 1) (nI (szn - 1))) H := alW_P qq rfl rfl hP
      exact W.vret hx hb hr (fun t ht _ => ⟨⟨(), rfl, trivial, by have e := hP; rw [← ht] at e; exact e⟩, hS.F ht⟩) hS.2.2 dJx4a65c_fastRemove_b59b0_43
    ·
      have clt : x < szn - 1 := Nat.not_le.mp (fun hh => c_19 (nI_le hh (by omega)))
      refine lv_aload_n hx hb dJx4a65c_fastRemove_b59b0_22 rfl (lv_at hl 2 rfl) ?_
      refine lv_iload_n hx hb dJx4a65c_fastRemove_b59b0_23 rfl (lv_at hl 3 rfl) ?_
      refine lv_iconst (v := 1) hx hb dJx4a65c_fastRemove_b59b0_24 (by decide) ?_
      refine iadd_n (x := x) (y := 1) hx hb dJx4a65c_fastRemove_b59b0_25 ?_
      refine lv_aload_n hx hb dJx4a65c_fastRemove_b59b0_26 rfl (lv_at hl 2 rfl) ?_
      refine lv_iload_n hx hb dJx4a65c_fastRemove_b59b0_27 rfl (lv_at hl 3 rfl) ?_
      refine lv_iload_n hx hb dJx4a65c_fastRemove_b59b0_28 rfl (lv_at hl 0 rfl) ?_
      refine lv_iload_n hx hb dJx4a65c_fastRemove_b59b0_29 rfl (lv_at hl 3 rfl) ?_
      refine isub_n (x := szn - 1) (y := x) (by omega) hx hb dJx4a65c_fastRemove_b59b0_30 ?_
      refine cp_q (x := x + 1) (y := x) (k := (szn - 1) - x) hx hb (hml.trans hl.1.symm) hown (hts _ (List.mem_of_getElem? (i := 4) rfl)) (hts _ (List.mem_of_getElem? (i := 5) rfl)) (hts _ (List.mem_of_getElem? (i := 6) rfl)) (hts _ (List.mem_of_getElem? (i := 7) rfl)) hK hP (al_D hA) hS 1 1 2 2 rfl rfl rfl rfl (by omega) (by omega) (by omega) (by omega) (by omega) (fun i hi z hz => hY.at hnA hS (by omega) hz) (Nat.le_of_ble_eq_true rfl) (Nat.le_of_ble_eq_true rfl) dJx4a65c_fastRemove_b59b0_31 (fun H locs hP _ hS => ?_)
      have hP : va_P D vwCl (alW cO ad m9 (va_cpy q q (x + 1) x ((szn - 1) - x)) (mcv + 1) sz) H := hP
      refine lv_aload_n hx hb dJx4a65c_fastRemove_b59b0_34 rfl (lv_at hl 2 rfl) ?_
      refine lv_aload_n hx hb dJx4a65c_fastRemove_b59b0_35 rfl (lv_at hl 1 rfl) ?_
      refine lv_iload_n hx hb dJx4a65c_fastRemove_b59b0_36 rfl (lv_at hl 0 rfl) ?_
      refine lv_dup_x1 hx hb dJx4a65c_fastRemove_b59b0_37 rfl rfl ?_
      refine va_put (D := D) (ci := 0) (v := .int (nI (szn - 1))) (ty := .int) (C := RJx4a65c) (T := TJx4a65c) (N := 3) hx hb hts (fun _ h => List.mem_cons_of_mem _ (List.mem_append_right _ (h))) tyJx4a65c tyJx4a65c_ok nmJx4a65c hown hK hP (al_D hA) hS 0 rfl rfl 2 (by decide) (hts _ (List.mem_of_getElem? (i := 3) rfl)) (fun _ h9 => h9) rfl (by decide +kernel) rfl rfl (Nat.le_of_ble_eq_true rfl) dJx4a65c_fastRemove_b59b0_38 (fun H locs hP _ hS => ?_)
      have hP : va_P D vwCl (alW cO ad m9 (va_cpy q q (x + 1) x ((szn - 1) - x)) (mcv + 1) (nI (szn - 1))) H := hP
      refine lv_null hx hb dJx4a65c_fastRemove_b59b0_41 ?_
      refine st_qN (k := szn - 1) hx hb hK hP (al_D hA) hS 1 2 rfl rfl (by omega) (by omega) dJx4a65c_fastRemove_b59b0_42 (fun H locs hP _ hS => ?_)
      have hP : va_P D vwCl (alW cO ad m9 (va_up (va_cpy q q (x + 1) x ((szn - 1) - x)) (szn - 1) none) (mcv + 1) (nI (szn - 1))) H := hP
      subst hQ
      have hP : va_P D vwCl (alW cO ad m9 (va_up (va_cpy q q (x + 1) x ((szn - 1) - x)) (szn - 1) none) (mcv + 1) (nI (szn - 1))) H := hP
      have qq : va_up (va_cpy q q (x + 1) x ((szn - 1) - x)) (szn - 1) none = rmQ q x (szn - 1) := by first | exact rmQ_1 cle | exact rmQ_2 clt
      have hP : va_P D vwCl (alW cO ad m9 (rmQ q x (szn - 1)) (mcv + 1) (nI (szn - 1))) H := alW_P qq rfl rfl hP
      exact W.vret hx hb hr (fun t ht _ => ⟨⟨(), rfl, trivial, by have e := hP; rw [← ht] at e; exact e⟩, hS.F ht⟩) hS.2.2 dJx4a65c_fastRemove_b59b0_43
  exact go _ _ hP hS

set_option maxHeartbeats 800000 in
set_option maxRecDepth 100000 in
theorem k_Jx4a65c_remove_915e3 (l : Launch) (D : va_G) (cI cZ cO : ClassId) (ad : Nat → Nat) (m9 : Nat) (A : Nat → Prop) (q : Nat → Option Nat) (mcv : Int32) (sz : Int32) (hA : apD 2 A ad) (x : Nat)  (szn : Nat) (hsz : sz = nI szn) (hxs : x < szn) (hsn : szn ≤ m9) (hm2 : m9 < 2 ^ 31) (hnA : ∀ j, j < szn → ∀ y, q j = some y → ¬ A y) (v0 : Nat) (hq0 : q x = some v0)  : Met l yJx4a65c_remove_915e3 wsJx4a65c_remove_915e3 (rmr 3 83) (va_Pc [.ref (ad 0), .int (nI x)] (rdY D ([(cI, .int), (cI, .int), (cO, .object "java/lang/Object")]) (alW cO ad m9 q mcv sz) (anyQ q szn))) (va_Qq (fun (r : Option Nat) (_ : Unit) => r = some v0) (fun _ t => va_P D vwCl (alW cO ad m9 (rmQ q x (szn - 1)) (mcv + 1) (nI (szn - 1))) t.heap) A) 0 0 A := by
  refine Met.ofW (cc := cJx4a65c_remove_915e3) (maxL := 4) (ret := (some (.object "java/lang/Object"))) (by decide) rfl ?_
  intro p e s m args below meth c s₁ B hml hv
  obtain ⟨hargs, ⟨hP, hK, hN⟩, hY⟩ := hv
  have hx := B.exec
  have hb := B.bytes
  have hr := B.returns
  have hts := atoms_spec (ws := wsJx4a65c_remove_915e3) B.pre
  have hown : s.vm.findClass RJx4a65c = some m.cls := findClass_of_methodNamed B.named
  have hlocks := B.notSynchronized
  have hen : entryFrame m args 4 = entryFrame m ([.ref (ad 0), .int (nI x)] : List Value).toArray 4 := by rw [hargs]
  rw [hen]
  have hl := lv_entry ([.ref (ad 0), .int (nI x)]) (n := 4) (Nat.le_of_ble_eq_true rfl)
  rw [lg_entry_eq]
  generalize (lg_sl ([.ref (ad 0), .int (nI x)]) ++ List.replicate (4 - (lg_sl ([.ref (ad 0), .int (nI x)])).length) Slot.unset).toArray = ls at hl ⊢
  have hl : lv_has ls 4 [(0, .ref (ad 0)), (1, .int (nI x))] := hl
  have hS : va_S A s.heap s.heap [] := va_S.rf
  generalize hQ : MQ below (va_Qq (fun (r : Option Nat) (_ : Unit) => r = some v0) (fun _ t => va_P D vwCl (alW cO ad m9 (rmQ q x (szn - 1)) (mcv + 1) (nI (szn - 1))) t.heap) A) args s 0 0 A = Q
  have go : ∀ (H : Heap) (locs : List Loc), va_P D vwCl (alW cO ad m9 q mcv sz) H → va_S A s.heap H locs → W p l e (headSpec wsJx4a65c_remove_915e3 (rmr 3 83)).room s m args below meth c H locs 0 0 Q (F0 m 0 ls []) := by
    intro H locs hP hS
    refine lv_iload_n hx hb dJx4a65c_remove_915e3_0 rfl (lv_at hl 1 rfl) ?_
    refine lv_aload_n hx hb dJx4a65c_remove_915e3_1 rfl (lv_at hl 0 rfl) ?_
    refine va_get (D := D) (ci := 0) (v := .int sz) (C := RJx4a65c) (T := TJx4a65c) (N := 3) hx hb hts (fun _ h => List.mem_cons_of_mem _ (List.mem_append_right _ (h))) hown hK hP 0 rfl rfl 2 (by decide) (hts _ (List.mem_of_getElem? (i := 1) rfl)) (fun _ h9 => h9) rfl dJx4a65c_remove_915e3_2 ?_
    refine top_eq (y := nI szn) (by exact hsz) ?_
    refine vp_callSi (W.runS (As := [.int (nI x), .int (nI szn)]) (rest := []) ⟨hx, hb, hml, hown, hts⟩ (k_J15_checkIndex_7cf53 l x szn (by omega) (by omega)) (va_cwS 2 hts gJx4a65c_remove_915e3_J15_checkIndex_7cf53 rfl rfl rfl (by decide +kernel) ⟨Nat.le_of_ble_eq_true rfl, Nat.le_of_ble_eq_true rfl⟩) ⟨nf_blind, fun U hU hW => ⟨rfl, trivial⟩⟩ rfl rfl hl.1 rfl (lv_room (Nat.le_of_ble_eq_true rfl)) dJx4a65c_remove_915e3_5 ⟨Nat.le_of_ble_eq_true rfl, Nat.le_of_ble_eq_true rfl⟩) (fun r er => ?_)
    subst er
    refine lv_pop hx hb dJx4a65c_remove_915e3_8 rfl ?_
    refine lv_aload_n hx hb dJx4a65c_remove_915e3_9 rfl (lv_at hl 0 rfl) ?_
    refine va_get (D := D) (ci := 0) (v := .ref (ad 1)) (C := RJx4a65c) (T := TJx4a65c) (N := 3) hx hb hts (fun _ h => List.mem_cons_of_mem _ (List.mem_append_right _ (h))) hown hK hP 0 rfl rfl 1 (by decide) (hts _ (List.mem_of_getElem? (i := 2) rfl)) (fun _ h9 => h9) rfl dJx4a65c_remove_915e3_10 ?_
    refine lv_astore_n (lv' := [(2, .ref (ad 1)), (0, .ref (ad 0)), (1, .int (nI x))]) hx hb dJx4a65c_remove_915e3_13 rfl hl (by decide) rfl (fun ls hl => ?_)
    refine lv_aload_n hx hb dJx4a65c_remove_915e3_14 rfl (lv_at hl 0 rfl) ?_
    refine lv_iload_n hx hb dJx4a65c_remove_915e3_15 rfl (lv_at hl 2 rfl) ?_
    refine ld_q (k := x) hx hb hK hP 1 2 rfl rfl (by omega) (by omega) dJx4a65c_remove_915e3_16 ?_
    refine top_rf (q := v0) (by exact hq0) ?_
    refine lv_astore_n (lv' := [(3, .ref v0), (2, .ref (ad 1)), (0, .ref (ad 0)), (1, .int (nI x))]) hx hb dJx4a65c_remove_915e3_17 rfl hl (by decide) rfl (fun ls hl => ?_)
    refine lv_aload_n hx hb dJx4a65c_remove_915e3_18 rfl (lv_at hl 2 rfl) ?_
    refine lv_aload_n hx hb dJx4a65c_remove_915e3_19 rfl (lv_at hl 1 rfl) ?_
    refine lv_iload_n hx hb dJx4a65c_remove_915e3_20 rfl (lv_at hl 3 rfl) ?_
    refine va_callv (va_runV (As := [.ref (ad 1), .int (nI x)]) (rest := []) ⟨hx, hb, hml, hown, hts⟩ (k_Jx4a65c_fastRemove_b59b0 l D cI cZ cO ad m9 A q mcv sz hA x szn hsz hxs hsn hm2 hnA) (cwV 2 hts gJx4a65c_remove_915e3_Jx4a65c_fastRemove_b59b0 rfl rfl rfl (by decide +kernel) ⟨Nat.le_of_ble_eq_true rfl, Nat.le_of_ble_eq_true rfl⟩) ⟨rdY_blind, va_recv hK hP (ci := 0) (q0 := 0) rfl rfl, rdY_pre hP hK hN (fun j hj y hy => hY.at hnA hS hj hy)⟩ rfl rfl hl.1 rfl (lv_room (Nat.le_of_ble_eq_true rfl)) dJx4a65c_remove_915e3_21 ⟨Nat.le_of_ble_eq_true rfl, Nat.le_of_ble_eq_true rfl⟩) hS (fun q _ h => h) (fun q h => h) (fun u t H locs ht hvm hw hB hz1 hk1 hS => ?_)
    have hP := hB
    rw [ht] at hP
    have hP : va_P D vwCl (alW cO ad m9 (rmQ q x (szn - 1)) (mcv + 1) (nI (szn - 1))) H := hP
    refine lv_aload_n hx hb dJx4a65c_remove_915e3_24 rfl (lv_at hl 0 rfl) ?_
    subst hQ
    have hP : va_P D vwCl (alW cO ad m9 (rmQ q x (szn - 1)) (mcv + 1) (nI (szn - 1))) H := hP
    exact W.aret (v := va_rf (some v0)) hx hb hr (Or.inl ⟨_, rfl⟩) (va_rf_or _) (fun t ht hW => ⟨⟨some v0, (), rfl, (by rfl), by have e := hP; rw [← ht] at e; exact e⟩, hS.F ht⟩) hS.2.2 dJx4a65c_remove_915e3_25
  exact go _ _ hP hS
