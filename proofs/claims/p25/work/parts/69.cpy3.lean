set_option maxHeartbeats 800000 in
set_option maxRecDepth 100000 in
theorem k_cpy2 (l : Launch) (D : va_G) (cI cZ cO : ClassId) (d m9 m8 mi z0 : Nat) (q : Nat → Option Nat) (hm : m9 ≤ m8 ∧ m8 ≤ 22) (hnA : ∀ j, j < m9 → ∀ y, q j = some y → ¬ alZ d z0 y) : Met l yJ7_copyOf_1904c wsJ7_copyOf_1904c (rma 3 90) (va_Pc [.ref d, .int (nI m8)] (rdY D ([(cI, .int), (cI, .int), (cO, .object "java/lang/Object")]) ([(d, refs cO m9 q)]) (cyY q m9 mi z0))) (va_Qq (fun (r : Option Nat) (b : Nat) => r = some b) (fun b t => va_P D vwCl [(d, refs cO m9 q), (b, refs cO m8 (va_cpy q (fun _ => none) 0 0 m9))] t.heap ∧ z0 ≤ b ∧ b ≠ d) (alZ d z0)) 1 22 (alZ d z0) := by
  refine Met.ofW (cc := cJ7_copyOf_1904c) (maxL := 2) (ret := (some (.array (.object "java/lang/Object")))) (by decide) rfl ?_
  intro p e s m args below meth c s₁ B hml hv
  obtain ⟨hargs, ⟨hP, hK, hN⟩, ⟨hMi, hDc, hAO, hz0⟩, hY⟩ := hv
  have hx := B.exec
  have hb := B.bytes
  have hr := B.returns
  have hts := atoms_spec (ws := wsJ7_copyOf_1904c) B.pre
  have hown : s.vm.findClass RJ7 = some m.cls := findClass_of_methodNamed B.named
  have hlocks := B.notSynchronized
  have hen : entryFrame m args 2 = entryFrame m ([.ref d, .int (nI m8)] : List Value).toArray 2 := by rw [hargs]
  rw [hen]
  have hl := lv_entry ([.ref d, .int (nI m8)]) (n := 2) (Nat.le_of_ble_eq_true rfl)
  rw [lg_entry_eq]
  generalize (lg_sl ([.ref d, .int (nI m8)]) ++ List.replicate (2 - (lg_sl ([.ref d, .int (nI m8)])).length) Slot.unset).toArray = ls at hl ⊢
  have hl : lv_has ls 2 [(0, .ref d), (1, .int (nI m8))] := hl
  generalize hQ : MQ below (va_Qq (fun (r : Option Nat) (b : Nat) => r = some b) (fun b t => va_P D vwCl [(d, refs cO m9 q), (b, refs cO m8 (va_cpy q (fun _ => none) 0 0 m9))] t.heap ∧ z0 ≤ b ∧ b ≠ d) (alZ d z0)) args s 1 22 (alZ d z0) = Q
  have go : ∀ (H : Heap) (locs : List Loc), va_P D vwCl ([(d, refs cO m9 q)]) H → va_S (alZ d z0) s.heap H locs → W p l e (headSpec wsJ7_copyOf_1904c (rma 3 90)).room s m args below meth c H locs 0 0 Q (F0 m 0 ls []) := by
    intro H locs hP hS
    refine lv_aload_n hx hb dJ7_copyOf_1904c_0 rfl (lv_at hl 0 rfl) ?_
    refine lv_iload_n hx hb dJ7_copyOf_1904c_1 rfl (lv_at hl 1 rfl) ?_
    refine lv_aload_n hx hb dJ7_copyOf_1904c_2 rfl (lv_at hl 0 rfl) ?_
    refine va_getC (C := "[Ljava/lang/Object;") hx hb (hml.trans hl.1.symm) hown (hts _ (List.mem_of_getElem? (i := 1) rfl)) (va_Dc.use hDc) (hts _ (List.mem_of_getElem? (i := 2) rfl)) (hts _ (List.mem_of_getElem? (i := 3) rfl)) (hts _ (List.mem_of_getElem? (i := 4) rfl)) hMi ⟨_, hP 0 _ rfl, rfl, va_nmO (hK.2 2 _ rfl).2 rfl⟩ (Nat.le_of_ble_eq_true rfl) (Nat.le_of_ble_eq_true rfl) dJ7_copyOf_1904c_3 ?_
    refine va_callq (va_runS (As := [.ref d, .int (nI m8), .ref mi]) (rest := []) ⟨hx, hb, hml, hown, hts⟩ (k_cpy1 l D cI cZ cO d m9 m8 mi z0 q hm hnA) (va_cwS 3 hts gJ7_copyOf_1904c_J7_copyOf_6403c rfl rfl rfl (by decide +kernel) ⟨Nat.le_of_ble_eq_true rfl, Nat.le_of_ble_eq_true rfl⟩) ⟨rdK_blind, rdK_pre hP hK hN ⟨⟨hMi, hDc, hAO, hz0⟩, hY⟩ hnA hS⟩ rfl rfl hl.1 rfl (lv_room (Nat.le_of_ble_eq_true rfl)) dJ7_copyOf_1904c_6 ⟨Nat.le_of_ble_eq_true rfl, Nat.le_of_ble_eq_true rfl⟩) hS (fun q _ h => h) (fun q h => h) (fun r b9 t H locs ht hvm hw hB hz1 hk1 hS => ?_)
    subst hw
    obtain ⟨hP, hz9, hne9⟩ := hB
    rw [ht] at hP
    refine top_rf (q := b9) rfl ?_
    subst hQ
    refine W.widen (k := 1) (n := 22) (Nat.le_of_ble_eq_true rfl) (Nat.le_of_ble_eq_true rfl) ?_
    exact W.aret (v := va_rf (some b9)) hx hb hr (Or.inr ⟨_, rfl⟩) (va_rf_or _) (fun t ht hW => ⟨⟨some b9, b9, rfl, rfl, by have e := hP; rw [← ht] at e; exact ⟨e, hz9, hne9⟩⟩, hS.F ht⟩) hS.2.2 dJ7_copyOf_1904c_9
  exact go _ _ hP va_S.rf
