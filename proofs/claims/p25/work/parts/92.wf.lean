/-! what the law's entry gives -/
abbrev Zs (s : State) : Nat → Prop := fun q => s.heap.size ≤ q
theorem tt {w : Cond} {args : Array Value} {s : State} (hts : ∀ w ∈ lw_tbl, w.before args s = true) (k : Nat) (h : tables_1[k]? = some w) : w.before args s = true := hts w (by unfold lw_tbl; exact List.mem_append_right _ (List.mem_of_getElem? h))
theorem arr_K {D : va_G} {s : State} {cA cB cC : ClassId} (hc : ∀ (c : Nat) (q : vw_C), vwCl[c]? = some q → u_Kn s q.1 q.2.1 q.2.2 (D.1 c) (D.2 c)) {t1 t2 t3 : FieldType} (h1 : ArrOfT s cA t1 ∧ va_RA s cA t1) (h2 : ArrOfT s cB t2 ∧ va_RA s cB t2) (h3 : ArrOfT s cC t3 ∧ va_RA s cC t3) : va_K D vwCl [(cA, t1), (cB, t2), (cC, t3)] s :=
  ⟨hc, fun k q hq => by
    match k, hq with
    | 0, hq => cases hq; exact h1
    | 1, hq => cases hq; exact h2
    | 2, hq => cases hq; exact h3
    | k + 3, hq => simp at hq⟩
set_option maxHeartbeats 4000000 in
set_option maxRecDepth 100000 in
theorem cls_K {s : State} {args : Array Value} (hts : ∀ w ∈ lw_tbl, w.before args s = true) (hw : ∀ w ∈ wsL_law, w.before args s = true) : ∃ D : va_G, ∀ (c : Nat) (q : vw_C), vwCl[c]? = some q → u_Kn s q.1 q.2.1 q.2.2 (D.1 c) (D.2 c) := by
  obtain ⟨c0, i0, h0⟩ := u_known (C := RJx4a65c) (T := TJx4a65c) (N := 3) (n := 3) hts lin_Jx4a65c (hw _ (List.mem_of_getElem? (i := 14) (by decide +kernel)))
  obtain ⟨c1, i1, h1⟩ := u_known (C := RX0) (T := TX0) (N := 4) (n := 4) hts lin_X0 (hw _ (List.mem_of_getElem? (i := 340) (by decide +kernel)))
  obtain ⟨c2, i2, h2⟩ := u_known (C := RX1) (T := TX1) (N := 7) (n := 7) hts lin_X1 (hw _ (List.mem_of_getElem? (i := 22) (by decide +kernel)))
  obtain ⟨c3, i3, h3⟩ := u_known (C := RX2) (T := TX2) (N := 3) (n := 3) hts lin_X2 (hw _ (List.mem_of_getElem? (i := 10) (by decide +kernel)))
  obtain ⟨c4, i4, h4⟩ := u_known (C := RX3) (T := TX3) (N := 7) (n := 7) hts lin_X3 (hw _ (List.mem_of_getElem? (i := 18) (by decide +kernel)))
  obtain ⟨c5, i5, h5⟩ := u_known (C := RX4) (T := TX4) (N := 3) (n := 3) hts lin_X4 (hw _ (List.mem_of_getElem? (i := 1) (by decide +kernel)))
  refine ⟨(fun k => if k = 0 then c0 else if k = 1 then c1 else if k = 2 then c2 else if k = 3 then c3 else if k = 4 then c4 else  c5, fun k => if k = 0 then i0 else if k = 1 then i1 else if k = 2 then i2 else if k = 3 then i3 else if k = 4 then i4 else  i5), fun k q hq => ?_⟩
  match k, hq with
  | 0, hq => cases hq; exact h0
  | 1, hq => cases hq; exact h1
  | 2, hq => cases hq; exact h2
  | 3, hq => cases hq; exact h3
  | 4, hq => cases hq; exact h4
  | 5, hq => cases hq; exact h5
  | k + 6, hq => simp [vwCl] at hq
theorem fy_at {s : State} {args : Array Value} (hts : ∀ w ∈ lw_tbl, w.before args s = true) (hg : ∀ w ∈ flatC (Jvm.Cond.and given_1 narrow_1), w.before args s = true) (D : va_G) (cO : ClassId) : ∃ e0 mi : Nat, NW s ∧ fY D cO (Zs s) e0 s.heap.size mi s := by
  have hA : ∀ a : Nat, a < s.heap.size → ¬ Zs s a := fun a h => Nat.not_le.mpr h
  obtain ⟨mi, hmi⟩ := va_Mi.of (C := "[Ljava/lang/Object;") (hg (.isRef (.mirror "[Ljava/lang/Object;")) (by decide +kernel))
  obtain ⟨e0, he, hT⟩ := va_Tof (tm := .static "java/util/ArrayList" "DEFAULTCAPACITY_EMPTY_ELEMENTDATA" "[Ljava/lang/Object;") (ty := .object "java/lang/Object") (N := 0) (f := fun _ => .null) (A := Zs s) (by decide) (hg (.arrayOf (.static "java/util/ArrayList" "DEFAULTCAPACITY_EMPTY_ELEMENTDATA" "[Ljava/lang/Object;") (.object "java/lang/Object")) (by decide +kernel)) (va_eqt (z := 0) (hg (.eq (.length (.static "java/util/ArrayList" "DEFAULTCAPACITY_EMPTY_ELEMENTDATA" "[Ljava/lang/Object;")) (.int 0)) (by decide +kernel))) (fun j hj => absurd hj (Nat.not_lt_zero _)) hA
  exact ⟨e0, mi, ⟨va_Nw.of rfl (tt hts 456 (by decide +kernel)), va_Nw.of rfl (tt hts 362 (by decide +kernel)), va_Nw.of rfl (tt hts 32 (by decide +kernel)), va_Nw.of rfl (tt hts 75 (by decide +kernel))⟩, ⟨⟨va_Nw.of rfl (tt hts 591 (by decide +kernel)), va_Nw.of rfl (tt hts 587 (by decide +kernel))⟩, va_AO.of (tt hts 188 (by decide +kernel)), hT, va_Zof (tt hts 60 (by decide +kernel)) (tt hts 5 (by decide +kernel)) he hA, Nat.le_refl _⟩, hmi, va_Dc.of (tt hts 596 (by decide +kernel))⟩
theorem le_at {s : State} {b : Nat} (hts : ∀ w ∈ lw_tbl, w.before #[Value.ref b] s = true) (hgv : (Jvm.Cond.and given_1 narrow_1).before #[Value.ref b] s = true) : ∃ (D : va_G) (cI cZ cO : ClassId) (e0 mi : Nat), LE D cI cZ cO (Zs s) e0 s.heap.size mi s := by
  have hg := flat_of_before _ hgv
  have hw : ∀ w ∈ wsL_law, w.before #[Value.ref b] s = true := fun w h => hts w (lin_all w h)
  obtain ⟨D, hD⟩ := cls_K hts hw
  obtain ⟨cI, kI, pI, i1, i2, i3⟩ := Cond.arrayClass_spec ((tt hts 46 (by decide +kernel)) : (Cond.arrayClass .int).before #[Value.ref b] s = true)
  obtain ⟨pO, cO, kO, q1, -, q3, q4, q5⟩ := Cond.arrayOver_spec ((tt hts 188 (by decide +kernel)) : (Cond.arrayOver (.object "java/lang/Object")).before #[Value.ref b] s = true)
  obtain ⟨e0, mi, hN, hY⟩ := fy_at hts hg D cO
  exact ⟨D, cI, cI, cO, e0, mi, arr_K hD ⟨fun n z => ⟨fun k h => (by cases h), kI, i2, pI, i3⟩, i1⟩ ⟨fun n z => ⟨fun k h => (by cases h), kI, i2, pI, i3⟩, i1⟩ ⟨fun n z => ⟨fun k h => (by cases h), kO, q3, pO, q4⟩, kO, pO, q3, q4, q1, q5⟩, hN, hY⟩
theorem fY.elt {D : va_G} {cO : ClassId} {A : Nat → Prop} {e0 z mi : Nat} {s : State} (h : fY D cO A e0 z mi s) : e0 < s.heap.size := by
  obtain ⟨⟨-, -, ⟨cell, hc, -⟩, -⟩, -⟩ := h
  exact (Array.getElem?_eq_some_iff.mp hc).1
