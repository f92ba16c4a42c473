/-! what the law's entry gives -/
theorem tt {w : Cond} {args : Array Value} {s : State} (hts : ∀ w ∈ lw_tbl, w.before args s = true) (k : Nat) (h : tables_1[k]? = some w) : w.before args s = true := hts w (by unfold lw_tbl; exact List.mem_append_right _ (List.mem_of_getElem? h))
theorem arr_K {D : va_G} {s : State} {cA cB cC : ClassId} (hc : ∀ (c : Nat) (q : vw_C), vwCl[c]? = some q → u_Kn s q.1 q.2.1 q.2.2 (D.1 c) (D.2 c)) {t1 t2 t3 : FieldType} (h1 : ArrOfT s cA t1 ∧ va_RA s cA t1) (h2 : ArrOfT s cB t2 ∧ va_RA s cB t2) (h3 : ArrOfT s cC t3 ∧ va_RA s cC t3) : va_K D vwCl [(cA, t1), (cB, t2), (cC, t3)] s :=
  ⟨hc, fun k q hq => by
    match k, hq with
    | 0, hq => cases hq; exact h1
    | 1, hq => cases hq; exact h2
    | 2, hq => cases hq; exact h3
    | k + 3, hq => simp at hq⟩
theorem arr_1 {D : va_G} {s : State} {cA : ClassId} (hc : ∀ (c : Nat) (q : vw_C), vwCl[c]? = some q → u_Kn s q.1 q.2.1 q.2.2 (D.1 c) (D.2 c)) {t1 : FieldType} (h1 : ArrOfT s cA t1 ∧ va_RA s cA t1) : va_K D vwCl [(cA, t1)] s :=
  ⟨hc, fun k q hq => by
    match k, hq with
    | 0, hq => cases hq; exact h1
    | k + 1, hq => simp at hq⟩
theorem str_at {args : Array Value} {s : State} {k : Nat} {tx : String} (h1 : (Cond.stringRef RX4 k tx).before args s = true) (h2 : (Cond.exactly (.string RX4 k) "java/lang/String").before args s = true) : ∃ sa, vk_R RX4 k tx sa s := by
  obtain ⟨a, c9, cell, k9, q1, -⟩ := Cond.exactly_spec h2
  exact ⟨a, vk_R.of h1 q1⟩
set_option maxHeartbeats 4000000 in
set_option maxRecDepth 100000 in
theorem cls_K {s : State} {args : Array Value} (hts : ∀ w ∈ lw_tbl, w.before args s = true) (hw : ∀ w ∈ wsL_law, w.before args s = true) : ∃ D : va_G, ∀ (c : Nat) (q : vw_C), vwCl[c]? = some q → u_Kn s q.1 q.2.1 q.2.2 (D.1 c) (D.2 c) := by
  obtain ⟨c0, i0, h0⟩ := u_known (C := RJx4a65c) (T := TJx4a65c) (N := 3) (n := 3) hts lin_Jx4a65c (hw _ (List.mem_of_getElem? (i := 18) (by decide +kernel)))
  obtain ⟨c1, i1, h1⟩ := u_known (C := RX0) (T := TX0) (N := 4) (n := 4) hts lin_X0 (hw _ (List.mem_of_getElem? (i := 322) (by decide +kernel)))
  obtain ⟨c2, i2, h2⟩ := u_known (C := RX1) (T := TX1) (N := 7) (n := 7) hts lin_X1 (hw _ (List.mem_of_getElem? (i := 26) (by decide +kernel)))
  obtain ⟨c3, i3, h3⟩ := u_known (C := RX2) (T := TX2) (N := 3) (n := 3) hts lin_X2 (hw _ (List.mem_of_getElem? (i := 14) (by decide +kernel)))
  obtain ⟨c4, i4, h4⟩ := u_known (C := RX3) (T := TX3) (N := 7) (n := 7) hts lin_X3 (hw _ (List.mem_of_getElem? (i := 22) (by decide +kernel)))
  obtain ⟨c5, i5, h5⟩ := u_known (C := RX4) (T := TX4) (N := 3) (n := 3) hts lin_X4 (hw _ (List.mem_of_getElem? (i := 1) (by decide +kernel)))
  obtain ⟨c6, i6, h6⟩ := u_known (C := RX5) (T := TX5) (N := 20) (n := 20) hts lin_X5 (hw _ (List.mem_of_getElem? (i := 4) (by decide +kernel)))
  refine ⟨(fun k => if k = 0 then c0 else if k = 1 then c1 else if k = 2 then c2 else if k = 3 then c3 else if k = 4 then c4 else if k = 5 then c5 else  c6, fun k => if k = 0 then i0 else if k = 1 then i1 else if k = 2 then i2 else if k = 3 then i3 else if k = 4 then i4 else if k = 5 then i5 else  i6), fun k q hq => ?_⟩
  match k, hq with
  | 0, hq => cases hq; exact h0
  | 1, hq => cases hq; exact h1
  | 2, hq => cases hq; exact h2
  | 3, hq => cases hq; exact h3
  | 4, hq => cases hq; exact h4
  | 5, hq => cases hq; exact h5
  | 6, hq => cases hq; exact h6
  | k + 7, hq => simp [vwCl] at hq
theorem xtx_at {s : State} {args : Array Value} (hts : ∀ w ∈ lw_tbl, w.before args s = true) (hg : ∀ w ∈ flatC (Jvm.Cond.and given_1 narrow_1), w.before args s = true) : ∀ q ∈ xTx, ∃ sa, vk_R RX4 q.1 q.2 sa s := by
  exact List.forall_mem_cons.mpr ⟨str_at (tt hts 424 (by decide +kernel)) (hg _ (by decide +kernel)), List.forall_mem_cons.mpr ⟨str_at (tt hts 454 (by decide +kernel)) (hg _ (by decide +kernel)), List.forall_mem_cons.mpr ⟨str_at (tt hts 477 (by decide +kernel)) (hg _ (by decide +kernel)), List.forall_mem_cons.mpr ⟨str_at (tt hts 487 (by decide +kernel)) (hg _ (by decide +kernel)), List.forall_mem_cons.mpr ⟨str_at (tt hts 494 (by decide +kernel)) (hg _ (by decide +kernel)), List.forall_mem_cons.mpr ⟨str_at (tt hts 523 (by decide +kernel)) (hg _ (by decide +kernel)), List.forall_mem_cons.mpr ⟨str_at (tt hts 617 (by decide +kernel)) (hg _ (by decide +kernel)), List.forall_mem_cons.mpr ⟨str_at (tt hts 392 (by decide +kernel)) (hg _ (by decide +kernel)), List.forall_mem_cons.mpr ⟨str_at (tt hts 362 (by decide +kernel)) (hg _ (by decide +kernel)), List.forall_mem_cons.mpr ⟨str_at (tt hts 453 (by decide +kernel)) (hg _ (by decide +kernel)), (fun _ h => absurd h List.not_mem_nil)⟩⟩⟩⟩⟩⟩⟩⟩⟩⟩
theorem wf_at {s : State} {args : Array Value} (hts : ∀ w ∈ lw_tbl, w.before args s = true) (hg : ∀ w ∈ flatC (Jvm.Cond.and given_1 narrow_1), w.before args s = true) (D : va_G) (cO : ClassId) : ∃ e0 mi : Nat, WF D cO e0 mi s := by
  have hA : ∀ a : Nat, a < s.heap.size → ¬ Zs s a := fun a h => Nat.not_le.mpr h
  obtain ⟨mi, hmi⟩ := va_Mi.of (C := "[Ljava/lang/Object;") (hg (.isRef (.mirror "[Ljava/lang/Object;")) (by decide +kernel))
  obtain ⟨e0, he, hT⟩ := va_Tof (tm := .static "java/util/ArrayList" "DEFAULTCAPACITY_EMPTY_ELEMENTDATA" "[Ljava/lang/Object;") (ty := .object "java/lang/Object") (N := 0) (f := fun _ => .null) (A := Zs s) (by decide) (hg (.arrayOf (.static "java/util/ArrayList" "DEFAULTCAPACITY_EMPTY_ELEMENTDATA" "[Ljava/lang/Object;") (.object "java/lang/Object")) (by decide +kernel)) (va_eqt (z := 0) (hg (.eq (.length (.static "java/util/ArrayList" "DEFAULTCAPACITY_EMPTY_ELEMENTDATA" "[Ljava/lang/Object;")) (.int 0)) (by decide +kernel))) (fun j hj => absurd hj (Nat.not_lt_zero _)) hA
  refine ⟨e0, mi, ⟨⟨va_Nw.of rfl (tt hts 397 (by decide +kernel)), va_Nw.of rfl (tt hts 286 (by decide +kernel)), va_Nw.of rfl (tt hts 33 (by decide +kernel)), va_Nw.of rfl (tt hts 76 (by decide +kernel))⟩, ⟨va_Nc.of (hg (.not (.castable "java/lang/IllegalStateException" "java/lang/IndexOutOfBoundsException")) (by decide +kernel)), va_Nc.of (hg (.not (.castable "java/lang/IllegalArgumentException" "java/lang/IndexOutOfBoundsException")) (by decide +kernel)), va_Nc.of (hg (.not (.castable "java/lang/IllegalStateException" "java/lang/IllegalArgumentException")) (by decide +kernel))⟩, ⟨va_Nw.of rfl (tt hts 867 (by decide +kernel)), va_Nw.of rfl (tt hts 862 (by decide +kernel))⟩, va_AO.of (tt hts 192 (by decide +kernel)), hmi, va_Dc.of (tt hts 872 (by decide +kernel))⟩,
    ⟨vx_Zqof (tt hts 348 (by decide +kernel)) (tt hts 13 (by decide +kernel)) (hg (.isRef (.static Bundle.tN "UNASSIGNED_STACK" Bundle.steD)) (by decide +kernel)) hA, vx_Zqof (tt hts 350 (by decide +kernel)) (tt hts 13 (by decide +kernel)) (hg (.isRef (.static Bundle.tN "SUPPRESSED_SENTINEL" Bundle.listD)) (by decide +kernel)) hA⟩,
    ⟨⟨va_Nw.of rfl (tt hts 325 (by decide +kernel)), va_Nw.of rfl (tt hts 327 (by decide +kernel)), va_Nw.of rfl (tt hts 329 (by decide +kernel))⟩, List.forall_mem_cons.mpr ⟨va_Nw.of rfl (tt hts 323 (by decide +kernel)), List.forall_mem_cons.mpr ⟨va_Nw.of rfl (tt hts 417 (by decide +kernel)), List.forall_mem_cons.mpr ⟨va_Nw.of rfl (tt hts 480 (by decide +kernel)), fun _ h => absurd h List.not_mem_nil⟩⟩⟩, xtx_at hts hg⟩, hT, va_Zof (tt hts 61 (by decide +kernel)) (tt hts 5 (by decide +kernel)) he hA⟩
theorem lx_at {p : Program} {s : State} {m : MethodId} {meth : Method} {c : Code} {l : Launch} (hflags : l.flags = flags0) {b L : Nat} {xs : Nat → Int32} (hL : L ≤ 3072) (hx : p.tables.exec = Jvm.exec) (hb : c.code = code) (hml : c.maxLocals = 7) (hown : s.vm.findClass RL = some m.cls) (hts : ∀ w ∈ lw_tbl, w.before #[Value.ref b] s = true) (hX : va_X b L xs s s.heap) (hbl : b < s.heap.size) (hgv : (Jvm.Cond.and given_1 narrow_1).before #[Value.ref b] s = true) : ∃ (D : va_G) (cI cZ cO cJ : ClassId) (e0 mi : Nat), LX p l s m c b L xs D cI cZ cO cJ e0 mi := by
  have hg := flat_of_before _ hgv
  have hw : ∀ w ∈ wsL_law, w.before #[Value.ref b] s = true := fun w h => hts w (lin_all w h)
  have hl0 : l.stackTraces = false := by unfold Launch.stackTraces; rw [hflags]; decide +kernel
  obtain ⟨D, hD⟩ := cls_K hts hw
  obtain ⟨cI, kI, pI, i1, i2, i3⟩ := Cond.arrayClass_spec (tt hts 47 (by decide +kernel) : (Cond.arrayClass .int).before #[Value.ref b] s = true)
  obtain ⟨cZ, kZ, pZ, z1, z2, z3⟩ := Cond.arrayClass_spec (tt hts 703 (by decide +kernel) : (Cond.arrayClass .boolean).before #[Value.ref b] s = true)
  obtain ⟨cJ, kJ, pJ, j1, j2, j3⟩ := Cond.arrayClass_spec (tt hts 856 (by decide +kernel) : (Cond.arrayClass .long).before #[Value.ref b] s = true)
  obtain ⟨pO, cO, kO, q1, -, q3, q4, q5⟩ := Cond.arrayOver_spec (tt hts 192 (by decide +kernel) : (Cond.arrayOver (.object "java/lang/Object")).before #[Value.ref b] s = true)
  obtain ⟨e0, mi, hWF⟩ := wf_at hts hg D cO
  exact ⟨D, cI, cZ, cO, cJ, e0, mi, ⟨hx, hb, hml, hown, hw⟩, ⟨hX, hbl, hL⟩, ⟨hl0, arr_K hD ⟨fun n z => ⟨fun k h => (by cases h), kI, i2, pI, i3⟩, i1⟩ ⟨fun n z => ⟨fun k h => (by cases h), kZ, z2, pZ, z3⟩, z1⟩ ⟨fun n z => ⟨fun k h => (by cases h), kO, q3, pO, q4⟩, kO, pO, q3, q4, q1, q5⟩, arr_1 hD ⟨fun n z => ⟨fun k h => (by cases h), kJ, j2, pJ, j3⟩, j1⟩⟩, hWF⟩
