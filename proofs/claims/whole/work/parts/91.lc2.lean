set_option maxHeartbeats 800000 in
set_option maxRecDepth 100000 in
theorem lc_6 {p : Program} {l : Launch} {e : Env} {s : State} {m : MethodId} {below : List Frame} {meth : Method} {c : Code} {b Lx : Nat} {xs : Nat → Int32} {D : va_G} {cI cZ cO cJ : ClassId} {e0 mi x0 m0 ou : Nat} (hC : LX p l s m c b Lx xs D cI cZ cO cJ e0 mi) {H : Heap} {locs : List Loc} {cells slots : Nat} (hI : LI D cI cZ cO cJ s.heap.size e0 x0 m0 ou H) (hS : va_S (Zs s) s.heap H locs) {i : Nat} (hi : i + 6 ≤ Lx) {Q : State → Prop} {ls : Array Slot} (hl : lv_has ls 7 [(0, .ref b), (1, .ref x0), (2, .ref m0), (3, .ref ou), (4, .int (nI i))]) (hc : cells + 4 ≤ 679203) (hs : slots + 40 ≤ 7058495)
    (kk : ∀ (H2 : Heap) (locs2 : List Loc) (ls2 : Array Slot), LI D cI cZ cO cJ s.heap.size e0 x0 m0 ou H2 → va_S (Zs s) s.heap H2 locs2 → lv_has ls2 7 [(0, .ref b), (1, .ref x0), (2, .ref m0), (3, .ref ou), (4, .int (nI i))] → W p l e room_1 s m #[Value.ref b] below meth c H2 locs2 (cells + 4) (slots + 40) Q (F0 m 1565 ls2 [])) : W p l e room_1 s m #[Value.ref b] below meth c H locs cells slots Q (F0 m 605 ls []) := by
  obtain ⟨⟨hx, hb, hml, hown, hts⟩, ⟨hX, hbl, hLx⟩, ⟨hl0, hK, hKJ⟩, hWF⟩ := hC
  obtain ⟨F, ik, kp, tu, n, k0, ad, w, he, gv, gp, gb, ob, nm, lo, L, f, tg, AD, mc, hok, ⟨hL, hLz, hx0, he0, hP, hR⟩, ⟨had, hm0, hMX⟩, hou, houz, hPo⟩ := hI
  subst hx0
  subst he0
  subst hm0
  obtain ⟨ow, mp, nm5, gb5, ob5, g, hg, -, hPm⟩ := hMX
  have hbA : ¬ Zs s b := Nat.not_le.mpr hbl
  have hN := hWF.1.1
  have hK2 : va_K D vwCl [(cI, .int), (cZ, .boolean)] s := hK.sub (tys' := [(cI, .int), (cZ, .boolean)]) [0, 1] rfl
  have hzH : s.heap.size ≤ H.size := hS.1
  have hadH : ∀ j, j < 16 → ad j < H.size := fun j hj => md_lt hPm hj
  have houH : ou < H.size := va_at.lt (hPo 0 _ rfl)
  have he0s := hWF.elt
  have hAz : ∀ q, (q ∈ L ∨ H.size ≤ q) ∨ q = ou → Zs s q := fun q h => h.elim (fun h => h.elim (fun h => hLz q h) (fun h => Nat.le_trans hzH h)) (fun h => by rw [h]; exact houz)
  have hAm : ∀ q, (∃ j, j < 16 ∧ q = ad j) → Zs s q := fun q ⟨j, hj, ej⟩ => by rw [ej]; exact (had.2 j hj).1
  have hne : ¬ (AD 7 0 ∈ L ∨ H.size ≤ AD 7 0) := fun hh => hh.elim (fun h => absurd (hLz _ h) (Nat.not_le.mpr he0s)) (fun h => by omega)
  have hou2 : ¬ (ou ∈ L ∨ H.size ≤ ou) := fun hh => hh.elim hou (fun h => by omega)
  have hno : ¬ ∃ j, j < 16 ∧ ou = ad j := fun ⟨j, hj, ej⟩ => (had.2 j hj).2.2 ej.symm
  refine lv_aload_n hx hb dL_law_605 rfl (lv_at hl 1 rfl) ?_
  refine lv_aload_n hx hb dL_law_606 rfl (lv_at hl 0 rfl) ?_
  refine lv_iload hx hb dL_law_607 (lv_at hl 4 rfl) ?_
  refine lv_iconst (v := 1) hx hb dL_law_609 (by decide) ?_
  refine top_eq (y := nI 1) rfl ?_
  refine iadd_n (x := i) (y := 1) hx hb dL_law_610 ?_
  refine ld_s (k := i + 1) hx hb hX hbl hbA hS (by omega) (by omega) dL_law_611 ?_
  refine lv_aload_n hx hb dL_law_612 rfl (lv_at hl 0 rfl) ?_
  refine lv_iload hx hb dL_law_613 (lv_at hl 4 rfl) ?_
  refine lv_iconst (v := 2) hx hb dL_law_615 (by decide) ?_
  refine top_eq (y := nI 2) rfl ?_
  refine iadd_n (x := i) (y := 2) hx hb dL_law_616 ?_
  refine ld_s (k := i + 2) hx hb hX hbl hbA hS (by omega) (by omega) dL_law_617 ?_
  refine lv_aload_n hx hb dL_law_618 rfl (lv_at hl 0 rfl) ?_
  refine lv_iload hx hb dL_law_619 (lv_at hl 4 rfl) ?_
  refine lv_iconst (v := 3) hx hb dL_law_621 (by decide) ?_
  refine top_eq (y := nI 3) rfl ?_
  refine iadd_n (x := i) (y := 3) hx hb dL_law_622 ?_
  refine ld_s (k := i + 3) hx hb hX hbl hbA hS (by omega) (by omega) dL_law_623 ?_
  have J_624 : ∀ y9 : Int32, y9 = b2i (!decide (xs (i + 3) = 0)) → W p l e room_1 s m #[Value.ref b] below meth c H locs (cells) (slots) Q (F0 m 632 ls [.int y9, .int (xs (i + 2)), .int (xs (i + 1)), .ref (AD 0 0)]) := by
    intro y9 ey9
    subst ey9
    refine lv_aload_n hx hb dL_law_632 rfl (lv_at hl 0 rfl) ?_
    refine lv_iload hx hb dL_law_633 (lv_at hl 4 rfl) ?_
    refine lv_iconst (v := 4) hx hb dL_law_635 (by decide) ?_
    refine top_eq (y := nI 4) rfl ?_
    refine iadd_n (x := i) (y := 4) hx hb dL_law_636 ?_
    refine ld_s (k := i + 4) hx hb hX hbl hbA hS (by omega) (by omega) dL_law_637 ?_
    refine lv_aload_n hx hb dL_law_638 rfl (lv_at hl 0 rfl) ?_
    refine lv_iload hx hb dL_law_639 (lv_at hl 4 rfl) ?_
    refine lv_iconst (v := 5) hx hb dL_law_641 (by decide) ?_
    refine top_eq (y := nI 5) rfl ?_
    refine iadd_n (x := i) (y := 5) hx hb dL_law_642 ?_
    refine ld_s (k := i + 5) hx hb hX hbl hbA hS (by omega) (by omega) dL_law_643 ?_
    refine lv_aload_n hx hb dL_law_644 rfl (lv_at hl 3 rfl) ?_
    obtain ⟨k, r, F', ik', kp', tu', n', hok', hHC, hMC⟩ := pr_allow (l := l) (D := D) (cI := cI) (cZ := cZ) (cO := cO) (cJ := cJ) hl0 hok hR hL (A := fun q => q ∈ L ∨ H.size ≤ q) (fun a h => Or.inl h) (z := H.size) (mi := mi) (ou := ou) (w := w) (fun q h => Or.inr h) hne hou2 (ad := ad) (ow := ow) (mp := mp) (nm5 := nm5) (gb5 := gb5) (ob5 := ob5) hg (A2 := fun q => ∃ j, j < 16 ∧ q = ad j) (ad_self had) (xs (i + 1)) (xs (i + 2)) (!decide (xs (i + 3) = 0)) (xs (i + 4)) (xs (i + 5))
    refine va_calli (vx_runSW (As := [.ref (AD 0 0), .int (xs (i + 1)), .int (xs (i + 2)), .int (b2i (!decide (xs (i + 3) = 0))), .int (xs (i + 4)), .int (xs (i + 5)), .ref ou]) (rest := []) ⟨hx, hb, hml, hown, hts⟩ hHC (vx_cwSW 7 hts gL_law_L_allow rfl rfl rfl (by decide +kernel) ⟨Nat.le_of_ble_eq_true rfl, Nat.le_of_ble_eq_true rfl⟩) ⟨HW.blind, fun U hU hW => ⟨rfl, ⟨⟨⟨by rw [hU]; exact hP, va_K.moved hW.alike hK, hN.warm hW⟩, hWF.nx hS hU hW, hWF.fy hS (fun q h => hAz q (Or.inl h)) (Nat.le_refl _) hU hW⟩, by rw [hU]; exact hPo, va_K.moved hW.alike hKJ, hWF.1.2.1.move hW⟩⟩⟩ rfl rfl hl.1 rfl (lv_room (Nat.le_of_ble_eq_true rfl)) dL_law_645 ⟨hc, hs⟩) hS (fun q _ h => hAz q h) hAz (fun r9 w9 t H1 locs1 ht hvm hw hB hz1 hk1 hS1 => ?_)
    obtain ⟨hw1, hw2⟩ := hw
    obtain ⟨hB1, hB2⟩ := hB
    rw [ht] at hB1 hB2
    rw [hw1]
    have hPm1 := md_kept had hPm hk1
    refine lv_istore (lv' := [(5, .int k), (0, .ref b), (1, .ref (AD 0 0)), (2, .ref (ad 0)), (3, .ref ou), (4, .int (nI i))]) hx hb dL_law_648 hl (by decide) rfl (fun ls hl => ?_)
    refine lv_aload_n hx hb dL_law_650 rfl (lv_at hl 3 rfl) ?_
    refine lv_aload_n hx hb dL_law_651 rfl (lv_at hl 1 rfl) ?_
    refine lv_iload hx hb dL_law_652 (lv_at hl 5 rfl) ?_
    refine lv_iconst (v := 1) hx hb dL_law_654 (by decide) ?_
    refine top_eq (y := nI 1) rfl ?_
    refine iadd_n (x := i) (y := 1) hx hb dL_law_655 ?_
    refine ld_s (k := i + 1) hx hb hX hbl hbA hS1 (by omega) (by omega) dL_law_656 ?_
    refine lv_aload_n hx hb dL_law_657 rfl (lv_at hl 1 rfl) ?_
    refine lv_iload hx hb dL_law_658 (lv_at hl 5 rfl) ?_
    refine lv_iconst (v := 2) hx hb dL_law_660 (by decide) ?_
    refine top_eq (y := nI 2) rfl ?_
    refine iadd_n (x := i) (y := 2) hx hb dL_law_661 ?_
    refine ld_s (k := i + 2) hx hb hX hbl hbA hS1 (by omega) (by omega) dL_law_662 ?_
    refine lv_aload_n hx hb dL_law_663 rfl (lv_at hl 1 rfl) ?_
    refine lv_iload hx hb dL_law_664 (lv_at hl 5 rfl) ?_
    refine lv_iconst (v := 3) hx hb dL_law_666 (by decide) ?_
    refine top_eq (y := nI 3) rfl ?_
    refine iadd_n (x := i) (y := 3) hx hb dL_law_667 ?_
    refine ld_s (k := i + 3) hx hb hX hbl hbA hS1 (by omega) (by omega) dL_law_668 ?_
    have J_669 : ∀ y9 : Int32, y9 = b2i (!decide (xs (i + 3) = 0)) → W p l e room_1 s m #[Value.ref b] below meth c H1 locs1 (cells + 4) (slots + 40) Q (F0 m 677 ls [.int y9, .int (xs (i + 2)), .int (xs (i + 1)), .ref (ad 0)]) := by
      intro y9 ey9
      subst ey9
      refine lv_aload_n hx hb dL_law_677 rfl (lv_at hl 1 rfl) ?_
      refine lv_iload hx hb dL_law_678 (lv_at hl 5 rfl) ?_
      refine lv_iconst (v := 4) hx hb dL_law_680 (by decide) ?_
      refine top_eq (y := nI 4) rfl ?_
      refine iadd_n (x := i) (y := 4) hx hb dL_law_681 ?_
      refine ld_s (k := i + 4) hx hb hX hbl hbA hS1 (by omega) (by omega) dL_law_682 ?_
      refine lv_aload_n hx hb dL_law_683 rfl (lv_at hl 1 rfl) ?_
      refine lv_iload hx hb dL_law_684 (lv_at hl 5 rfl) ?_
      refine lv_iconst (v := 5) hx hb dL_law_686 (by decide) ?_
      refine top_eq (y := nI 5) rfl ?_
      refine iadd_n (x := i) (y := 5) hx hb dL_law_687 ?_
      refine ld_s (k := i + 5) hx hb hX hbl hbA hS1 (by omega) (by omega) dL_law_688 ?_
      refine va_calli (va_runV (As := [.int (xs (i + 1)), .int (xs (i + 2)), .int (b2i (!decide (xs (i + 3) = 0))), .int (xs (i + 4)), .int (xs (i + 5))]) (rest := []) ⟨hx, hb, hml, hown, hts⟩ hMC (cwV 5 hts gL_law_X5_allow rfl rfl rfl (by decide +kernel) ⟨Nat.le_of_ble_eq_true rfl, Nat.le_of_ble_eq_true rfl⟩) ⟨rd_blind, va_recv hK2 hPm1 (ci := 6) (q0 := 0) rfl rfl, rd_pre hPm1 hK2 hN⟩ rfl rfl hl.1 rfl (lv_room (Nat.le_of_ble_eq_true rfl)) dL_law_689 ⟨hc, hs⟩) hS1 (fun q _ h => hAm q h) hAm (fun r8 u8 t2 H2 locs2 ht2 hvm2 hw8 hM8 hz2 hk2 hS2 => ?_)
      rw [ht2] at hM8
      refine lv_istore (lv' := [(6, .int r8), (5, .int k), (0, .ref b), (1, .ref (AD 0 0)), (2, .ref (ad 0)), (3, .ref ou), (4, .int (nI i))]) hx hb dL_law_692 hl (by decide) rfl (fun ls hl => ?_)
      obtain ⟨ow8, mp8, nm8, gb8, ob8, g8, hg8, hk8, hPm8⟩ := id hM8
      have hPo2 : va_P D vwCl [(ou, lgC cJ w9)] H2 := hB2.kept (fun j q hq => hk2 q.1 (va_at.lt (hB2 j q hq)) (by have hm := List.mem_of_getElem? hq; rw [List.mem_singleton] at hm; rw [hm]; exact hno))
      refine lv_aload_n hx hb dL_law_694 rfl (lv_at hl 4 rfl) ?_
      refine vp_callSi (W.runV (As := []) (rest := []) ⟨hx, hb, hml, hown, hts⟩ (k_X5_thrown l D cI cZ ad F' ow8 mp8 nm8 gb8 ob8 ik' kp' tu' g8) (cwV 0 hts gL_law_X5_thrown rfl rfl rfl (by decide +kernel) ⟨Nat.le_of_ble_eq_true rfl, Nat.le_of_ble_eq_true rfl⟩) ⟨rd_blind, va_recv hK2 hPm8 (ci := 6) (q0 := 0) rfl rfl, rd_pre hPm8 hK2 hN⟩ rfl rfl hl.1 rfl (lv_room (Nat.le_of_ble_eq_true rfl)) dL_law_695 ⟨hc, hs⟩) (fun r7 er => ?_)
      rw [er, hk8]
      refine lv_iload hx hb dL_law_698 (lv_at hl 1 rfl) ?_
      refine lv_icmp_eq (tgt := 705) hx hb dL_law_700 (by decide) (fun _ => ?_) (fun h9 => absurd rfl h9)
      refine lv_iload hx hb dL_law_705 (lv_at hl 1 rfl) ?_
      have END : W p l e room_1 s m #[Value.ref b] below meth c H2 locs2 (cells + 4) (slots + 40) Q (F0 m 722 ls []) := by
        refine lv_goto (tgt := 1565) hx hb dL_law_722 (by decide) ?_
        exact kk H2 locs2 ls (LI.step hLz had rfl hadH hou houz houH hzH hok' hB1 hB2 hM8 hk2) hS2 (lv_sub hl [2, 3, 4, 5, 6] rfl)
      refine lv_if_ne (tgt := 722) hx hb dL_law_707 (by decide) (fun _ => END) (fun hk0 => ?_)
      have hr8 : r8 = r := hw8 hk0
      refine lv_aload_n hx hb dL_law_710 rfl (lv_at hl 5 rfl) ?_
      refine lv_iconst (v := 0) hx hb dL_law_711 (by decide) ?_
      refine top_eq (y := nI 0) rfl ?_
      refine ld_l (k := 0) hx hb hKJ hPo2 0 0 rfl rfl (by decide) (by decide) dL_law_712 ?_
      refine top_el (y := r8.toInt64) (by rw [hw2 hk0, hr8]) ?_
      refine lv_iload hx hb dL_law_713 (lv_at hl 0 rfl) ?_
      refine lv_i2l (v := r8.toInt64) hx hb dL_law_715 rfl ?_
      refine W.lcmp hx hb dL_law_716 ?_
      refine top_eq (y := 0) (lg_self _) ?_
      exact lv_if_eq (tgt := 722) hx hb dL_law_717 (by decide) (fun _ => END) (fun h9 => absurd rfl h9)
    refine lv_if_eq (tgt := 676) hx hb dL_law_669 (by decide) (fun c0 => ?_) (fun c0 => ?_)
    · refine lv_iconst (v := 0) hx hb dL_law_676 (by decide) ?_
      exact J_669 _ (nz_t c0)
    · refine lv_iconst (v := 1) hx hb dL_law_672 (by decide) ?_
      refine lv_goto (tgt := 677) hx hb dL_law_673 (by decide) ?_
      exact J_669 _ (nz_f c0)
  refine lv_if_eq (tgt := 631) hx hb dL_law_624 (by decide) (fun c0 => ?_) (fun c0 => ?_)
  · refine lv_iconst (v := 0) hx hb dL_law_631 (by decide) ?_
    exact J_624 _ (nz_t c0)
  · refine lv_iconst (v := 1) hx hb dL_law_627 (by decide) ?_
    refine lv_goto (tgt := 632) hx hb dL_law_628 (by decide) ?_
    exact J_624 _ (nz_f c0)
set_option maxHeartbeats 800000 in
set_option maxRecDepth 100000 in
theorem lc_7 {p : Program} {l : Launch} {e : Env} {s : State} {m : MethodId} {below : List Frame} {meth : Method} {c : Code} {b Lx : Nat} {xs : Nat → Int32} {D : va_G} {cI cZ cO cJ : ClassId} {e0 mi x0 m0 ou : Nat} (hC : LX p l s m c b Lx xs D cI cZ cO cJ e0 mi) {H : Heap} {locs : List Loc} {cells slots : Nat} (hI : LI D cI cZ cO cJ s.heap.size e0 x0 m0 ou H) (hS : va_S (Zs s) s.heap H locs) {i : Nat} (hi : i + 6 ≤ Lx) {Q : State → Prop} {ls : Array Slot} (hl : lv_has ls 7 [(0, .ref b), (1, .ref x0), (2, .ref m0), (3, .ref ou), (4, .int (nI i))]) (hc : cells + 4 ≤ 679203) (hs : slots + 40 ≤ 7058495)
    (kk : ∀ (H2 : Heap) (locs2 : List Loc) (ls2 : Array Slot), LI D cI cZ cO cJ s.heap.size e0 x0 m0 ou H2 → va_S (Zs s) s.heap H2 locs2 → lv_has ls2 7 [(0, .ref b), (1, .ref x0), (2, .ref m0), (3, .ref ou), (4, .int (nI i))] → W p l e room_1 s m #[Value.ref b] below meth c H2 locs2 (cells + 4) (slots + 40) Q (F0 m 1565 ls2 [])) : W p l e room_1 s m #[Value.ref b] below meth c H locs cells slots Q (F0 m 725 ls []) := by
  obtain ⟨⟨hx, hb, hml, hown, hts⟩, ⟨hX, hbl, hLx⟩, ⟨hl0, hK, hKJ⟩, hWF⟩ := hC
  obtain ⟨F, ik, kp, tu, n, k0, ad, w, he, gv, gp, gb, ob, nm, lo, L, f, tg, AD, mc, hok, ⟨hL, hLz, hx0, he0, hP, hR⟩, ⟨had, hm0, hMX⟩, hou, houz, hPo⟩ := hI
  subst hx0
  subst he0
  subst hm0
  obtain ⟨ow, mp, nm5, gb5, ob5, g, hg, -, hPm⟩ := hMX
  have hbA : ¬ Zs s b := Nat.not_le.mpr hbl
  have hN := hWF.1.1
  have hK2 : va_K D vwCl [(cI, .int), (cZ, .boolean)] s := hK.sub (tys' := [(cI, .int), (cZ, .boolean)]) [0, 1] rfl
  have hzH : s.heap.size ≤ H.size := hS.1
  have hadH : ∀ j, j < 16 → ad j < H.size := fun j hj => md_lt hPm hj
  have houH : ou < H.size := va_at.lt (hPo 0 _ rfl)
  have he0s := hWF.elt
  have hAz : ∀ q, (q ∈ L ∨ H.size ≤ q) ∨ q = ou → Zs s q := fun q h => h.elim (fun h => h.elim (fun h => hLz q h) (fun h => Nat.le_trans hzH h)) (fun h => by rw [h]; exact houz)
  have hAm : ∀ q, (∃ j, j < 16 ∧ q = ad j) → Zs s q := fun q ⟨j, hj, ej⟩ => by rw [ej]; exact (had.2 j hj).1
  have hne : ¬ (AD 7 0 ∈ L ∨ H.size ≤ AD 7 0) := fun hh => hh.elim (fun h => absurd (hLz _ h) (Nat.not_le.mpr he0s)) (fun h => by omega)
  have hou2 : ¬ (ou ∈ L ∨ H.size ≤ ou) := fun hh => hh.elim hou (fun h => by omega)
  have hno : ¬ ∃ j, j < 16 ∧ ou = ad j := fun ⟨j, hj, ej⟩ => (had.2 j hj).2.2 ej.symm
  refine lv_aload_n hx hb dL_law_725 rfl (lv_at hl 1 rfl) ?_
  refine lv_aload_n hx hb dL_law_726 rfl (lv_at hl 0 rfl) ?_
  refine lv_iload hx hb dL_law_727 (lv_at hl 4 rfl) ?_
  refine lv_iconst (v := 1) hx hb dL_law_729 (by decide) ?_
  refine top_eq (y := nI 1) rfl ?_
  refine iadd_n (x := i) (y := 1) hx hb dL_law_730 ?_
  refine ld_s (k := i + 1) hx hb hX hbl hbA hS (by omega) (by omega) dL_law_731 ?_
  refine lv_aload_n hx hb dL_law_732 rfl (lv_at hl 0 rfl) ?_
  refine lv_iload hx hb dL_law_733 (lv_at hl 4 rfl) ?_
  refine lv_iconst (v := 2) hx hb dL_law_735 (by decide) ?_
  refine top_eq (y := nI 2) rfl ?_
  refine iadd_n (x := i) (y := 2) hx hb dL_law_736 ?_
  refine ld_s (k := i + 2) hx hb hX hbl hbA hS (by omega) (by omega) dL_law_737 ?_
  refine lv_aload_n hx hb dL_law_738 rfl (lv_at hl 3 rfl) ?_
  obtain ⟨k, r, F', ik', kp', tu', n', hok', hHC, hMC⟩ := pr_drop (l := l) (D := D) (cI := cI) (cZ := cZ) (cO := cO) (cJ := cJ) hl0 hok hR hL (A := fun q => q ∈ L ∨ H.size ≤ q) (fun a h => Or.inl h) (z := H.size) (mi := mi) (ou := ou) (w := w) (fun q h => Or.inr h) hne hou2 (ad := ad) (ow := ow) (mp := mp) (nm5 := nm5) (gb5 := gb5) (ob5 := ob5) hg (A2 := fun q => ∃ j, j < 16 ∧ q = ad j) (ad_self had) (xs (i + 1)) (xs (i + 2))
  refine va_calli (vx_runSW (As := [.ref (AD 0 0), .int (xs (i + 1)), .int (xs (i + 2)), .ref ou]) (rest := []) ⟨hx, hb, hml, hown, hts⟩ hHC (vx_cwSW 4 hts gL_law_L_drop rfl rfl rfl (by decide +kernel) ⟨Nat.le_of_ble_eq_true rfl, Nat.le_of_ble_eq_true rfl⟩) ⟨HW.blind, fun U hU hW => ⟨rfl, ⟨⟨⟨by rw [hU]; exact hP, va_K.moved hW.alike hK, hN.warm hW⟩, hWF.nx hS hU hW, hWF.fy hS (fun q h => hAz q (Or.inl h)) (Nat.le_refl _) hU hW⟩, by rw [hU]; exact hPo, va_K.moved hW.alike hKJ, hWF.1.2.1.move hW⟩⟩⟩ rfl rfl hl.1 rfl (lv_room (Nat.le_of_ble_eq_true rfl)) dL_law_739 ⟨hc, hs⟩) hS (fun q _ h => hAz q h) hAz (fun r9 w9 t H1 locs1 ht hvm hw hB hz1 hk1 hS1 => ?_)
  obtain ⟨hw1, hw2⟩ := hw
  obtain ⟨hB1, hB2⟩ := hB
  rw [ht] at hB1 hB2
  rw [hw1]
  have hPm1 := md_kept had hPm hk1
  refine lv_istore (lv' := [(5, .int k), (0, .ref b), (1, .ref (AD 0 0)), (2, .ref (ad 0)), (3, .ref ou), (4, .int (nI i))]) hx hb dL_law_742 hl (by decide) rfl (fun ls hl => ?_)
  refine lv_aload_n hx hb dL_law_744 rfl (lv_at hl 3 rfl) ?_
  refine lv_aload_n hx hb dL_law_745 rfl (lv_at hl 1 rfl) ?_
  refine lv_iload hx hb dL_law_746 (lv_at hl 5 rfl) ?_
  refine lv_iconst (v := 1) hx hb dL_law_748 (by decide) ?_
  refine top_eq (y := nI 1) rfl ?_
  refine iadd_n (x := i) (y := 1) hx hb dL_law_749 ?_
  refine ld_s (k := i + 1) hx hb hX hbl hbA hS1 (by omega) (by omega) dL_law_750 ?_
  refine lv_aload_n hx hb dL_law_751 rfl (lv_at hl 1 rfl) ?_
  refine lv_iload hx hb dL_law_752 (lv_at hl 5 rfl) ?_
  refine lv_iconst (v := 2) hx hb dL_law_754 (by decide) ?_
  refine top_eq (y := nI 2) rfl ?_
  refine iadd_n (x := i) (y := 2) hx hb dL_law_755 ?_
  refine ld_s (k := i + 2) hx hb hX hbl hbA hS1 (by omega) (by omega) dL_law_756 ?_
  refine va_calli (va_runV (As := [.int (xs (i + 1)), .int (xs (i + 2))]) (rest := []) ⟨hx, hb, hml, hown, hts⟩ hMC (cwV 2 hts gL_law_X5_drop rfl rfl rfl (by decide +kernel) ⟨Nat.le_of_ble_eq_true rfl, Nat.le_of_ble_eq_true rfl⟩) ⟨rd_blind, va_recv hK2 hPm1 (ci := 6) (q0 := 0) rfl rfl, rd_pre hPm1 hK2 hN⟩ rfl rfl hl.1 rfl (lv_room (Nat.le_of_ble_eq_true rfl)) dL_law_757 ⟨hc, hs⟩) hS1 (fun q _ h => hAm q h) hAm (fun r8 u8 t2 H2 locs2 ht2 hvm2 hw8 hM8 hz2 hk2 hS2 => ?_)
  rw [ht2] at hM8
  refine lv_istore (lv' := [(6, .int r8), (5, .int k), (0, .ref b), (1, .ref (AD 0 0)), (2, .ref (ad 0)), (3, .ref ou), (4, .int (nI i))]) hx hb dL_law_760 hl (by decide) rfl (fun ls hl => ?_)
  obtain ⟨ow8, mp8, nm8, gb8, ob8, g8, hg8, hk8, hPm8⟩ := id hM8
  have hPo2 : va_P D vwCl [(ou, lgC cJ w9)] H2 := hB2.kept (fun j q hq => hk2 q.1 (va_at.lt (hB2 j q hq)) (by have hm := List.mem_of_getElem? hq; rw [List.mem_singleton] at hm; rw [hm]; exact hno))
  refine lv_aload_n hx hb dL_law_762 rfl (lv_at hl 4 rfl) ?_
  refine vp_callSi (W.runV (As := []) (rest := []) ⟨hx, hb, hml, hown, hts⟩ (k_X5_thrown l D cI cZ ad F' ow8 mp8 nm8 gb8 ob8 ik' kp' tu' g8) (cwV 0 hts gL_law_X5_thrown rfl rfl rfl (by decide +kernel) ⟨Nat.le_of_ble_eq_true rfl, Nat.le_of_ble_eq_true rfl⟩) ⟨rd_blind, va_recv hK2 hPm8 (ci := 6) (q0 := 0) rfl rfl, rd_pre hPm8 hK2 hN⟩ rfl rfl hl.1 rfl (lv_room (Nat.le_of_ble_eq_true rfl)) dL_law_763 ⟨hc, hs⟩) (fun r7 er => ?_)
  rw [er, hk8]
  refine lv_iload hx hb dL_law_766 (lv_at hl 1 rfl) ?_
  refine lv_icmp_eq (tgt := 773) hx hb dL_law_768 (by decide) (fun _ => ?_) (fun h9 => absurd rfl h9)
  refine lv_iload hx hb dL_law_773 (lv_at hl 1 rfl) ?_
  have END : W p l e room_1 s m #[Value.ref b] below meth c H2 locs2 (cells + 4) (slots + 40) Q (F0 m 790 ls []) := by
    refine lv_goto (tgt := 1565) hx hb dL_law_790 (by decide) ?_
    exact kk H2 locs2 ls (LI.step hLz had rfl hadH hou houz houH hzH hok' hB1 hB2 hM8 hk2) hS2 (lv_sub hl [2, 3, 4, 5, 6] rfl)
  refine lv_if_ne (tgt := 790) hx hb dL_law_775 (by decide) (fun _ => END) (fun hk0 => ?_)
  have hr8 : r8 = r := hw8 hk0
  refine lv_aload_n hx hb dL_law_778 rfl (lv_at hl 5 rfl) ?_
  refine lv_iconst (v := 0) hx hb dL_law_779 (by decide) ?_
  refine top_eq (y := nI 0) rfl ?_
  refine ld_l (k := 0) hx hb hKJ hPo2 0 0 rfl rfl (by decide) (by decide) dL_law_780 ?_
  refine top_el (y := r8.toInt64) (by rw [hw2 hk0, hr8]) ?_
  refine lv_iload hx hb dL_law_781 (lv_at hl 0 rfl) ?_
  refine lv_i2l (v := r8.toInt64) hx hb dL_law_783 rfl ?_
  refine W.lcmp hx hb dL_law_784 ?_
  refine top_eq (y := 0) (lg_self _) ?_
  exact lv_if_eq (tgt := 790) hx hb dL_law_785 (by decide) (fun _ => END) (fun h9 => absurd rfl h9)
set_option maxHeartbeats 800000 in
set_option maxRecDepth 100000 in
theorem lc_8 {p : Program} {l : Launch} {e : Env} {s : State} {m : MethodId} {below : List Frame} {meth : Method} {c : Code} {b Lx : Nat} {xs : Nat → Int32} {D : va_G} {cI cZ cO cJ : ClassId} {e0 mi x0 m0 ou : Nat} (hC : LX p l s m c b Lx xs D cI cZ cO cJ e0 mi) {H : Heap} {locs : List Loc} {cells slots : Nat} (hI : LI D cI cZ cO cJ s.heap.size e0 x0 m0 ou H) (hS : va_S (Zs s) s.heap H locs) {i : Nat} (hi : i + 6 ≤ Lx) {Q : State → Prop} {ls : Array Slot} (hl : lv_has ls 7 [(0, .ref b), (1, .ref x0), (2, .ref m0), (3, .ref ou), (4, .int (nI i))]) (hc : cells + 4 ≤ 679203) (hs : slots + 40 ≤ 7058495)
    (kk : ∀ (H2 : Heap) (locs2 : List Loc) (ls2 : Array Slot), LI D cI cZ cO cJ s.heap.size e0 x0 m0 ou H2 → va_S (Zs s) s.heap H2 locs2 → lv_has ls2 7 [(0, .ref b), (1, .ref x0), (2, .ref m0), (3, .ref ou), (4, .int (nI i))] → W p l e room_1 s m #[Value.ref b] below meth c H2 locs2 (cells + 4) (slots + 40) Q (F0 m 1565 ls2 [])) : W p l e room_1 s m #[Value.ref b] below meth c H locs cells slots Q (F0 m 793 ls []) := by
  obtain ⟨⟨hx, hb, hml, hown, hts⟩, ⟨hX, hbl, hLx⟩, ⟨hl0, hK, hKJ⟩, hWF⟩ := hC
  obtain ⟨F, ik, kp, tu, n, k0, ad, w, he, gv, gp, gb, ob, nm, lo, L, f, tg, AD, mc, hok, ⟨hL, hLz, hx0, he0, hP, hR⟩, ⟨had, hm0, hMX⟩, hou, houz, hPo⟩ := hI
  subst hx0
  subst he0
  subst hm0
  obtain ⟨ow, mp, nm5, gb5, ob5, g, hg, -, hPm⟩ := hMX
  have hbA : ¬ Zs s b := Nat.not_le.mpr hbl
  have hN := hWF.1.1
  have hK2 : va_K D vwCl [(cI, .int), (cZ, .boolean)] s := hK.sub (tys' := [(cI, .int), (cZ, .boolean)]) [0, 1] rfl
  have hzH : s.heap.size ≤ H.size := hS.1
  have hadH : ∀ j, j < 16 → ad j < H.size := fun j hj => md_lt hPm hj
  have houH : ou < H.size := va_at.lt (hPo 0 _ rfl)
  have he0s := hWF.elt
  have hAz : ∀ q, (q ∈ L ∨ H.size ≤ q) ∨ q = ou → Zs s q := fun q h => h.elim (fun h => h.elim (fun h => hLz q h) (fun h => Nat.le_trans hzH h)) (fun h => by rw [h]; exact houz)
  have hAm : ∀ q, (∃ j, j < 16 ∧ q = ad j) → Zs s q := fun q ⟨j, hj, ej⟩ => by rw [ej]; exact (had.2 j hj).1
  have hne : ¬ (AD 7 0 ∈ L ∨ H.size ≤ AD 7 0) := fun hh => hh.elim (fun h => absurd (hLz _ h) (Nat.not_le.mpr he0s)) (fun h => by omega)
  have hou2 : ¬ (ou ∈ L ∨ H.size ≤ ou) := fun hh => hh.elim hou (fun h => by omega)
  have hno : ¬ ∃ j, j < 16 ∧ ou = ad j := fun ⟨j, hj, ej⟩ => (had.2 j hj).2.2 ej.symm
  refine lv_aload_n hx hb dL_law_793 rfl (lv_at hl 1 rfl) ?_
  obtain ⟨hM, hE, hBo, hw6, hZ⟩ := id hok
  have hMg : okM F g n := ⟨hg, hM.2⟩
  obtain ⟨kx, ex⟩ := hR.x.at
  refine vp_callSi (W.runV (As := []) (rest := []) ⟨hx, hb, hml, hown, hts⟩ (k_X4_folders l D cI cZ cO hR) (cwV 0 hts gL_law_X4_folders rfl rfl rfl (by decide +kernel) ⟨Nat.le_of_ble_eq_true rfl, Nat.le_of_ble_eq_true rfl⟩) ⟨rd_blind, va_recv hK hP (ci := 5) (q0 := kx) rfl ex, rd_pre hP hK hN⟩ rfl rfl hl.1 rfl (lv_room (Nat.le_of_ble_eq_true rfl)) dL_law_794 ⟨(show cells + 0 ≤ 679203 by omega), (show slots + 0 ≤ 7058495 by omega)⟩) (fun r7 er => ?_)
  rw [er]
  refine lv_aload_n hx hb dL_law_797 rfl (lv_at hl 2 rfl) ?_
  have hCX : CX D cI cO (fun q => q ∈ L ∨ H.size ≤ q) (AD 0 0) (AD 7 0) F ik kp tu n H := ⟨he, gv, gp, gb, ob, nm, lo, L, f, tg, AD, mc, hL, fun a h => Or.inl h, rfl, rfl, hP, hR⟩
  refine va_calli (va_runV (As := []) (rest := [.int (nI n)]) ⟨hx, hb, hml, hown, hts⟩ (m_folders l D cI cZ ad (fun q => ∃ j, j < 16 ∧ q = ad j) F ow mp nm5 gb5 ob5 ik kp tu g (ad_self had)) (cwV 0 hts gL_law_X5_folders rfl rfl rfl (by decide +kernel) ⟨Nat.le_of_ble_eq_true rfl, Nat.le_of_ble_eq_true rfl⟩) ⟨rd_blind, va_recv hK2 hPm (ci := 6) (q0 := 0) rfl rfl, rd_pre hPm hK2 hN⟩ rfl rfl hl.1 rfl (lv_room (Nat.le_of_ble_eq_true rfl)) dL_law_798 ⟨(show cells + 0 ≤ 679203 by omega), (show slots + 0 ≤ 7058495 by omega)⟩) hS (fun q _ h => hAm q h) hAm (fun r8 u8 t2 H2 locs2 ht2 hvm2 hw8 hM8 hz2 hk2 hS2 => ?_)
  rw [ht2] at hM8
  rw [hw8, hg]
  refine lv_icmp_eq (tgt := 1565) hx hb dL_law_801 (by decide) (fun _ => ?_) (fun h9 => absurd rfl h9)
  refine W.widen (k := cells + 4) (n := slots + 40) (by omega) (by omega) ?_
  exact kk H2 locs2 ls (LI.step hLz had rfl hadH hou houz houH hzH hok hCX hPo ⟨ow, mp, nm5, gb5, ob5, va_up g 19 0, hg, rfl, hM8⟩ hk2) hS2 hl
set_option maxHeartbeats 800000 in
set_option maxRecDepth 100000 in
theorem lc_9 {p : Program} {l : Launch} {e : Env} {s : State} {m : MethodId} {below : List Frame} {meth : Method} {c : Code} {b Lx : Nat} {xs : Nat → Int32} {D : va_G} {cI cZ cO cJ : ClassId} {e0 mi x0 m0 ou : Nat} (hC : LX p l s m c b Lx xs D cI cZ cO cJ e0 mi) {H : Heap} {locs : List Loc} {cells slots : Nat} (hI : LI D cI cZ cO cJ s.heap.size e0 x0 m0 ou H) (hS : va_S (Zs s) s.heap H locs) {i : Nat} (hi : i + 6 ≤ Lx) {Q : State → Prop} {ls : Array Slot} (hl : lv_has ls 7 [(0, .ref b), (1, .ref x0), (2, .ref m0), (3, .ref ou), (4, .int (nI i))]) (hc : cells + 4 ≤ 679203) (hs : slots + 40 ≤ 7058495)
    (kk : ∀ (H2 : Heap) (locs2 : List Loc) (ls2 : Array Slot), LI D cI cZ cO cJ s.heap.size e0 x0 m0 ou H2 → va_S (Zs s) s.heap H2 locs2 → lv_has ls2 7 [(0, .ref b), (1, .ref x0), (2, .ref m0), (3, .ref ou), (4, .int (nI i))] → W p l e room_1 s m #[Value.ref b] below meth c H2 locs2 (cells + 4) (slots + 40) Q (F0 m 1565 ls2 [])) : W p l e room_1 s m #[Value.ref b] below meth c H locs cells slots Q (F0 m 806 ls []) := by
  obtain ⟨⟨hx, hb, hml, hown, hts⟩, ⟨hX, hbl, hLx⟩, ⟨hl0, hK, hKJ⟩, hWF⟩ := hC
  obtain ⟨F, ik, kp, tu, n, k0, ad, w, he, gv, gp, gb, ob, nm, lo, L, f, tg, AD, mc, hok, ⟨hL, hLz, hx0, he0, hP, hR⟩, ⟨had, hm0, hMX⟩, hou, houz, hPo⟩ := hI
  subst hx0
  subst he0
  subst hm0
  obtain ⟨ow, mp, nm5, gb5, ob5, g, hg, -, hPm⟩ := hMX
  have hbA : ¬ Zs s b := Nat.not_le.mpr hbl
  have hN := hWF.1.1
  have hK2 : va_K D vwCl [(cI, .int), (cZ, .boolean)] s := hK.sub (tys' := [(cI, .int), (cZ, .boolean)]) [0, 1] rfl
  have hzH : s.heap.size ≤ H.size := hS.1
  have hadH : ∀ j, j < 16 → ad j < H.size := fun j hj => md_lt hPm hj
  have houH : ou < H.size := va_at.lt (hPo 0 _ rfl)
  have he0s := hWF.elt
  have hAz : ∀ q, (q ∈ L ∨ H.size ≤ q) ∨ q = ou → Zs s q := fun q h => h.elim (fun h => h.elim (fun h => hLz q h) (fun h => Nat.le_trans hzH h)) (fun h => by rw [h]; exact houz)
  have hAm : ∀ q, (∃ j, j < 16 ∧ q = ad j) → Zs s q := fun q ⟨j, hj, ej⟩ => by rw [ej]; exact (had.2 j hj).1
  have hne : ¬ (AD 7 0 ∈ L ∨ H.size ≤ AD 7 0) := fun hh => hh.elim (fun h => absurd (hLz _ h) (Nat.not_le.mpr he0s)) (fun h => by omega)
  have hou2 : ¬ (ou ∈ L ∨ H.size ≤ ou) := fun hh => hh.elim hou (fun h => by omega)
  have hno : ¬ ∃ j, j < 16 ∧ ou = ad j := fun ⟨j, hj, ej⟩ => (had.2 j hj).2.2 ej.symm
  refine lv_aload_n hx hb dL_law_806 rfl (lv_at hl 1 rfl) ?_
  refine lv_aload_n hx hb dL_law_807 rfl (lv_at hl 0 rfl) ?_
  refine lv_iload hx hb dL_law_808 (lv_at hl 4 rfl) ?_
  refine lv_iconst (v := 1) hx hb dL_law_810 (by decide) ?_
  refine top_eq (y := nI 1) rfl ?_
  refine iadd_n (x := i) (y := 1) hx hb dL_law_811 ?_
  refine ld_s (k := i + 1) hx hb hX hbl hbA hS (by omega) (by omega) dL_law_812 ?_
  refine lv_aload_n hx hb dL_law_813 rfl (lv_at hl 0 rfl) ?_
  refine lv_iload hx hb dL_law_814 (lv_at hl 4 rfl) ?_
  refine lv_iconst (v := 2) hx hb dL_law_816 (by decide) ?_
  refine top_eq (y := nI 2) rfl ?_
  refine iadd_n (x := i) (y := 2) hx hb dL_law_817 ?_
  refine ld_s (k := i + 2) hx hb hX hbl hbA hS (by omega) (by omega) dL_law_818 ?_
  refine lv_aload_n hx hb dL_law_819 rfl (lv_at hl 3 rfl) ?_
  obtain ⟨k, r, F', ik', kp', tu', n', hok', hHC, hMC⟩ := pr_rights (l := l) (D := D) (cI := cI) (cZ := cZ) (cO := cO) (cJ := cJ) hl0 hok hR hL (A := fun q => q ∈ L ∨ H.size ≤ q) (fun a h => Or.inl h) (z := H.size) (mi := mi) (ou := ou) (w := w) (fun q h => Or.inr h) hne hou2 (ad := ad) (ow := ow) (mp := mp) (nm5 := nm5) (gb5 := gb5) (ob5 := ob5) hg (A2 := fun q => ∃ j, j < 16 ∧ q = ad j) (ad_self had) (xs (i + 1)) (xs (i + 2))
  refine va_calli (vx_runSW (As := [.ref (AD 0 0), .int (xs (i + 1)), .int (xs (i + 2)), .ref ou]) (rest := []) ⟨hx, hb, hml, hown, hts⟩ hHC (vx_cwSW 4 hts gL_law_L_rights rfl rfl rfl (by decide +kernel) ⟨Nat.le_of_ble_eq_true rfl, Nat.le_of_ble_eq_true rfl⟩) ⟨HW.blind, fun U hU hW => ⟨rfl, ⟨⟨⟨by rw [hU]; exact hP, va_K.moved hW.alike hK, hN.warm hW⟩, hWF.nx hS hU hW, hWF.fy hS (fun q h => hAz q (Or.inl h)) (Nat.le_refl _) hU hW⟩, by rw [hU]; exact hPo, va_K.moved hW.alike hKJ, hWF.1.2.1.move hW⟩⟩⟩ rfl rfl hl.1 rfl (lv_room (Nat.le_of_ble_eq_true rfl)) dL_law_820 ⟨hc, hs⟩) hS (fun q _ h => hAz q h) hAz (fun r9 w9 t H1 locs1 ht hvm hw hB hz1 hk1 hS1 => ?_)
  obtain ⟨hw1, hw2⟩ := hw
  obtain ⟨hB1, hB2⟩ := hB
  rw [ht] at hB1 hB2
  rw [hw1]
  have hPm1 := md_kept had hPm hk1
  refine lv_istore (lv' := [(5, .int k), (0, .ref b), (1, .ref (AD 0 0)), (2, .ref (ad 0)), (3, .ref ou), (4, .int (nI i))]) hx hb dL_law_823 hl (by decide) rfl (fun ls hl => ?_)
  refine lv_aload_n hx hb dL_law_825 rfl (lv_at hl 3 rfl) ?_
  refine lv_aload_n hx hb dL_law_826 rfl (lv_at hl 1 rfl) ?_
  refine lv_iload hx hb dL_law_827 (lv_at hl 5 rfl) ?_
  refine lv_iconst (v := 1) hx hb dL_law_829 (by decide) ?_
  refine top_eq (y := nI 1) rfl ?_
  refine iadd_n (x := i) (y := 1) hx hb dL_law_830 ?_
  refine ld_s (k := i + 1) hx hb hX hbl hbA hS1 (by omega) (by omega) dL_law_831 ?_
  refine lv_aload_n hx hb dL_law_832 rfl (lv_at hl 1 rfl) ?_
  refine lv_iload hx hb dL_law_833 (lv_at hl 5 rfl) ?_
  refine lv_iconst (v := 2) hx hb dL_law_835 (by decide) ?_
  refine top_eq (y := nI 2) rfl ?_
  refine iadd_n (x := i) (y := 2) hx hb dL_law_836 ?_
  refine ld_s (k := i + 2) hx hb hX hbl hbA hS1 (by omega) (by omega) dL_law_837 ?_
  refine va_calli (va_runV (As := [.int (xs (i + 1)), .int (xs (i + 2))]) (rest := []) ⟨hx, hb, hml, hown, hts⟩ hMC (cwV 2 hts gL_law_X5_rights rfl rfl rfl (by decide +kernel) ⟨Nat.le_of_ble_eq_true rfl, Nat.le_of_ble_eq_true rfl⟩) ⟨rd_blind, va_recv hK2 hPm1 (ci := 6) (q0 := 0) rfl rfl, rd_pre hPm1 hK2 hN⟩ rfl rfl hl.1 rfl (lv_room (Nat.le_of_ble_eq_true rfl)) dL_law_838 ⟨hc, hs⟩) hS1 (fun q _ h => hAm q h) hAm (fun r8 u8 t2 H2 locs2 ht2 hvm2 hw8 hM8 hz2 hk2 hS2 => ?_)
  rw [ht2] at hM8
  refine lv_istore (lv' := [(6, .int r8), (5, .int k), (0, .ref b), (1, .ref (AD 0 0)), (2, .ref (ad 0)), (3, .ref ou), (4, .int (nI i))]) hx hb dL_law_841 hl (by decide) rfl (fun ls hl => ?_)
  obtain ⟨ow8, mp8, nm8, gb8, ob8, g8, hg8, hk8, hPm8⟩ := id hM8
  have hPo2 : va_P D vwCl [(ou, lgC cJ w9)] H2 := hB2.kept (fun j q hq => hk2 q.1 (va_at.lt (hB2 j q hq)) (by have hm := List.mem_of_getElem? hq; rw [List.mem_singleton] at hm; rw [hm]; exact hno))
  refine lv_aload_n hx hb dL_law_843 rfl (lv_at hl 4 rfl) ?_
  refine vp_callSi (W.runV (As := []) (rest := []) ⟨hx, hb, hml, hown, hts⟩ (k_X5_thrown l D cI cZ ad F' ow8 mp8 nm8 gb8 ob8 ik' kp' tu' g8) (cwV 0 hts gL_law_X5_thrown rfl rfl rfl (by decide +kernel) ⟨Nat.le_of_ble_eq_true rfl, Nat.le_of_ble_eq_true rfl⟩) ⟨rd_blind, va_recv hK2 hPm8 (ci := 6) (q0 := 0) rfl rfl, rd_pre hPm8 hK2 hN⟩ rfl rfl hl.1 rfl (lv_room (Nat.le_of_ble_eq_true rfl)) dL_law_844 ⟨hc, hs⟩) (fun r7 er => ?_)
  rw [er, hk8]
  refine lv_iload hx hb dL_law_847 (lv_at hl 1 rfl) ?_
  refine lv_icmp_eq (tgt := 854) hx hb dL_law_849 (by decide) (fun _ => ?_) (fun h9 => absurd rfl h9)
  refine lv_iload hx hb dL_law_854 (lv_at hl 1 rfl) ?_
  have END : W p l e room_1 s m #[Value.ref b] below meth c H2 locs2 (cells + 4) (slots + 40) Q (F0 m 871 ls []) := by
    refine lv_goto (tgt := 1565) hx hb dL_law_871 (by decide) ?_
    exact kk H2 locs2 ls (LI.step hLz had rfl hadH hou houz houH hzH hok' hB1 hB2 hM8 hk2) hS2 (lv_sub hl [2, 3, 4, 5, 6] rfl)
  refine lv_if_ne (tgt := 871) hx hb dL_law_856 (by decide) (fun _ => END) (fun hk0 => ?_)
  have hr8 : r8 = r := hw8 hk0
  refine lv_aload_n hx hb dL_law_859 rfl (lv_at hl 5 rfl) ?_
  refine lv_iconst (v := 0) hx hb dL_law_860 (by decide) ?_
  refine top_eq (y := nI 0) rfl ?_
  refine ld_l (k := 0) hx hb hKJ hPo2 0 0 rfl rfl (by decide) (by decide) dL_law_861 ?_
  refine top_el (y := r8.toInt64) (by rw [hw2 hk0, hr8]) ?_
  refine lv_iload hx hb dL_law_862 (lv_at hl 0 rfl) ?_
  refine lv_i2l (v := r8.toInt64) hx hb dL_law_864 rfl ?_
  refine W.lcmp hx hb dL_law_865 ?_
  refine top_eq (y := 0) (lg_self _) ?_
  exact lv_if_eq (tgt := 871) hx hb dL_law_866 (by decide) (fun _ => END) (fun h9 => absurd rfl h9)
set_option maxHeartbeats 800000 in
set_option maxRecDepth 100000 in
theorem lc_10 {p : Program} {l : Launch} {e : Env} {s : State} {m : MethodId} {below : List Frame} {meth : Method} {c : Code} {b Lx : Nat} {xs : Nat → Int32} {D : va_G} {cI cZ cO cJ : ClassId} {e0 mi x0 m0 ou : Nat} (hC : LX p l s m c b Lx xs D cI cZ cO cJ e0 mi) {H : Heap} {locs : List Loc} {cells slots : Nat} (hI : LI D cI cZ cO cJ s.heap.size e0 x0 m0 ou H) (hS : va_S (Zs s) s.heap H locs) {i : Nat} (hi : i + 6 ≤ Lx) {Q : State → Prop} {ls : Array Slot} (hl : lv_has ls 7 [(0, .ref b), (1, .ref x0), (2, .ref m0), (3, .ref ou), (4, .int (nI i))]) (hc : cells + 4 ≤ 679203) (hs : slots + 40 ≤ 7058495)
    (kk : ∀ (H2 : Heap) (locs2 : List Loc) (ls2 : Array Slot), LI D cI cZ cO cJ s.heap.size e0 x0 m0 ou H2 → va_S (Zs s) s.heap H2 locs2 → lv_has ls2 7 [(0, .ref b), (1, .ref x0), (2, .ref m0), (3, .ref ou), (4, .int (nI i))] → W p l e room_1 s m #[Value.ref b] below meth c H2 locs2 (cells + 4) (slots + 40) Q (F0 m 1565 ls2 [])) : W p l e room_1 s m #[Value.ref b] below meth c H locs cells slots Q (F0 m 874 ls []) := by
  obtain ⟨⟨hx, hb, hml, hown, hts⟩, ⟨hX, hbl, hLx⟩, ⟨hl0, hK, hKJ⟩, hWF⟩ := hC
  obtain ⟨F, ik, kp, tu, n, k0, ad, w, he, gv, gp, gb, ob, nm, lo, L, f, tg, AD, mc, hok, ⟨hL, hLz, hx0, he0, hP, hR⟩, ⟨had, hm0, hMX⟩, hou, houz, hPo⟩ := hI
  subst hx0
  subst he0
  subst hm0
  obtain ⟨ow, mp, nm5, gb5, ob5, g, hg, -, hPm⟩ := hMX
  have hbA : ¬ Zs s b := Nat.not_le.mpr hbl
  have hN := hWF.1.1
  have hK2 : va_K D vwCl [(cI, .int), (cZ, .boolean)] s := hK.sub (tys' := [(cI, .int), (cZ, .boolean)]) [0, 1] rfl
  have hzH : s.heap.size ≤ H.size := hS.1
  have hadH : ∀ j, j < 16 → ad j < H.size := fun j hj => md_lt hPm hj
  have houH : ou < H.size := va_at.lt (hPo 0 _ rfl)
  have he0s := hWF.elt
  have hAz : ∀ q, (q ∈ L ∨ H.size ≤ q) ∨ q = ou → Zs s q := fun q h => h.elim (fun h => h.elim (fun h => hLz q h) (fun h => Nat.le_trans hzH h)) (fun h => by rw [h]; exact houz)
  have hAm : ∀ q, (∃ j, j < 16 ∧ q = ad j) → Zs s q := fun q ⟨j, hj, ej⟩ => by rw [ej]; exact (had.2 j hj).1
  have hne : ¬ (AD 7 0 ∈ L ∨ H.size ≤ AD 7 0) := fun hh => hh.elim (fun h => absurd (hLz _ h) (Nat.not_le.mpr he0s)) (fun h => by omega)
  have hou2 : ¬ (ou ∈ L ∨ H.size ≤ ou) := fun hh => hh.elim hou (fun h => by omega)
  have hno : ¬ ∃ j, j < 16 ∧ ou = ad j := fun ⟨j, hj, ej⟩ => (had.2 j hj).2.2 ej.symm
  refine lv_aload_n hx hb dL_law_874 rfl (lv_at hl 1 rfl) ?_
  refine lv_aload_n hx hb dL_law_875 rfl (lv_at hl 0 rfl) ?_
  refine lv_iload hx hb dL_law_876 (lv_at hl 4 rfl) ?_
  refine lv_iconst (v := 1) hx hb dL_law_878 (by decide) ?_
  refine top_eq (y := nI 1) rfl ?_
  refine iadd_n (x := i) (y := 1) hx hb dL_law_879 ?_
  refine ld_s (k := i + 1) hx hb hX hbl hbA hS (by omega) (by omega) dL_law_880 ?_
  refine lv_aload_n hx hb dL_law_881 rfl (lv_at hl 0 rfl) ?_
  refine lv_iload hx hb dL_law_882 (lv_at hl 4 rfl) ?_
  refine lv_iconst (v := 2) hx hb dL_law_884 (by decide) ?_
  refine top_eq (y := nI 2) rfl ?_
  refine iadd_n (x := i) (y := 2) hx hb dL_law_885 ?_
  refine ld_s (k := i + 2) hx hb hX hbl hbA hS (by omega) (by omega) dL_law_886 ?_
  refine lv_aload_n hx hb dL_law_887 rfl (lv_at hl 3 rfl) ?_
  obtain ⟨k, r, F', ik', kp', tu', n', hok', hHC, hMC⟩ := pr_rightsBackwards (l := l) (D := D) (cI := cI) (cZ := cZ) (cO := cO) (cJ := cJ) hl0 hok hR hL (A := fun q => q ∈ L ∨ H.size ≤ q) (fun a h => Or.inl h) (z := H.size) (mi := mi) (ou := ou) (w := w) (fun q h => Or.inr h) hne hou2 (ad := ad) (ow := ow) (mp := mp) (nm5 := nm5) (gb5 := gb5) (ob5 := ob5) hg (A2 := fun q => ∃ j, j < 16 ∧ q = ad j) (ad_self had) (xs (i + 1)) (xs (i + 2))
  refine va_calli (vx_runSW (As := [.ref (AD 0 0), .int (xs (i + 1)), .int (xs (i + 2)), .ref ou]) (rest := []) ⟨hx, hb, hml, hown, hts⟩ hHC (vx_cwSW 4 hts gL_law_L_rightsBackwards rfl rfl rfl (by decide +kernel) ⟨Nat.le_of_ble_eq_true rfl, Nat.le_of_ble_eq_true rfl⟩) ⟨HW.blind, fun U hU hW => ⟨rfl, ⟨⟨⟨by rw [hU]; exact hP, va_K.moved hW.alike hK, hN.warm hW⟩, hWF.nx hS hU hW, hWF.fy hS (fun q h => hAz q (Or.inl h)) (Nat.le_refl _) hU hW⟩, by rw [hU]; exact hPo, va_K.moved hW.alike hKJ, hWF.1.2.1.move hW⟩⟩⟩ rfl rfl hl.1 rfl (lv_room (Nat.le_of_ble_eq_true rfl)) dL_law_888 ⟨hc, hs⟩) hS (fun q _ h => hAz q h) hAz (fun r9 w9 t H1 locs1 ht hvm hw hB hz1 hk1 hS1 => ?_)
  obtain ⟨hw1, hw2⟩ := hw
  obtain ⟨hB1, hB2⟩ := hB
  rw [ht] at hB1 hB2
  rw [hw1]
  have hPm1 := md_kept had hPm hk1
  refine lv_istore (lv' := [(5, .int k), (0, .ref b), (1, .ref (AD 0 0)), (2, .ref (ad 0)), (3, .ref ou), (4, .int (nI i))]) hx hb dL_law_891 hl (by decide) rfl (fun ls hl => ?_)
  refine lv_aload_n hx hb dL_law_893 rfl (lv_at hl 3 rfl) ?_
  refine lv_aload_n hx hb dL_law_894 rfl (lv_at hl 1 rfl) ?_
  refine lv_iload hx hb dL_law_895 (lv_at hl 5 rfl) ?_
  refine lv_iconst (v := 1) hx hb dL_law_897 (by decide) ?_
  refine top_eq (y := nI 1) rfl ?_
  refine iadd_n (x := i) (y := 1) hx hb dL_law_898 ?_
  refine ld_s (k := i + 1) hx hb hX hbl hbA hS1 (by omega) (by omega) dL_law_899 ?_
  refine lv_aload_n hx hb dL_law_900 rfl (lv_at hl 1 rfl) ?_
  refine lv_iload hx hb dL_law_901 (lv_at hl 5 rfl) ?_
  refine lv_iconst (v := 2) hx hb dL_law_903 (by decide) ?_
  refine top_eq (y := nI 2) rfl ?_
  refine iadd_n (x := i) (y := 2) hx hb dL_law_904 ?_
  refine ld_s (k := i + 2) hx hb hX hbl hbA hS1 (by omega) (by omega) dL_law_905 ?_
  refine va_calli (va_runV (As := [.int (xs (i + 1)), .int (xs (i + 2))]) (rest := []) ⟨hx, hb, hml, hown, hts⟩ hMC (cwV 2 hts gL_law_X5_rightsBackwards rfl rfl rfl (by decide +kernel) ⟨Nat.le_of_ble_eq_true rfl, Nat.le_of_ble_eq_true rfl⟩) ⟨rd_blind, va_recv hK2 hPm1 (ci := 6) (q0 := 0) rfl rfl, rd_pre hPm1 hK2 hN⟩ rfl rfl hl.1 rfl (lv_room (Nat.le_of_ble_eq_true rfl)) dL_law_906 ⟨hc, hs⟩) hS1 (fun q _ h => hAm q h) hAm (fun r8 u8 t2 H2 locs2 ht2 hvm2 hw8 hM8 hz2 hk2 hS2 => ?_)
  rw [ht2] at hM8
  refine lv_istore (lv' := [(6, .int r8), (5, .int k), (0, .ref b), (1, .ref (AD 0 0)), (2, .ref (ad 0)), (3, .ref ou), (4, .int (nI i))]) hx hb dL_law_909 hl (by decide) rfl (fun ls hl => ?_)
  obtain ⟨ow8, mp8, nm8, gb8, ob8, g8, hg8, hk8, hPm8⟩ := id hM8
  have hPo2 : va_P D vwCl [(ou, lgC cJ w9)] H2 := hB2.kept (fun j q hq => hk2 q.1 (va_at.lt (hB2 j q hq)) (by have hm := List.mem_of_getElem? hq; rw [List.mem_singleton] at hm; rw [hm]; exact hno))
  refine lv_aload_n hx hb dL_law_911 rfl (lv_at hl 4 rfl) ?_
  refine vp_callSi (W.runV (As := []) (rest := []) ⟨hx, hb, hml, hown, hts⟩ (k_X5_thrown l D cI cZ ad F' ow8 mp8 nm8 gb8 ob8 ik' kp' tu' g8) (cwV 0 hts gL_law_X5_thrown rfl rfl rfl (by decide +kernel) ⟨Nat.le_of_ble_eq_true rfl, Nat.le_of_ble_eq_true rfl⟩) ⟨rd_blind, va_recv hK2 hPm8 (ci := 6) (q0 := 0) rfl rfl, rd_pre hPm8 hK2 hN⟩ rfl rfl hl.1 rfl (lv_room (Nat.le_of_ble_eq_true rfl)) dL_law_912 ⟨hc, hs⟩) (fun r7 er => ?_)
  rw [er, hk8]
  refine lv_iload hx hb dL_law_915 (lv_at hl 1 rfl) ?_
  refine lv_icmp_eq (tgt := 922) hx hb dL_law_917 (by decide) (fun _ => ?_) (fun h9 => absurd rfl h9)
  refine lv_iload hx hb dL_law_922 (lv_at hl 1 rfl) ?_
  have END : W p l e room_1 s m #[Value.ref b] below meth c H2 locs2 (cells + 4) (slots + 40) Q (F0 m 939 ls []) := by
    refine lv_goto (tgt := 1565) hx hb dL_law_939 (by decide) ?_
    exact kk H2 locs2 ls (LI.step hLz had rfl hadH hou houz houH hzH hok' hB1 hB2 hM8 hk2) hS2 (lv_sub hl [2, 3, 4, 5, 6] rfl)
  refine lv_if_ne (tgt := 939) hx hb dL_law_924 (by decide) (fun _ => END) (fun hk0 => ?_)
  have hr8 : r8 = r := hw8 hk0
  refine lv_aload_n hx hb dL_law_927 rfl (lv_at hl 5 rfl) ?_
  refine lv_iconst (v := 0) hx hb dL_law_928 (by decide) ?_
  refine top_eq (y := nI 0) rfl ?_
  refine ld_l (k := 0) hx hb hKJ hPo2 0 0 rfl rfl (by decide) (by decide) dL_law_929 ?_
  refine top_el (y := r8.toInt64) (by rw [hw2 hk0, hr8]) ?_
  refine lv_iload hx hb dL_law_930 (lv_at hl 0 rfl) ?_
  refine lv_i2l (v := r8.toInt64) hx hb dL_law_932 rfl ?_
  refine W.lcmp hx hb dL_law_933 ?_
  refine top_eq (y := 0) (lg_self _) ?_
  exact lv_if_eq (tgt := 939) hx hb dL_law_934 (by decide) (fun _ => END) (fun h9 => absurd rfl h9)
