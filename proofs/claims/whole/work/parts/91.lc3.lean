set_option maxHeartbeats 800000 in
set_option maxRecDepth 100000 in
theorem lc_11 {p : Program} {l : Launch} {e : Env} {s : State} {m : MethodId} {below : List Frame} {meth : Method} {c : Code} {b Lx : Nat} {xs : Nat → Int32} {D : va_G} {cI cZ cO cJ : ClassId} {e0 mi x0 m0 ou : Nat} (hC : LX p l s m c b Lx xs D cI cZ cO cJ e0 mi) {H : Heap} {locs : List Loc} {cells slots : Nat} (hI : LI D cI cZ cO cJ s.heap.size e0 x0 m0 ou H) (hS : va_S (Zs s) s.heap H locs) {i : Nat} (hi : i + 6 ≤ Lx) {Q : State → Prop} {ls : Array Slot} (hl : lv_has ls 7 [(0, .ref b), (1, .ref x0), (2, .ref m0), (3, .ref ou), (4, .int (nI i))]) (hc : cells + 4 ≤ 679203) (hs : slots + 40 ≤ 7058495)
    (kk : ∀ (H2 : Heap) (locs2 : List Loc) (ls2 : Array Slot), LI D cI cZ cO cJ s.heap.size e0 x0 m0 ou H2 → va_S (Zs s) s.heap H2 locs2 → lv_has ls2 7 [(0, .ref b), (1, .ref x0), (2, .ref m0), (3, .ref ou), (4, .int (nI i))] → W p l e room_1 s m #[Value.ref b] below meth c H2 locs2 (cells + 4) (slots + 40) Q (F0 m 1565 ls2 [])) : W p l e room_1 s m #[Value.ref b] below meth c H locs cells slots Q (F0 m 942 ls []) := by
  obtain ⟨⟨hx, hb, hml, hown, hts⟩, ⟨hX, hbl, hLx⟩, ⟨hl0, hK, hKJ⟩, hWF⟩ := hC
  obtain ⟨F, ik, kp, tu, n, k0, ad, w, he, gv, gp, gb, ob, nm, lo, L, f, tg, AD, mc, hok, ⟨hL, hLz, hx0, he0, hP, hR⟩, ⟨had, hm0, hMX⟩, hou, houz, hPo⟩ := hI
  subst hx0
  subst he0
  subst hm0
  obtain ⟨ow, mp, nm5, gb5, ob5, g, hg, -, hPm⟩ := hMX
  have hbA : ¬ Zs s b := Nat.not_le.mpr hbl
  have hN := hWF.1.1
  have hK2 : va_K D vwCl [(cI, .int), (cZ, .boolean)] s := hK.sub (tys' := [(cI, .int), (cZ, .boolean)]) [0, 1] rfl
  have hzH : s.heap.size ≤ H.size := hS.1
  have hadH : ∀ j, j < 16 → ad j < H.size := fun j hj => md_lt hPm hj
  have houH : ou < H.size := va_at.lt (hPo 0 _ rfl)
  have he0s := hWF.elt
  have hAz : ∀ q, (q ∈ L ∨ H.size ≤ q) ∨ q = ou → Zs s q := fun q h => h.elim (fun h => h.elim (fun h => hLz q h) (fun h => Nat.le_trans hzH h)) (fun h => by rw [h]; exact houz)
  have hAm : ∀ q, (∃ j, j < 16 ∧ q = ad j) → Zs s q := fun q ⟨j, hj, ej⟩ => by rw [ej]; exact (had.2 j hj).1
  have hne : ¬ (AD 7 0 ∈ L ∨ H.size ≤ AD 7 0) := fun hh => hh.elim (fun h => absurd (hLz _ h) (Nat.not_le.mpr he0s)) (fun h => by omega)
  have hou2 : ¬ (ou ∈ L ∨ H.size ≤ ou) := fun hh => hh.elim hou (fun h => by omega)
  have hno : ¬ ∃ j, j < 16 ∧ ou = ad j := fun ⟨j, hj, ej⟩ => (had.2 j hj).2.2 ej.symm
  refine lv_aload_n hx hb dL_law_942 rfl (lv_at hl 1 rfl) ?_
  refine lv_aload_n hx hb dL_law_943 rfl (lv_at hl 0 rfl) ?_
  refine lv_iload hx hb dL_law_944 (lv_at hl 4 rfl) ?_
  refine lv_iconst (v := 1) hx hb dL_law_946 (by decide) ?_
  refine top_eq (y := nI 1) rfl ?_
  refine iadd_n (x := i) (y := 1) hx hb dL_law_947 ?_
  refine ld_s (k := i + 1) hx hb hX hbl hbA hS (by omega) (by omega) dL_law_948 ?_
  refine lv_aload_n hx hb dL_law_949 rfl (lv_at hl 3 rfl) ?_
  obtain ⟨k, r, F', ik', kp', tu', n', hok', hHC, hMC⟩ := pr_groupOf (l := l) (D := D) (cI := cI) (cZ := cZ) (cO := cO) (cJ := cJ) hl0 hok hR hL (A := fun q => q ∈ L ∨ H.size ≤ q) (fun a h => Or.inl h) (z := H.size) (mi := mi) (ou := ou) (w := w) (fun q h => Or.inr h) hne hou2 (ad := ad) (ow := ow) (mp := mp) (nm5 := nm5) (gb5 := gb5) (ob5 := ob5) hg (A2 := fun q => ∃ j, j < 16 ∧ q = ad j) (ad_self had) (xs (i + 1))
  refine va_calli (vx_runSW (As := [.ref (AD 0 0), .int (xs (i + 1)), .ref ou]) (rest := []) ⟨hx, hb, hml, hown, hts⟩ hHC (vx_cwSW 3 hts gL_law_L_groupOf rfl rfl rfl (by decide +kernel) ⟨Nat.le_of_ble_eq_true rfl, Nat.le_of_ble_eq_true rfl⟩) ⟨HW.blind, fun U hU hW => ⟨rfl, ⟨⟨⟨by rw [hU]; exact hP, va_K.moved hW.alike hK, hN.warm hW⟩, hWF.nx hS hU hW, hWF.fy hS (fun q h => hAz q (Or.inl h)) (Nat.le_refl _) hU hW⟩, by rw [hU]; exact hPo, va_K.moved hW.alike hKJ, hWF.1.2.1.move hW⟩⟩⟩ rfl rfl hl.1 rfl (lv_room (Nat.le_of_ble_eq_true rfl)) dL_law_950 ⟨hc, hs⟩) hS (fun q _ h => hAz q h) hAz (fun r9 w9 t H1 locs1 ht hvm hw hB hz1 hk1 hS1 => ?_)
  obtain ⟨hw1, hw2⟩ := hw
  obtain ⟨hB1, hB2⟩ := hB
  rw [ht] at hB1 hB2
  rw [hw1]
  have hPm1 := md_kept had hPm hk1
  refine lv_istore (lv' := [(5, .int k), (0, .ref b), (1, .ref (AD 0 0)), (2, .ref (ad 0)), (3, .ref ou), (4, .int (nI i))]) hx hb dL_law_953 hl (by decide) rfl (fun ls hl => ?_)
  refine lv_aload_n hx hb dL_law_955 rfl (lv_at hl 3 rfl) ?_
  refine lv_aload_n hx hb dL_law_956 rfl (lv_at hl 1 rfl) ?_
  refine lv_iload hx hb dL_law_957 (lv_at hl 5 rfl) ?_
  refine lv_iconst (v := 1) hx hb dL_law_959 (by decide) ?_
  refine top_eq (y := nI 1) rfl ?_
  refine iadd_n (x := i) (y := 1) hx hb dL_law_960 ?_
  refine ld_s (k := i + 1) hx hb hX hbl hbA hS1 (by omega) (by omega) dL_law_961 ?_
  refine va_calli (va_runV (As := [.int (xs (i + 1))]) (rest := []) ⟨hx, hb, hml, hown, hts⟩ hMC (cwV 1 hts gL_law_X5_groupOf rfl rfl rfl (by decide +kernel) ⟨Nat.le_of_ble_eq_true rfl, Nat.le_of_ble_eq_true rfl⟩) ⟨rd_blind, va_recv hK2 hPm1 (ci := 6) (q0 := 0) rfl rfl, rd_pre hPm1 hK2 hN⟩ rfl rfl hl.1 rfl (lv_room (Nat.le_of_ble_eq_true rfl)) dL_law_962 ⟨hc, hs⟩) hS1 (fun q _ h => hAm q h) hAm (fun r8 u8 t2 H2 locs2 ht2 hvm2 hw8 hM8 hz2 hk2 hS2 => ?_)
  rw [ht2] at hM8
  refine lv_istore (lv' := [(6, .int r8), (5, .int k), (0, .ref b), (1, .ref (AD 0 0)), (2, .ref (ad 0)), (3, .ref ou), (4, .int (nI i))]) hx hb dL_law_965 hl (by decide) rfl (fun ls hl => ?_)
  obtain ⟨ow8, mp8, nm8, gb8, ob8, g8, hg8, hk8, hPm8⟩ := id hM8
  have hPo2 : va_P D vwCl [(ou, lgC cJ w9)] H2 := hB2.kept (fun j q hq => hk2 q.1 (va_at.lt (hB2 j q hq)) (by have hm := List.mem_of_getElem? hq; rw [List.mem_singleton] at hm; rw [hm]; exact hno))
  refine lv_aload_n hx hb dL_law_967 rfl (lv_at hl 4 rfl) ?_
  refine vp_callSi (W.runV (As := []) (rest := []) ⟨hx, hb, hml, hown, hts⟩ (k_X5_thrown l D cI cZ ad F' ow8 mp8 nm8 gb8 ob8 ik' kp' tu' g8) (cwV 0 hts gL_law_X5_thrown rfl rfl rfl (by decide +kernel) ⟨Nat.le_of_ble_eq_true rfl, Nat.le_of_ble_eq_true rfl⟩) ⟨rd_blind, va_recv hK2 hPm8 (ci := 6) (q0 := 0) rfl rfl, rd_pre hPm8 hK2 hN⟩ rfl rfl hl.1 rfl (lv_room (Nat.le_of_ble_eq_true rfl)) dL_law_968 ⟨hc, hs⟩) (fun r7 er => ?_)
  rw [er, hk8]
  refine lv_iload hx hb dL_law_971 (lv_at hl 1 rfl) ?_
  refine lv_icmp_eq (tgt := 978) hx hb dL_law_973 (by decide) (fun _ => ?_) (fun h9 => absurd rfl h9)
  refine lv_iload hx hb dL_law_978 (lv_at hl 1 rfl) ?_
  have END : W p l e room_1 s m #[Value.ref b] below meth c H2 locs2 (cells + 4) (slots + 40) Q (F0 m 995 ls []) := by
    refine lv_goto (tgt := 1565) hx hb dL_law_995 (by decide) ?_
    exact kk H2 locs2 ls (LI.step hLz had rfl hadH hou houz houH hzH hok' hB1 hB2 hM8 hk2) hS2 (lv_sub hl [2, 3, 4, 5, 6] rfl)
  refine lv_if_ne (tgt := 995) hx hb dL_law_980 (by decide) (fun _ => END) (fun hk0 => ?_)
  have hr8 : r8 = r := hw8 hk0
  refine lv_aload_n hx hb dL_law_983 rfl (lv_at hl 5 rfl) ?_
  refine lv_iconst (v := 0) hx hb dL_law_984 (by decide) ?_
  refine top_eq (y := nI 0) rfl ?_
  refine ld_l (k := 0) hx hb hKJ hPo2 0 0 rfl rfl (by decide) (by decide) dL_law_985 ?_
  refine top_el (y := r8.toInt64) (by rw [hw2 hk0, hr8]) ?_
  refine lv_iload hx hb dL_law_986 (lv_at hl 0 rfl) ?_
  refine lv_i2l (v := r8.toInt64) hx hb dL_law_988 rfl ?_
  refine W.lcmp hx hb dL_law_989 ?_
  refine top_eq (y := 0) (lg_self _) ?_
  exact lv_if_eq (tgt := 995) hx hb dL_law_990 (by decide) (fun _ => END) (fun h9 => absurd rfl h9)
set_option maxHeartbeats 800000 in
set_option maxRecDepth 100000 in
theorem lc_12 {p : Program} {l : Launch} {e : Env} {s : State} {m : MethodId} {below : List Frame} {meth : Method} {c : Code} {b Lx : Nat} {xs : Nat → Int32} {D : va_G} {cI cZ cO cJ : ClassId} {e0 mi x0 m0 ou : Nat} (hC : LX p l s m c b Lx xs D cI cZ cO cJ e0 mi) {H : Heap} {locs : List Loc} {cells slots : Nat} (hI : LI D cI cZ cO cJ s.heap.size e0 x0 m0 ou H) (hS : va_S (Zs s) s.heap H locs) {i : Nat} (hi : i + 6 ≤ Lx) {Q : State → Prop} {ls : Array Slot} (hl : lv_has ls 7 [(0, .ref b), (1, .ref x0), (2, .ref m0), (3, .ref ou), (4, .int (nI i))]) (hc : cells + 4 ≤ 679203) (hs : slots + 40 ≤ 7058495)
    (kk : ∀ (H2 : Heap) (locs2 : List Loc) (ls2 : Array Slot), LI D cI cZ cO cJ s.heap.size e0 x0 m0 ou H2 → va_S (Zs s) s.heap H2 locs2 → lv_has ls2 7 [(0, .ref b), (1, .ref x0), (2, .ref m0), (3, .ref ou), (4, .int (nI i))] → W p l e room_1 s m #[Value.ref b] below meth c H2 locs2 (cells + 4) (slots + 40) Q (F0 m 1565 ls2 [])) : W p l e room_1 s m #[Value.ref b] below meth c H locs cells slots Q (F0 m 998 ls []) := by
  obtain ⟨⟨hx, hb, hml, hown, hts⟩, ⟨hX, hbl, hLx⟩, ⟨hl0, hK, hKJ⟩, hWF⟩ := hC
  obtain ⟨F, ik, kp, tu, n, k0, ad, w, he, gv, gp, gb, ob, nm, lo, L, f, tg, AD, mc, hok, ⟨hL, hLz, hx0, he0, hP, hR⟩, ⟨had, hm0, hMX⟩, hou, houz, hPo⟩ := hI
  subst hx0
  subst he0
  subst hm0
  obtain ⟨ow, mp, nm5, gb5, ob5, g, hg, -, hPm⟩ := hMX
  have hbA : ¬ Zs s b := Nat.not_le.mpr hbl
  have hN := hWF.1.1
  have hK2 : va_K D vwCl [(cI, .int), (cZ, .boolean)] s := hK.sub (tys' := [(cI, .int), (cZ, .boolean)]) [0, 1] rfl
  have hzH : s.heap.size ≤ H.size := hS.1
  have hadH : ∀ j, j < 16 → ad j < H.size := fun j hj => md_lt hPm hj
  have houH : ou < H.size := va_at.lt (hPo 0 _ rfl)
  have he0s := hWF.elt
  have hAz : ∀ q, (q ∈ L ∨ H.size ≤ q) ∨ q = ou → Zs s q := fun q h => h.elim (fun h => h.elim (fun h => hLz q h) (fun h => Nat.le_trans hzH h)) (fun h => by rw [h]; exact houz)
  have hAm : ∀ q, (∃ j, j < 16 ∧ q = ad j) → Zs s q := fun q ⟨j, hj, ej⟩ => by rw [ej]; exact (had.2 j hj).1
  have hne : ¬ (AD 7 0 ∈ L ∨ H.size ≤ AD 7 0) := fun hh => hh.elim (fun h => absurd (hLz _ h) (Nat.not_le.mpr he0s)) (fun h => by omega)
  have hou2 : ¬ (ou ∈ L ∨ H.size ≤ ou) := fun hh => hh.elim hou (fun h => by omega)
  have hno : ¬ ∃ j, j < 16 ∧ ou = ad j := fun ⟨j, hj, ej⟩ => (had.2 j hj).2.2 ej.symm
  refine lv_aload_n hx hb dL_law_998 rfl (lv_at hl 1 rfl) ?_
  refine lv_aload_n hx hb dL_law_999 rfl (lv_at hl 0 rfl) ?_
  refine lv_iload hx hb dL_law_1000 (lv_at hl 4 rfl) ?_
  refine lv_iconst (v := 1) hx hb dL_law_1002 (by decide) ?_
  refine top_eq (y := nI 1) rfl ?_
  refine iadd_n (x := i) (y := 1) hx hb dL_law_1003 ?_
  refine ld_s (k := i + 1) hx hb hX hbl hbA hS (by omega) (by omega) dL_law_1004 ?_
  refine lv_aload_n hx hb dL_law_1005 rfl (lv_at hl 3 rfl) ?_
  obtain ⟨k, r, F', ik', kp', tu', n', hok', hHC, hMC⟩ := pr_bits (l := l) (D := D) (cI := cI) (cZ := cZ) (cO := cO) (cJ := cJ) hl0 hok hR hL (A := fun q => q ∈ L ∨ H.size ≤ q) (fun a h => Or.inl h) (z := H.size) (mi := mi) (ou := ou) (w := w) (fun q h => Or.inr h) hne hou2 (ad := ad) (ow := ow) (mp := mp) (nm5 := nm5) (gb5 := gb5) (ob5 := ob5) hg (A2 := fun q => ∃ j, j < 16 ∧ q = ad j) (ad_self had) (xs (i + 1))
  refine va_calli (vx_runSW (As := [.ref (AD 0 0), .int (xs (i + 1)), .ref ou]) (rest := []) ⟨hx, hb, hml, hown, hts⟩ hHC (vx_cwSW 3 hts gL_law_L_bits rfl rfl rfl (by decide +kernel) ⟨Nat.le_of_ble_eq_true rfl, Nat.le_of_ble_eq_true rfl⟩) ⟨HW.blind, fun U hU hW => ⟨rfl, ⟨⟨⟨by rw [hU]; exact hP, va_K.moved hW.alike hK, hN.warm hW⟩, hWF.nx hS hU hW, hWF.fy hS (fun q h => hAz q (Or.inl h)) (Nat.le_refl _) hU hW⟩, by rw [hU]; exact hPo, va_K.moved hW.alike hKJ, hWF.1.2.1.move hW⟩⟩⟩ rfl rfl hl.1 rfl (lv_room (Nat.le_of_ble_eq_true rfl)) dL_law_1006 ⟨hc, hs⟩) hS (fun q _ h => hAz q h) hAz (fun r9 w9 t H1 locs1 ht hvm hw hB hz1 hk1 hS1 => ?_)
  obtain ⟨hw1, hw2⟩ := hw
  obtain ⟨hB1, hB2⟩ := hB
  rw [ht] at hB1 hB2
  rw [hw1]
  have hPm1 := md_kept had hPm hk1
  refine lv_istore (lv' := [(5, .int k), (0, .ref b), (1, .ref (AD 0 0)), (2, .ref (ad 0)), (3, .ref ou), (4, .int (nI i))]) hx hb dL_law_1009 hl (by decide) rfl (fun ls hl => ?_)
  refine lv_aload_n hx hb dL_law_1011 rfl (lv_at hl 3 rfl) ?_
  refine lv_aload_n hx hb dL_law_1012 rfl (lv_at hl 1 rfl) ?_
  refine lv_iload hx hb dL_law_1013 (lv_at hl 5 rfl) ?_
  refine lv_iconst (v := 1) hx hb dL_law_1015 (by decide) ?_
  refine top_eq (y := nI 1) rfl ?_
  refine iadd_n (x := i) (y := 1) hx hb dL_law_1016 ?_
  refine ld_s (k := i + 1) hx hb hX hbl hbA hS1 (by omega) (by omega) dL_law_1017 ?_
  refine va_calli (va_runV (As := [.int (xs (i + 1))]) (rest := []) ⟨hx, hb, hml, hown, hts⟩ hMC (cwV 1 hts gL_law_X5_bits rfl rfl rfl (by decide +kernel) ⟨Nat.le_of_ble_eq_true rfl, Nat.le_of_ble_eq_true rfl⟩) ⟨rd_blind, va_recv hK2 hPm1 (ci := 6) (q0 := 0) rfl rfl, rd_pre hPm1 hK2 hN⟩ rfl rfl hl.1 rfl (lv_room (Nat.le_of_ble_eq_true rfl)) dL_law_1018 ⟨hc, hs⟩) hS1 (fun q _ h => hAm q h) hAm (fun r8 u8 t2 H2 locs2 ht2 hvm2 hw8 hM8 hz2 hk2 hS2 => ?_)
  rw [ht2] at hM8
  refine lv_istore (lv' := [(6, .int r8), (5, .int k), (0, .ref b), (1, .ref (AD 0 0)), (2, .ref (ad 0)), (3, .ref ou), (4, .int (nI i))]) hx hb dL_law_1021 hl (by decide) rfl (fun ls hl => ?_)
  obtain ⟨ow8, mp8, nm8, gb8, ob8, g8, hg8, hk8, hPm8⟩ := id hM8
  have hPo2 : va_P D vwCl [(ou, lgC cJ w9)] H2 := hB2.kept (fun j q hq => hk2 q.1 (va_at.lt (hB2 j q hq)) (by have hm := List.mem_of_getElem? hq; rw [List.mem_singleton] at hm; rw [hm]; exact hno))
  refine lv_aload_n hx hb dL_law_1023 rfl (lv_at hl 4 rfl) ?_
  refine vp_callSi (W.runV (As := []) (rest := []) ⟨hx, hb, hml, hown, hts⟩ (k_X5_thrown l D cI cZ ad F' ow8 mp8 nm8 gb8 ob8 ik' kp' tu' g8) (cwV 0 hts gL_law_X5_thrown rfl rfl rfl (by decide +kernel) ⟨Nat.le_of_ble_eq_true rfl, Nat.le_of_ble_eq_true rfl⟩) ⟨rd_blind, va_recv hK2 hPm8 (ci := 6) (q0 := 0) rfl rfl, rd_pre hPm8 hK2 hN⟩ rfl rfl hl.1 rfl (lv_room (Nat.le_of_ble_eq_true rfl)) dL_law_1024 ⟨hc, hs⟩) (fun r7 er => ?_)
  rw [er, hk8]
  refine lv_iload hx hb dL_law_1027 (lv_at hl 1 rfl) ?_
  refine lv_icmp_eq (tgt := 1034) hx hb dL_law_1029 (by decide) (fun _ => ?_) (fun h9 => absurd rfl h9)
  refine lv_iload hx hb dL_law_1034 (lv_at hl 1 rfl) ?_
  have END : W p l e room_1 s m #[Value.ref b] below meth c H2 locs2 (cells + 4) (slots + 40) Q (F0 m 1051 ls []) := by
    refine lv_goto (tgt := 1565) hx hb dL_law_1051 (by decide) ?_
    exact kk H2 locs2 ls (LI.step hLz had rfl hadH hou houz houH hzH hok' hB1 hB2 hM8 hk2) hS2 (lv_sub hl [2, 3, 4, 5, 6] rfl)
  refine lv_if_ne (tgt := 1051) hx hb dL_law_1036 (by decide) (fun _ => END) (fun hk0 => ?_)
  have hr8 : r8 = r := hw8 hk0
  refine lv_aload_n hx hb dL_law_1039 rfl (lv_at hl 5 rfl) ?_
  refine lv_iconst (v := 0) hx hb dL_law_1040 (by decide) ?_
  refine top_eq (y := nI 0) rfl ?_
  refine ld_l (k := 0) hx hb hKJ hPo2 0 0 rfl rfl (by decide) (by decide) dL_law_1041 ?_
  refine top_el (y := r8.toInt64) (by rw [hw2 hk0, hr8]) ?_
  refine lv_iload hx hb dL_law_1042 (lv_at hl 0 rfl) ?_
  refine lv_i2l (v := r8.toInt64) hx hb dL_law_1044 rfl ?_
  refine W.lcmp hx hb dL_law_1045 ?_
  refine top_eq (y := 0) (lg_self _) ?_
  exact lv_if_eq (tgt := 1051) hx hb dL_law_1046 (by decide) (fun _ => END) (fun h9 => absurd rfl h9)
set_option maxHeartbeats 800000 in
set_option maxRecDepth 100000 in
theorem lc_13 {p : Program} {l : Launch} {e : Env} {s : State} {m : MethodId} {below : List Frame} {meth : Method} {c : Code} {b Lx : Nat} {xs : Nat → Int32} {D : va_G} {cI cZ cO cJ : ClassId} {e0 mi x0 m0 ou : Nat} (hC : LX p l s m c b Lx xs D cI cZ cO cJ e0 mi) {H : Heap} {locs : List Loc} {cells slots : Nat} (hI : LI D cI cZ cO cJ s.heap.size e0 x0 m0 ou H) (hS : va_S (Zs s) s.heap H locs) {i : Nat} (hi : i + 6 ≤ Lx) {Q : State → Prop} {ls : Array Slot} (hl : lv_has ls 7 [(0, .ref b), (1, .ref x0), (2, .ref m0), (3, .ref ou), (4, .int (nI i))]) (hc : cells + 4 ≤ 679203) (hs : slots + 40 ≤ 7058495)
    (kk : ∀ (H2 : Heap) (locs2 : List Loc) (ls2 : Array Slot), LI D cI cZ cO cJ s.heap.size e0 x0 m0 ou H2 → va_S (Zs s) s.heap H2 locs2 → lv_has ls2 7 [(0, .ref b), (1, .ref x0), (2, .ref m0), (3, .ref ou), (4, .int (nI i))] → W p l e room_1 s m #[Value.ref b] below meth c H2 locs2 (cells + 4) (slots + 40) Q (F0 m 1565 ls2 [])) : W p l e room_1 s m #[Value.ref b] below meth c H locs cells slots Q (F0 m 1054 ls []) := by
  obtain ⟨⟨hx, hb, hml, hown, hts⟩, ⟨hX, hbl, hLx⟩, ⟨hl0, hK, hKJ⟩, hWF⟩ := hC
  obtain ⟨F, ik, kp, tu, n, k0, ad, w, he, gv, gp, gb, ob, nm, lo, L, f, tg, AD, mc, hok, ⟨hL, hLz, hx0, he0, hP, hR⟩, ⟨had, hm0, hMX⟩, hou, houz, hPo⟩ := hI
  subst hx0
  subst he0
  subst hm0
  obtain ⟨ow, mp, nm5, gb5, ob5, g, hg, -, hPm⟩ := hMX
  have hbA : ¬ Zs s b := Nat.not_le.mpr hbl
  have hN := hWF.1.1
  have hK2 : va_K D vwCl [(cI, .int), (cZ, .boolean)] s := hK.sub (tys' := [(cI, .int), (cZ, .boolean)]) [0, 1] rfl
  have hzH : s.heap.size ≤ H.size := hS.1
  have hadH : ∀ j, j < 16 → ad j < H.size := fun j hj => md_lt hPm hj
  have houH : ou < H.size := va_at.lt (hPo 0 _ rfl)
  have he0s := hWF.elt
  have hAz : ∀ q, (q ∈ L ∨ H.size ≤ q) ∨ q = ou → Zs s q := fun q h => h.elim (fun h => h.elim (fun h => hLz q h) (fun h => Nat.le_trans hzH h)) (fun h => by rw [h]; exact houz)
  have hAm : ∀ q, (∃ j, j < 16 ∧ q = ad j) → Zs s q := fun q ⟨j, hj, ej⟩ => by rw [ej]; exact (had.2 j hj).1
  have hne : ¬ (AD 7 0 ∈ L ∨ H.size ≤ AD 7 0) := fun hh => hh.elim (fun h => absurd (hLz _ h) (Nat.not_le.mpr he0s)) (fun h => by omega)
  have hou2 : ¬ (ou ∈ L ∨ H.size ≤ ou) := fun hh => hh.elim hou (fun h => by omega)
  have hno : ¬ ∃ j, j < 16 ∧ ou = ad j := fun ⟨j, hj, ej⟩ => (had.2 j hj).2.2 ej.symm
  refine lv_aload_n hx hb dL_law_1054 rfl (lv_at hl 1 rfl) ?_
  refine lv_aload_n hx hb dL_law_1055 rfl (lv_at hl 0 rfl) ?_
  refine lv_iload hx hb dL_law_1056 (lv_at hl 4 rfl) ?_
  refine lv_iconst (v := 1) hx hb dL_law_1058 (by decide) ?_
  refine top_eq (y := nI 1) rfl ?_
  refine iadd_n (x := i) (y := 1) hx hb dL_law_1059 ?_
  refine ld_s (k := i + 1) hx hb hX hbl hbA hS (by omega) (by omega) dL_law_1060 ?_
  refine lv_aload_n hx hb dL_law_1061 rfl (lv_at hl 3 rfl) ?_
  obtain ⟨k, r, F', ik', kp', tu', n', hok', hHC, hMC⟩ := pr_named (l := l) (D := D) (cI := cI) (cZ := cZ) (cO := cO) (cJ := cJ) hl0 hok hR hL (A := fun q => q ∈ L ∨ H.size ≤ q) (fun a h => Or.inl h) (z := H.size) (mi := mi) (ou := ou) (w := w) (fun q h => Or.inr h) hne hou2 (ad := ad) (ow := ow) (mp := mp) (nm5 := nm5) (gb5 := gb5) (ob5 := ob5) hg (A2 := fun q => ∃ j, j < 16 ∧ q = ad j) (ad_self had) (xs (i + 1))
  refine va_calli (vx_runSW (As := [.ref (AD 0 0), .int (xs (i + 1)), .ref ou]) (rest := []) ⟨hx, hb, hml, hown, hts⟩ hHC (vx_cwSW 3 hts gL_law_L_named rfl rfl rfl (by decide +kernel) ⟨Nat.le_of_ble_eq_true rfl, Nat.le_of_ble_eq_true rfl⟩) ⟨HW.blind, fun U hU hW => ⟨rfl, ⟨⟨⟨by rw [hU]; exact hP, va_K.moved hW.alike hK, hN.warm hW⟩, hWF.nx hS hU hW, hWF.fy hS (fun q h => hAz q (Or.inl h)) (Nat.le_refl _) hU hW⟩, by rw [hU]; exact hPo, va_K.moved hW.alike hKJ, hWF.1.2.1.move hW⟩⟩⟩ rfl rfl hl.1 rfl (lv_room (Nat.le_of_ble_eq_true rfl)) dL_law_1062 ⟨hc, hs⟩) hS (fun q _ h => hAz q h) hAz (fun r9 w9 t H1 locs1 ht hvm hw hB hz1 hk1 hS1 => ?_)
  obtain ⟨hw1, hw2⟩ := hw
  obtain ⟨hB1, hB2⟩ := hB
  rw [ht] at hB1 hB2
  rw [hw1]
  have hPm1 := md_kept had hPm hk1
  refine lv_istore (lv' := [(5, .int k), (0, .ref b), (1, .ref (AD 0 0)), (2, .ref (ad 0)), (3, .ref ou), (4, .int (nI i))]) hx hb dL_law_1065 hl (by decide) rfl (fun ls hl => ?_)
  refine lv_aload_n hx hb dL_law_1067 rfl (lv_at hl 3 rfl) ?_
  refine lv_aload_n hx hb dL_law_1068 rfl (lv_at hl 1 rfl) ?_
  refine lv_iload hx hb dL_law_1069 (lv_at hl 5 rfl) ?_
  refine lv_iconst (v := 1) hx hb dL_law_1071 (by decide) ?_
  refine top_eq (y := nI 1) rfl ?_
  refine iadd_n (x := i) (y := 1) hx hb dL_law_1072 ?_
  refine ld_s (k := i + 1) hx hb hX hbl hbA hS1 (by omega) (by omega) dL_law_1073 ?_
  refine va_calli (va_runV (As := [.int (xs (i + 1))]) (rest := []) ⟨hx, hb, hml, hown, hts⟩ hMC (cwV 1 hts gL_law_X5_named rfl rfl rfl (by decide +kernel) ⟨Nat.le_of_ble_eq_true rfl, Nat.le_of_ble_eq_true rfl⟩) ⟨rd_blind, va_recv hK2 hPm1 (ci := 6) (q0 := 0) rfl rfl, rd_pre hPm1 hK2 hN⟩ rfl rfl hl.1 rfl (lv_room (Nat.le_of_ble_eq_true rfl)) dL_law_1074 ⟨hc, hs⟩) hS1 (fun q _ h => hAm q h) hAm (fun r8 u8 t2 H2 locs2 ht2 hvm2 hw8 hM8 hz2 hk2 hS2 => ?_)
  rw [ht2] at hM8
  refine lv_istore (lv' := [(6, .int r8), (5, .int k), (0, .ref b), (1, .ref (AD 0 0)), (2, .ref (ad 0)), (3, .ref ou), (4, .int (nI i))]) hx hb dL_law_1077 hl (by decide) rfl (fun ls hl => ?_)
  obtain ⟨ow8, mp8, nm8, gb8, ob8, g8, hg8, hk8, hPm8⟩ := id hM8
  have hPo2 : va_P D vwCl [(ou, lgC cJ w9)] H2 := hB2.kept (fun j q hq => hk2 q.1 (va_at.lt (hB2 j q hq)) (by have hm := List.mem_of_getElem? hq; rw [List.mem_singleton] at hm; rw [hm]; exact hno))
  refine lv_aload_n hx hb dL_law_1079 rfl (lv_at hl 4 rfl) ?_
  refine vp_callSi (W.runV (As := []) (rest := []) ⟨hx, hb, hml, hown, hts⟩ (k_X5_thrown l D cI cZ ad F' ow8 mp8 nm8 gb8 ob8 ik' kp' tu' g8) (cwV 0 hts gL_law_X5_thrown rfl rfl rfl (by decide +kernel) ⟨Nat.le_of_ble_eq_true rfl, Nat.le_of_ble_eq_true rfl⟩) ⟨rd_blind, va_recv hK2 hPm8 (ci := 6) (q0 := 0) rfl rfl, rd_pre hPm8 hK2 hN⟩ rfl rfl hl.1 rfl (lv_room (Nat.le_of_ble_eq_true rfl)) dL_law_1080 ⟨hc, hs⟩) (fun r7 er => ?_)
  rw [er, hk8]
  refine lv_iload hx hb dL_law_1083 (lv_at hl 1 rfl) ?_
  refine lv_icmp_eq (tgt := 1090) hx hb dL_law_1085 (by decide) (fun _ => ?_) (fun h9 => absurd rfl h9)
  refine lv_iload hx hb dL_law_1090 (lv_at hl 1 rfl) ?_
  have END : W p l e room_1 s m #[Value.ref b] below meth c H2 locs2 (cells + 4) (slots + 40) Q (F0 m 1107 ls []) := by
    refine lv_goto (tgt := 1565) hx hb dL_law_1107 (by decide) ?_
    exact kk H2 locs2 ls (LI.step hLz had rfl hadH hou houz houH hzH hok' hB1 hB2 hM8 hk2) hS2 (lv_sub hl [2, 3, 4, 5, 6] rfl)
  refine lv_if_ne (tgt := 1107) hx hb dL_law_1092 (by decide) (fun _ => END) (fun hk0 => ?_)
  have hr8 : r8 = r := hw8 hk0
  refine lv_aload_n hx hb dL_law_1095 rfl (lv_at hl 5 rfl) ?_
  refine lv_iconst (v := 0) hx hb dL_law_1096 (by decide) ?_
  refine top_eq (y := nI 0) rfl ?_
  refine ld_l (k := 0) hx hb hKJ hPo2 0 0 rfl rfl (by decide) (by decide) dL_law_1097 ?_
  refine top_el (y := r8.toInt64) (by rw [hw2 hk0, hr8]) ?_
  refine lv_iload hx hb dL_law_1098 (lv_at hl 0 rfl) ?_
  refine lv_i2l (v := r8.toInt64) hx hb dL_law_1100 rfl ?_
  refine W.lcmp hx hb dL_law_1101 ?_
  refine top_eq (y := 0) (lg_self _) ?_
  exact lv_if_eq (tgt := 1107) hx hb dL_law_1102 (by decide) (fun _ => END) (fun h9 => absurd rfl h9)
set_option maxHeartbeats 800000 in
set_option maxRecDepth 100000 in
theorem lc_14 {p : Program} {l : Launch} {e : Env} {s : State} {m : MethodId} {below : List Frame} {meth : Method} {c : Code} {b Lx : Nat} {xs : Nat → Int32} {D : va_G} {cI cZ cO cJ : ClassId} {e0 mi x0 m0 ou : Nat} (hC : LX p l s m c b Lx xs D cI cZ cO cJ e0 mi) {H : Heap} {locs : List Loc} {cells slots : Nat} (hI : LI D cI cZ cO cJ s.heap.size e0 x0 m0 ou H) (hS : va_S (Zs s) s.heap H locs) {i : Nat} (hi : i + 6 ≤ Lx) {Q : State → Prop} {ls : Array Slot} (hl : lv_has ls 7 [(0, .ref b), (1, .ref x0), (2, .ref m0), (3, .ref ou), (4, .int (nI i))]) (hc : cells + 4 ≤ 679203) (hs : slots + 40 ≤ 7058495)
    (kk : ∀ (H2 : Heap) (locs2 : List Loc) (ls2 : Array Slot), LI D cI cZ cO cJ s.heap.size e0 x0 m0 ou H2 → va_S (Zs s) s.heap H2 locs2 → lv_has ls2 7 [(0, .ref b), (1, .ref x0), (2, .ref m0), (3, .ref ou), (4, .int (nI i))] → W p l e room_1 s m #[Value.ref b] below meth c H2 locs2 (cells + 4) (slots + 40) Q (F0 m 1565 ls2 [])) : W p l e room_1 s m #[Value.ref b] below meth c H locs cells slots Q (F0 m 1110 ls []) := by
  obtain ⟨⟨hx, hb, hml, hown, hts⟩, ⟨hX, hbl, hLx⟩, ⟨hl0, hK, hKJ⟩, hWF⟩ := hC
  obtain ⟨F, ik, kp, tu, n, k0, ad, w, he, gv, gp, gb, ob, nm, lo, L, f, tg, AD, mc, hok, ⟨hL, hLz, hx0, he0, hP, hR⟩, ⟨had, hm0, hMX⟩, hou, houz, hPo⟩ := hI
  subst hx0
  subst he0
  subst hm0
  obtain ⟨ow, mp, nm5, gb5, ob5, g, hg, -, hPm⟩ := hMX
  have hbA : ¬ Zs s b := Nat.not_le.mpr hbl
  have hN := hWF.1.1
  have hK2 : va_K D vwCl [(cI, .int), (cZ, .boolean)] s := hK.sub (tys' := [(cI, .int), (cZ, .boolean)]) [0, 1] rfl
  have hzH : s.heap.size ≤ H.size := hS.1
  have hadH : ∀ j, j < 16 → ad j < H.size := fun j hj => md_lt hPm hj
  have houH : ou < H.size := va_at.lt (hPo 0 _ rfl)
  have he0s := hWF.elt
  have hAz : ∀ q, (q ∈ L ∨ H.size ≤ q) ∨ q = ou → Zs s q := fun q h => h.elim (fun h => h.elim (fun h => hLz q h) (fun h => Nat.le_trans hzH h)) (fun h => by rw [h]; exact houz)
  have hAm : ∀ q, (∃ j, j < 16 ∧ q = ad j) → Zs s q := fun q ⟨j, hj, ej⟩ => by rw [ej]; exact (had.2 j hj).1
  have hne : ¬ (AD 7 0 ∈ L ∨ H.size ≤ AD 7 0) := fun hh => hh.elim (fun h => absurd (hLz _ h) (Nat.not_le.mpr he0s)) (fun h => by omega)
  have hou2 : ¬ (ou ∈ L ∨ H.size ≤ ou) := fun hh => hh.elim hou (fun h => by omega)
  have hno : ¬ ∃ j, j < 16 ∧ ou = ad j := fun ⟨j, hj, ej⟩ => (had.2 j hj).2.2 ej.symm
  refine lv_aload_n hx hb dL_law_1110 rfl (lv_at hl 1 rfl) ?_
  refine lv_aload_n hx hb dL_law_1111 rfl (lv_at hl 0 rfl) ?_
  refine lv_iload hx hb dL_law_1112 (lv_at hl 4 rfl) ?_
  refine lv_iconst (v := 1) hx hb dL_law_1114 (by decide) ?_
  refine top_eq (y := nI 1) rfl ?_
  refine iadd_n (x := i) (y := 1) hx hb dL_law_1115 ?_
  refine ld_s (k := i + 1) hx hb hX hbl hbA hS (by omega) (by omega) dL_law_1116 ?_
  refine lv_aload_n hx hb dL_law_1117 rfl (lv_at hl 0 rfl) ?_
  refine lv_iload hx hb dL_law_1118 (lv_at hl 4 rfl) ?_
  refine lv_iconst (v := 2) hx hb dL_law_1120 (by decide) ?_
  refine top_eq (y := nI 2) rfl ?_
  refine iadd_n (x := i) (y := 2) hx hb dL_law_1121 ?_
  refine ld_s (k := i + 2) hx hb hX hbl hbA hS (by omega) (by omega) dL_law_1122 ?_
  refine lv_aload_n hx hb dL_law_1123 rfl (lv_at hl 3 rfl) ?_
  obtain ⟨k, r, F', ik', kp', tu', n', hok', hHC, hMC⟩ := pr_mapped (l := l) (D := D) (cI := cI) (cZ := cZ) (cO := cO) (cJ := cJ) hl0 hok hR hL (A := fun q => q ∈ L ∨ H.size ≤ q) (fun a h => Or.inl h) (z := H.size) (mi := mi) (ou := ou) (w := w) (fun q h => Or.inr h) hne hou2 (ad := ad) (ow := ow) (mp := mp) (nm5 := nm5) (gb5 := gb5) (ob5 := ob5) hg (A2 := fun q => ∃ j, j < 16 ∧ q = ad j) (ad_self had) (xs (i + 1)) (xs (i + 2))
  refine va_calli (vx_runSW (As := [.ref (AD 0 0), .int (xs (i + 1)), .int (xs (i + 2)), .ref ou]) (rest := []) ⟨hx, hb, hml, hown, hts⟩ hHC (vx_cwSW 4 hts gL_law_L_mapped rfl rfl rfl (by decide +kernel) ⟨Nat.le_of_ble_eq_true rfl, Nat.le_of_ble_eq_true rfl⟩) ⟨HW.blind, fun U hU hW => ⟨rfl, ⟨⟨⟨by rw [hU]; exact hP, va_K.moved hW.alike hK, hN.warm hW⟩, hWF.nx hS hU hW, hWF.fy hS (fun q h => hAz q (Or.inl h)) (Nat.le_refl _) hU hW⟩, by rw [hU]; exact hPo, va_K.moved hW.alike hKJ, hWF.1.2.1.move hW⟩⟩⟩ rfl rfl hl.1 rfl (lv_room (Nat.le_of_ble_eq_true rfl)) dL_law_1124 ⟨hc, hs⟩) hS (fun q _ h => hAz q h) hAz (fun r9 w9 t H1 locs1 ht hvm hw hB hz1 hk1 hS1 => ?_)
  obtain ⟨hw1, hw2⟩ := hw
  obtain ⟨hB1, hB2⟩ := hB
  rw [ht] at hB1 hB2
  rw [hw1]
  have hPm1 := md_kept had hPm hk1
  refine lv_istore (lv' := [(5, .int k), (0, .ref b), (1, .ref (AD 0 0)), (2, .ref (ad 0)), (3, .ref ou), (4, .int (nI i))]) hx hb dL_law_1127 hl (by decide) rfl (fun ls hl => ?_)
  refine lv_aload_n hx hb dL_law_1129 rfl (lv_at hl 3 rfl) ?_
  refine lv_aload_n hx hb dL_law_1130 rfl (lv_at hl 1 rfl) ?_
  refine lv_iload hx hb dL_law_1131 (lv_at hl 5 rfl) ?_
  refine lv_iconst (v := 1) hx hb dL_law_1133 (by decide) ?_
  refine top_eq (y := nI 1) rfl ?_
  refine iadd_n (x := i) (y := 1) hx hb dL_law_1134 ?_
  refine ld_s (k := i + 1) hx hb hX hbl hbA hS1 (by omega) (by omega) dL_law_1135 ?_
  refine lv_aload_n hx hb dL_law_1136 rfl (lv_at hl 1 rfl) ?_
  refine lv_iload hx hb dL_law_1137 (lv_at hl 5 rfl) ?_
  refine lv_iconst (v := 2) hx hb dL_law_1139 (by decide) ?_
  refine top_eq (y := nI 2) rfl ?_
  refine iadd_n (x := i) (y := 2) hx hb dL_law_1140 ?_
  refine ld_s (k := i + 2) hx hb hX hbl hbA hS1 (by omega) (by omega) dL_law_1141 ?_
  refine va_calli (va_runV (As := [.int (xs (i + 1)), .int (xs (i + 2))]) (rest := []) ⟨hx, hb, hml, hown, hts⟩ hMC (cwV 2 hts gL_law_X5_mapped rfl rfl rfl (by decide +kernel) ⟨Nat.le_of_ble_eq_true rfl, Nat.le_of_ble_eq_true rfl⟩) ⟨rd_blind, va_recv hK2 hPm1 (ci := 6) (q0 := 0) rfl rfl, rd_pre hPm1 hK2 hN⟩ rfl rfl hl.1 rfl (lv_room (Nat.le_of_ble_eq_true rfl)) dL_law_1142 ⟨hc, hs⟩) hS1 (fun q _ h => hAm q h) hAm (fun r8 u8 t2 H2 locs2 ht2 hvm2 hw8 hM8 hz2 hk2 hS2 => ?_)
  rw [ht2] at hM8
  refine lv_istore (lv' := [(6, .int r8), (5, .int k), (0, .ref b), (1, .ref (AD 0 0)), (2, .ref (ad 0)), (3, .ref ou), (4, .int (nI i))]) hx hb dL_law_1145 hl (by decide) rfl (fun ls hl => ?_)
  obtain ⟨ow8, mp8, nm8, gb8, ob8, g8, hg8, hk8, hPm8⟩ := id hM8
  have hPo2 : va_P D vwCl [(ou, lgC cJ w9)] H2 := hB2.kept (fun j q hq => hk2 q.1 (va_at.lt (hB2 j q hq)) (by have hm := List.mem_of_getElem? hq; rw [List.mem_singleton] at hm; rw [hm]; exact hno))
  refine lv_aload_n hx hb dL_law_1147 rfl (lv_at hl 4 rfl) ?_
  refine vp_callSi (W.runV (As := []) (rest := []) ⟨hx, hb, hml, hown, hts⟩ (k_X5_thrown l D cI cZ ad F' ow8 mp8 nm8 gb8 ob8 ik' kp' tu' g8) (cwV 0 hts gL_law_X5_thrown rfl rfl rfl (by decide +kernel) ⟨Nat.le_of_ble_eq_true rfl, Nat.le_of_ble_eq_true rfl⟩) ⟨rd_blind, va_recv hK2 hPm8 (ci := 6) (q0 := 0) rfl rfl, rd_pre hPm8 hK2 hN⟩ rfl rfl hl.1 rfl (lv_room (Nat.le_of_ble_eq_true rfl)) dL_law_1148 ⟨hc, hs⟩) (fun r7 er => ?_)
  rw [er, hk8]
  refine lv_iload hx hb dL_law_1151 (lv_at hl 1 rfl) ?_
  refine lv_icmp_eq (tgt := 1158) hx hb dL_law_1153 (by decide) (fun _ => ?_) (fun h9 => absurd rfl h9)
  refine lv_iload hx hb dL_law_1158 (lv_at hl 1 rfl) ?_
  have END : W p l e room_1 s m #[Value.ref b] below meth c H2 locs2 (cells + 4) (slots + 40) Q (F0 m 1175 ls []) := by
    refine lv_goto (tgt := 1565) hx hb dL_law_1175 (by decide) ?_
    exact kk H2 locs2 ls (LI.step hLz had rfl hadH hou houz houH hzH hok' hB1 hB2 hM8 hk2) hS2 (lv_sub hl [2, 3, 4, 5, 6] rfl)
  refine lv_if_ne (tgt := 1175) hx hb dL_law_1160 (by decide) (fun _ => END) (fun hk0 => ?_)
  have hr8 : r8 = r := hw8 hk0
  refine lv_aload_n hx hb dL_law_1163 rfl (lv_at hl 5 rfl) ?_
  refine lv_iconst (v := 0) hx hb dL_law_1164 (by decide) ?_
  refine top_eq (y := nI 0) rfl ?_
  refine ld_l (k := 0) hx hb hKJ hPo2 0 0 rfl rfl (by decide) (by decide) dL_law_1165 ?_
  refine top_el (y := r8.toInt64) (by rw [hw2 hk0, hr8]) ?_
  refine lv_iload hx hb dL_law_1166 (lv_at hl 0 rfl) ?_
  refine lv_i2l (v := r8.toInt64) hx hb dL_law_1168 rfl ?_
  refine W.lcmp hx hb dL_law_1169 ?_
  refine top_eq (y := 0) (lg_self _) ?_
  exact lv_if_eq (tgt := 1175) hx hb dL_law_1170 (by decide) (fun _ => END) (fun h9 => absurd rfl h9)
set_option maxHeartbeats 800000 in
set_option maxRecDepth 100000 in
theorem lc_15 {p : Program} {l : Launch} {e : Env} {s : State} {m : MethodId} {below : List Frame} {meth : Method} {c : Code} {b Lx : Nat} {xs : Nat → Int32} {D : va_G} {cI cZ cO cJ : ClassId} {e0 mi x0 m0 ou : Nat} (hC : LX p l s m c b Lx xs D cI cZ cO cJ e0 mi) {H : Heap} {locs : List Loc} {cells slots : Nat} (hI : LI D cI cZ cO cJ s.heap.size e0 x0 m0 ou H) (hS : va_S (Zs s) s.heap H locs) {i : Nat} (hi : i + 6 ≤ Lx) {Q : State → Prop} {ls : Array Slot} (hl : lv_has ls 7 [(0, .ref b), (1, .ref x0), (2, .ref m0), (3, .ref ou), (4, .int (nI i))]) (hc : cells + 4 ≤ 679203) (hs : slots + 40 ≤ 7058495)
    (kk : ∀ (H2 : Heap) (locs2 : List Loc) (ls2 : Array Slot), LI D cI cZ cO cJ s.heap.size e0 x0 m0 ou H2 → va_S (Zs s) s.heap H2 locs2 → lv_has ls2 7 [(0, .ref b), (1, .ref x0), (2, .ref m0), (3, .ref ou), (4, .int (nI i))] → W p l e room_1 s m #[Value.ref b] below meth c H2 locs2 (cells + 4) (slots + 40) Q (F0 m 1565 ls2 [])) : W p l e room_1 s m #[Value.ref b] below meth c H locs cells slots Q (F0 m 1178 ls []) := by
  obtain ⟨⟨hx, hb, hml, hown, hts⟩, ⟨hX, hbl, hLx⟩, ⟨hl0, hK, hKJ⟩, hWF⟩ := hC
  obtain ⟨F, ik, kp, tu, n, k0, ad, w, he, gv, gp, gb, ob, nm, lo, L, f, tg, AD, mc, hok, ⟨hL, hLz, hx0, he0, hP, hR⟩, ⟨had, hm0, hMX⟩, hou, houz, hPo⟩ := hI
  subst hx0
  subst he0
  subst hm0
  obtain ⟨ow, mp, nm5, gb5, ob5, g, hg, -, hPm⟩ := hMX
  have hbA : ¬ Zs s b := Nat.not_le.mpr hbl
  have hN := hWF.1.1
  have hK2 : va_K D vwCl [(cI, .int), (cZ, .boolean)] s := hK.sub (tys' := [(cI, .int), (cZ, .boolean)]) [0, 1] rfl
  have hzH : s.heap.size ≤ H.size := hS.1
  have hadH : ∀ j, j < 16 → ad j < H.size := fun j hj => md_lt hPm hj
  have houH : ou < H.size := va_at.lt (hPo 0 _ rfl)
  have he0s := hWF.elt
  have hAz : ∀ q, (q ∈ L ∨ H.size ≤ q) ∨ q = ou → Zs s q := fun q h => h.elim (fun h => h.elim (fun h => hLz q h) (fun h => Nat.le_trans hzH h)) (fun h => by rw [h]; exact houz)
  have hAm : ∀ q, (∃ j, j < 16 ∧ q = ad j) → Zs s q := fun q ⟨j, hj, ej⟩ => by rw [ej]; exact (had.2 j hj).1
  have hne : ¬ (AD 7 0 ∈ L ∨ H.size ≤ AD 7 0) := fun hh => hh.elim (fun h => absurd (hLz _ h) (Nat.not_le.mpr he0s)) (fun h => by omega)
  have hou2 : ¬ (ou ∈ L ∨ H.size ≤ ou) := fun hh => hh.elim hou (fun h => by omega)
  have hno : ¬ ∃ j, j < 16 ∧ ou = ad j := fun ⟨j, hj, ej⟩ => (had.2 j hj).2.2 ej.symm
  refine lv_aload_n hx hb dL_law_1178 rfl (lv_at hl 1 rfl) ?_
  refine lv_aload_n hx hb dL_law_1179 rfl (lv_at hl 0 rfl) ?_
  refine lv_iload hx hb dL_law_1180 (lv_at hl 4 rfl) ?_
  refine lv_iconst (v := 1) hx hb dL_law_1182 (by decide) ?_
  refine top_eq (y := nI 1) rfl ?_
  refine iadd_n (x := i) (y := 1) hx hb dL_law_1183 ?_
  refine ld_s (k := i + 1) hx hb hX hbl hbA hS (by omega) (by omega) dL_law_1184 ?_
  refine lv_aload_n hx hb dL_law_1185 rfl (lv_at hl 3 rfl) ?_
  obtain ⟨k, r, F', ik', kp', tu', n', hok', hHC, hMC⟩ := pr_loss (l := l) (D := D) (cI := cI) (cZ := cZ) (cO := cO) (cJ := cJ) hl0 hok hR hL (A := fun q => q ∈ L ∨ H.size ≤ q) (fun a h => Or.inl h) (z := H.size) (mi := mi) (ou := ou) (w := w) (fun q h => Or.inr h) hne hou2 (ad := ad) (ow := ow) (mp := mp) (nm5 := nm5) (gb5 := gb5) (ob5 := ob5) hg (A2 := fun q => ∃ j, j < 16 ∧ q = ad j) (ad_self had) (xs (i + 1))
  refine va_calli (vx_runSW (As := [.ref (AD 0 0), .int (xs (i + 1)), .ref ou]) (rest := []) ⟨hx, hb, hml, hown, hts⟩ hHC (vx_cwSW 3 hts gL_law_L_loss rfl rfl rfl (by decide +kernel) ⟨Nat.le_of_ble_eq_true rfl, Nat.le_of_ble_eq_true rfl⟩) ⟨HW.blind, fun U hU hW => ⟨rfl, ⟨⟨⟨by rw [hU]; exact hP, va_K.moved hW.alike hK, hN.warm hW⟩, hWF.nx hS hU hW, hWF.fy hS (fun q h => hAz q (Or.inl h)) (Nat.le_refl _) hU hW⟩, by rw [hU]; exact hPo, va_K.moved hW.alike hKJ, hWF.1.2.1.move hW⟩⟩⟩ rfl rfl hl.1 rfl (lv_room (Nat.le_of_ble_eq_true rfl)) dL_law_1186 ⟨hc, hs⟩) hS (fun q _ h => hAz q h) hAz (fun r9 w9 t H1 locs1 ht hvm hw hB hz1 hk1 hS1 => ?_)
  obtain ⟨hw1, hw2⟩ := hw
  obtain ⟨hB1, hB2⟩ := hB
  rw [ht] at hB1 hB2
  rw [hw1]
  have hPm1 := md_kept had hPm hk1
  refine lv_istore (lv' := [(5, .int k), (0, .ref b), (1, .ref (AD 0 0)), (2, .ref (ad 0)), (3, .ref ou), (4, .int (nI i))]) hx hb dL_law_1189 hl (by decide) rfl (fun ls hl => ?_)
  refine lv_aload_n hx hb dL_law_1191 rfl (lv_at hl 3 rfl) ?_
  refine lv_aload_n hx hb dL_law_1192 rfl (lv_at hl 1 rfl) ?_
  refine lv_iload hx hb dL_law_1193 (lv_at hl 5 rfl) ?_
  refine lv_iconst (v := 1) hx hb dL_law_1195 (by decide) ?_
  refine top_eq (y := nI 1) rfl ?_
  refine iadd_n (x := i) (y := 1) hx hb dL_law_1196 ?_
  refine ld_s (k := i + 1) hx hb hX hbl hbA hS1 (by omega) (by omega) dL_law_1197 ?_
  refine va_calli (va_runV (As := [.int (xs (i + 1))]) (rest := []) ⟨hx, hb, hml, hown, hts⟩ hMC (cwV 1 hts gL_law_X5_loss rfl rfl rfl (by decide +kernel) ⟨Nat.le_of_ble_eq_true rfl, Nat.le_of_ble_eq_true rfl⟩) ⟨rd_blind, va_recv hK2 hPm1 (ci := 6) (q0 := 0) rfl rfl, rd_pre hPm1 hK2 hN⟩ rfl rfl hl.1 rfl (lv_room (Nat.le_of_ble_eq_true rfl)) dL_law_1198 ⟨hc, hs⟩) hS1 (fun q _ h => hAm q h) hAm (fun r8 u8 t2 H2 locs2 ht2 hvm2 hw8 hM8 hz2 hk2 hS2 => ?_)
  rw [ht2] at hM8
  refine lv_istore (lv' := [(6, .int r8), (5, .int k), (0, .ref b), (1, .ref (AD 0 0)), (2, .ref (ad 0)), (3, .ref ou), (4, .int (nI i))]) hx hb dL_law_1201 hl (by decide) rfl (fun ls hl => ?_)
  obtain ⟨ow8, mp8, nm8, gb8, ob8, g8, hg8, hk8, hPm8⟩ := id hM8
  have hPo2 : va_P D vwCl [(ou, lgC cJ w9)] H2 := hB2.kept (fun j q hq => hk2 q.1 (va_at.lt (hB2 j q hq)) (by have hm := List.mem_of_getElem? hq; rw [List.mem_singleton] at hm; rw [hm]; exact hno))
  refine lv_aload_n hx hb dL_law_1203 rfl (lv_at hl 4 rfl) ?_
  refine vp_callSi (W.runV (As := []) (rest := []) ⟨hx, hb, hml, hown, hts⟩ (k_X5_thrown l D cI cZ ad F' ow8 mp8 nm8 gb8 ob8 ik' kp' tu' g8) (cwV 0 hts gL_law_X5_thrown rfl rfl rfl (by decide +kernel) ⟨Nat.le_of_ble_eq_true rfl, Nat.le_of_ble_eq_true rfl⟩) ⟨rd_blind, va_recv hK2 hPm8 (ci := 6) (q0 := 0) rfl rfl, rd_pre hPm8 hK2 hN⟩ rfl rfl hl.1 rfl (lv_room (Nat.le_of_ble_eq_true rfl)) dL_law_1204 ⟨hc, hs⟩) (fun r7 er => ?_)
  rw [er, hk8]
  refine lv_iload hx hb dL_law_1207 (lv_at hl 1 rfl) ?_
  refine lv_icmp_eq (tgt := 1214) hx hb dL_law_1209 (by decide) (fun _ => ?_) (fun h9 => absurd rfl h9)
  refine lv_iload hx hb dL_law_1214 (lv_at hl 1 rfl) ?_
  have END : W p l e room_1 s m #[Value.ref b] below meth c H2 locs2 (cells + 4) (slots + 40) Q (F0 m 1231 ls []) := by
    refine lv_goto (tgt := 1565) hx hb dL_law_1231 (by decide) ?_
    exact kk H2 locs2 ls (LI.step hLz had rfl hadH hou houz houH hzH hok' hB1 hB2 hM8 hk2) hS2 (lv_sub hl [2, 3, 4, 5, 6] rfl)
  refine lv_if_ne (tgt := 1231) hx hb dL_law_1216 (by decide) (fun _ => END) (fun hk0 => ?_)
  have hr8 : r8 = r := hw8 hk0
  refine lv_aload_n hx hb dL_law_1219 rfl (lv_at hl 5 rfl) ?_
  refine lv_iconst (v := 0) hx hb dL_law_1220 (by decide) ?_
  refine top_eq (y := nI 0) rfl ?_
  refine ld_l (k := 0) hx hb hKJ hPo2 0 0 rfl rfl (by decide) (by decide) dL_law_1221 ?_
  refine top_el (y := r8.toInt64) (by rw [hw2 hk0, hr8]) ?_
  refine lv_iload hx hb dL_law_1222 (lv_at hl 0 rfl) ?_
  refine lv_i2l (v := r8.toInt64) hx hb dL_law_1224 rfl ?_
  refine W.lcmp hx hb dL_law_1225 ?_
  refine top_eq (y := 0) (lg_self _) ?_
  exact lv_if_eq (tgt := 1231) hx hb dL_law_1226 (by decide) (fun _ => END) (fun h9 => absurd rfl h9)
set_option maxHeartbeats 800000 in
set_option maxRecDepth 100000 in
theorem lc_16 {p : Program} {l : Launch} {e : Env} {s : State} {m : MethodId} {below : List Frame} {meth : Method} {c : Code} {b Lx : Nat} {xs : Nat → Int32} {D : va_G} {cI cZ cO cJ : ClassId} {e0 mi x0 m0 ou : Nat} (hC : LX p l s m c b Lx xs D cI cZ cO cJ e0 mi) {H : Heap} {locs : List Loc} {cells slots : Nat} (hI : LI D cI cZ cO cJ s.heap.size e0 x0 m0 ou H) (hS : va_S (Zs s) s.heap H locs) {i : Nat} (hi : i + 6 ≤ Lx) {Q : State → Prop} {ls : Array Slot} (hl : lv_has ls 7 [(0, .ref b), (1, .ref x0), (2, .ref m0), (3, .ref ou), (4, .int (nI i))]) (hc : cells + 4 ≤ 679203) (hs : slots + 40 ≤ 7058495)
    (kk : ∀ (H2 : Heap) (locs2 : List Loc) (ls2 : Array Slot), LI D cI cZ cO cJ s.heap.size e0 x0 m0 ou H2 → va_S (Zs s) s.heap H2 locs2 → lv_has ls2 7 [(0, .ref b), (1, .ref x0), (2, .ref m0), (3, .ref ou), (4, .int (nI i))] → W p l e room_1 s m #[Value.ref b] below meth c H2 locs2 (cells + 4) (slots + 40) Q (F0 m 1565 ls2 [])) : W p l e room_1 s m #[Value.ref b] below meth c H locs cells slots Q (F0 m 1234 ls []) := by
  obtain ⟨⟨hx, hb, hml, hown, hts⟩, ⟨hX, hbl, hLx⟩, ⟨hl0, hK, hKJ⟩, hWF⟩ := hC
  obtain ⟨F, ik, kp, tu, n, k0, ad, w, he, gv, gp, gb, ob, nm, lo, L, f, tg, AD, mc, hok, ⟨hL, hLz, hx0, he0, hP, hR⟩, ⟨had, hm0, hMX⟩, hou, houz, hPo⟩ := hI
  subst hx0
  subst he0
  subst hm0
  obtain ⟨ow, mp, nm5, gb5, ob5, g, hg, -, hPm⟩ := hMX
  have hbA : ¬ Zs s b := Nat.not_le.mpr hbl
  have hN := hWF.1.1
  have hK2 : va_K D vwCl [(cI, .int), (cZ, .boolean)] s := hK.sub (tys' := [(cI, .int), (cZ, .boolean)]) [0, 1] rfl
  have hzH : s.heap.size ≤ H.size := hS.1
  have hadH : ∀ j, j < 16 → ad j < H.size := fun j hj => md_lt hPm hj
  have houH : ou < H.size := va_at.lt (hPo 0 _ rfl)
  have he0s := hWF.elt
  have hAz : ∀ q, (q ∈ L ∨ H.size ≤ q) ∨ q = ou → Zs s q := fun q h => h.elim (fun h => h.elim (fun h => hLz q h) (fun h => Nat.le_trans hzH h)) (fun h => by rw [h]; exact houz)
  have hAm : ∀ q, (∃ j, j < 16 ∧ q = ad j) → Zs s q := fun q ⟨j, hj, ej⟩ => by rw [ej]; exact (had.2 j hj).1
  have hne : ¬ (AD 7 0 ∈ L ∨ H.size ≤ AD 7 0) := fun hh => hh.elim (fun h => absurd (hLz _ h) (Nat.not_le.mpr he0s)) (fun h => by omega)
  have hou2 : ¬ (ou ∈ L ∨ H.size ≤ ou) := fun hh => hh.elim hou (fun h => by omega)
  have hno : ¬ ∃ j, j < 16 ∧ ou = ad j := fun ⟨j, hj, ej⟩ => (had.2 j hj).2.2 ej.symm
  refine lv_aload_n hx hb dL_law_1234 rfl (lv_at hl 1 rfl) ?_
  refine lv_aload_n hx hb dL_law_1235 rfl (lv_at hl 0 rfl) ?_
  refine lv_iload hx hb dL_law_1236 (lv_at hl 4 rfl) ?_
  refine lv_iconst (v := 1) hx hb dL_law_1238 (by decide) ?_
  refine top_eq (y := nI 1) rfl ?_
  refine iadd_n (x := i) (y := 1) hx hb dL_law_1239 ?_
  refine ld_s (k := i + 1) hx hb hX hbl hbA hS (by omega) (by omega) dL_law_1240 ?_
  refine lv_aload_n hx hb dL_law_1241 rfl (lv_at hl 0 rfl) ?_
  refine lv_iload hx hb dL_law_1242 (lv_at hl 4 rfl) ?_
  refine lv_iconst (v := 2) hx hb dL_law_1244 (by decide) ?_
  refine top_eq (y := nI 2) rfl ?_
  refine iadd_n (x := i) (y := 2) hx hb dL_law_1245 ?_
  refine ld_s (k := i + 2) hx hb hX hbl hbA hS (by omega) (by omega) dL_law_1246 ?_
  refine lv_aload_n hx hb dL_law_1247 rfl (lv_at hl 3 rfl) ?_
  obtain ⟨k, r, F', ik', kp', tu', n', hok', hHC, hMC⟩ := pr_lossWith (l := l) (D := D) (cI := cI) (cZ := cZ) (cO := cO) (cJ := cJ) hl0 hok hR hL (A := fun q => q ∈ L ∨ H.size ≤ q) (fun a h => Or.inl h) (z := H.size) (mi := mi) (ou := ou) (w := w) (fun q h => Or.inr h) hne hou2 (ad := ad) (ow := ow) (mp := mp) (nm5 := nm5) (gb5 := gb5) (ob5 := ob5) hg (A2 := fun q => ∃ j, j < 16 ∧ q = ad j) (ad_self had) (xs (i + 1)) (xs (i + 2))
  refine va_calli (vx_runSW (As := [.ref (AD 0 0), .int (xs (i + 1)), .int (xs (i + 2)), .ref ou]) (rest := []) ⟨hx, hb, hml, hown, hts⟩ hHC (vx_cwSW 4 hts gL_law_L_lossWith rfl rfl rfl (by decide +kernel) ⟨Nat.le_of_ble_eq_true rfl, Nat.le_of_ble_eq_true rfl⟩) ⟨HW.blind, fun U hU hW => ⟨rfl, ⟨⟨⟨by rw [hU]; exact hP, va_K.moved hW.alike hK, hN.warm hW⟩, hWF.nx hS hU hW, hWF.fy hS (fun q h => hAz q (Or.inl h)) (Nat.le_refl _) hU hW⟩, by rw [hU]; exact hPo, va_K.moved hW.alike hKJ, hWF.1.2.1.move hW⟩⟩⟩ rfl rfl hl.1 rfl (lv_room (Nat.le_of_ble_eq_true rfl)) dL_law_1248 ⟨hc, hs⟩) hS (fun q _ h => hAz q h) hAz (fun r9 w9 t H1 locs1 ht hvm hw hB hz1 hk1 hS1 => ?_)
  obtain ⟨hw1, hw2⟩ := hw
  obtain ⟨hB1, hB2⟩ := hB
  rw [ht] at hB1 hB2
  rw [hw1]
  have hPm1 := md_kept had hPm hk1
  refine lv_istore (lv' := [(5, .int k), (0, .ref b), (1, .ref (AD 0 0)), (2, .ref (ad 0)), (3, .ref ou), (4, .int (nI i))]) hx hb dL_law_1251 hl (by decide) rfl (fun ls hl => ?_)
  refine lv_aload_n hx hb dL_law_1253 rfl (lv_at hl 3 rfl) ?_
  refine lv_aload_n hx hb dL_law_1254 rfl (lv_at hl 1 rfl) ?_
  refine lv_iload hx hb dL_law_1255 (lv_at hl 5 rfl) ?_
  refine lv_iconst (v := 1) hx hb dL_law_1257 (by decide) ?_
  refine top_eq (y := nI 1) rfl ?_
  refine iadd_n (x := i) (y := 1) hx hb dL_law_1258 ?_
  refine ld_s (k := i + 1) hx hb hX hbl hbA hS1 (by omega) (by omega) dL_law_1259 ?_
  refine lv_aload_n hx hb dL_law_1260 rfl (lv_at hl 1 rfl) ?_
  refine lv_iload hx hb dL_law_1261 (lv_at hl 5 rfl) ?_
  refine lv_iconst (v := 2) hx hb dL_law_1263 (by decide) ?_
  refine top_eq (y := nI 2) rfl ?_
  refine iadd_n (x := i) (y := 2) hx hb dL_law_1264 ?_
  refine ld_s (k := i + 2) hx hb hX hbl hbA hS1 (by omega) (by omega) dL_law_1265 ?_
  refine va_calli (va_runV (As := [.int (xs (i + 1)), .int (xs (i + 2))]) (rest := []) ⟨hx, hb, hml, hown, hts⟩ hMC (cwV 2 hts gL_law_X5_lossWith rfl rfl rfl (by decide +kernel) ⟨Nat.le_of_ble_eq_true rfl, Nat.le_of_ble_eq_true rfl⟩) ⟨rd_blind, va_recv hK2 hPm1 (ci := 6) (q0 := 0) rfl rfl, rd_pre hPm1 hK2 hN⟩ rfl rfl hl.1 rfl (lv_room (Nat.le_of_ble_eq_true rfl)) dL_law_1266 ⟨hc, hs⟩) hS1 (fun q _ h => hAm q h) hAm (fun r8 u8 t2 H2 locs2 ht2 hvm2 hw8 hM8 hz2 hk2 hS2 => ?_)
  rw [ht2] at hM8
  refine lv_istore (lv' := [(6, .int r8), (5, .int k), (0, .ref b), (1, .ref (AD 0 0)), (2, .ref (ad 0)), (3, .ref ou), (4, .int (nI i))]) hx hb dL_law_1269 hl (by decide) rfl (fun ls hl => ?_)
  obtain ⟨ow8, mp8, nm8, gb8, ob8, g8, hg8, hk8, hPm8⟩ := id hM8
  have hPo2 : va_P D vwCl [(ou, lgC cJ w9)] H2 := hB2.kept (fun j q hq => hk2 q.1 (va_at.lt (hB2 j q hq)) (by have hm := List.mem_of_getElem? hq; rw [List.mem_singleton] at hm; rw [hm]; exact hno))
  refine lv_aload_n hx hb dL_law_1271 rfl (lv_at hl 4 rfl) ?_
  refine vp_callSi (W.runV (As := []) (rest := []) ⟨hx, hb, hml, hown, hts⟩ (k_X5_thrown l D cI cZ ad F' ow8 mp8 nm8 gb8 ob8 ik' kp' tu' g8) (cwV 0 hts gL_law_X5_thrown rfl rfl rfl (by decide +kernel) ⟨Nat.le_of_ble_eq_true rfl, Nat.le_of_ble_eq_true rfl⟩) ⟨rd_blind, va_recv hK2 hPm8 (ci := 6) (q0 := 0) rfl rfl, rd_pre hPm8 hK2 hN⟩ rfl rfl hl.1 rfl (lv_room (Nat.le_of_ble_eq_true rfl)) dL_law_1272 ⟨hc, hs⟩) (fun r7 er => ?_)
  rw [er, hk8]
  refine lv_iload hx hb dL_law_1275 (lv_at hl 1 rfl) ?_
  refine lv_icmp_eq (tgt := 1282) hx hb dL_law_1277 (by decide) (fun _ => ?_) (fun h9 => absurd rfl h9)
  refine lv_iload hx hb dL_law_1282 (lv_at hl 1 rfl) ?_
  have END : W p l e room_1 s m #[Value.ref b] below meth c H2 locs2 (cells + 4) (slots + 40) Q (F0 m 1299 ls []) := by
    refine lv_goto (tgt := 1565) hx hb dL_law_1299 (by decide) ?_
    exact kk H2 locs2 ls (LI.step hLz had rfl hadH hou houz houH hzH hok' hB1 hB2 hM8 hk2) hS2 (lv_sub hl [2, 3, 4, 5, 6] rfl)
  refine lv_if_ne (tgt := 1299) hx hb dL_law_1284 (by decide) (fun _ => END) (fun hk0 => ?_)
  have hr8 : r8 = r := hw8 hk0
  refine lv_aload_n hx hb dL_law_1287 rfl (lv_at hl 5 rfl) ?_
  refine lv_iconst (v := 0) hx hb dL_law_1288 (by decide) ?_
  refine top_eq (y := nI 0) rfl ?_
  refine ld_l (k := 0) hx hb hKJ hPo2 0 0 rfl rfl (by decide) (by decide) dL_law_1289 ?_
  refine top_el (y := r8.toInt64) (by rw [hw2 hk0, hr8]) ?_
  refine lv_iload hx hb dL_law_1290 (lv_at hl 0 rfl) ?_
  refine lv_i2l (v := r8.toInt64) hx hb dL_law_1292 rfl ?_
  refine W.lcmp hx hb dL_law_1293 ?_
  refine top_eq (y := 0) (lg_self _) ?_
  exact lv_if_eq (tgt := 1299) hx hb dL_law_1294 (by decide) (fun _ => END) (fun h9 => absurd rfl h9)
