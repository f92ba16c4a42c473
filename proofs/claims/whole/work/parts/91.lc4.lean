set_option maxHeartbeats 800000 in
set_option maxRecDepth 100000 in
theorem lc_17 {p : Program} {l : Launch} {e : Env} {s : State} {m : MethodId} {below : List Frame} {meth : Method} {c : Code} {b Lx : Nat} {xs : Nat → Int32} {D : va_G} {cI cZ cO cJ : ClassId} {e0 mi x0 m0 ou : Nat} (hC : LX p l s m c b Lx xs D cI cZ cO cJ e0 mi) {H : Heap} {locs : List Loc} {cells slots : Nat} (hI : LI D cI cZ cO cJ s.heap.size e0 x0 m0 ou H) (hS : va_S (Zs s) s.heap H locs) {i : Nat} (hi : i + 6 ≤ Lx) {Q : State → Prop} {ls : Array Slot} (hl : lv_has ls 7 [(0, .ref b), (1, .ref x0), (2, .ref m0), (3, .ref ou), (4, .int (nI i))]) (hc : cells + 4 ≤ 679203) (hs : slots + 40 ≤ 7058495)
    (kk : ∀ (H2 : Heap) (locs2 : List Loc) (ls2 : Array Slot), LI D cI cZ cO cJ s.heap.size e0 x0 m0 ou H2 → va_S (Zs s) s.heap H2 locs2 → lv_has ls2 7 [(0, .ref b), (1, .ref x0), (2, .ref m0), (3, .ref ou), (4, .int (nI i))] → W p l e room_1 s m #[Value.ref b] below meth c H2 locs2 (cells + 4) (slots + 40) Q (F0 m 1565 ls2 [])) : W p l e room_1 s m #[Value.ref b] below meth c H locs cells slots Q (F0 m 1302 ls []) := by
  obtain ⟨⟨hx, hb, hml, hown, hts⟩, ⟨hX, hbl, hLx⟩, ⟨hl0, hK, hKJ⟩, hWF⟩ := hC
  obtain ⟨F, ik, kp, tu, n, k0, ad, w, he, gv, gp, gb, ob, nm, lo, L, f, tg, AD, mc, hok, ⟨hL, hLz, hx0, he0, hP, hR⟩, ⟨had, hm0, hMX⟩, hou, houz, hPo⟩ := hI
  subst hx0
  subst he0
  subst hm0
  obtain ⟨ow, mp, nm5, gb5, ob5, g, hg, -, hPm⟩ := hMX
  have hbA : ¬ Zs s b := Nat.not_le.mpr hbl
  have hN := hWF.1.1
  have hK2 : va_K D vwCl [(cI, .int), (cZ, .boolean)] s := hK.sub (tys' := [(cI, .int), (cZ, .boolean)]) [0, 1] rfl
  have hzH : s.heap.size ≤ H.size := hS.1
  have hadH : ∀ j, j < 16 → ad j < H.size := fun j hj => md_lt hPm hj
  have houH : ou < H.size := va_at.lt (hPo 0 _ rfl)
  have he0s := hWF.elt
  have hAz : ∀ q, (q ∈ L ∨ H.size ≤ q) ∨ q = ou → Zs s q := fun q h => h.elim (fun h => h.elim (fun h => hLz q h) (fun h => Nat.le_trans hzH h)) (fun h => by rw [h]; exact houz)
  have hAm : ∀ q, (∃ j, j < 16 ∧ q = ad j) → Zs s q := fun q ⟨j, hj, ej⟩ => by rw [ej]; exact (had.2 j hj).1
  have hne : ¬ (AD 7 0 ∈ L ∨ H.size ≤ AD 7 0) := fun hh => hh.elim (fun h => absurd (hLz _ h) (Nat.not_le.mpr he0s)) (fun h => by omega)
  have hou2 : ¬ (ou ∈ L ∨ H.size ≤ ou) := fun hh => hh.elim hou (fun h => by omega)
  have hno : ¬ ∃ j, j < 16 ∧ ou = ad j := fun ⟨j, hj, ej⟩ => (had.2 j hj).2.2 ej.symm
  refine lv_aload_n hx hb dL_law_1302 rfl (lv_at hl 1 rfl) ?_
  obtain ⟨hM, hE, hBo, hw6, hZ⟩ := id hok
  have hMg : okM F g n := ⟨hg, hM.2⟩
  obtain ⟨kx, ex⟩ := hR.x.at
  refine va_calli (va_runV (As := []) (rest := []) ⟨hx, hb, hml, hown, hts⟩ (k_X4_pass l D cI cZ cO hR (fun q => q ∈ L ∨ H.size ≤ q) hL (fun a h => Or.inl h) hM hE) (cwV 0 hts gL_law_X4_pass rfl rfl rfl (by decide +kernel) ⟨Nat.le_of_ble_eq_true rfl, Nat.le_of_ble_eq_true rfl⟩) ⟨rd_blind, va_recv hK hP (ci := 5) (q0 := kx) rfl ex, rd_pre hP hK hN⟩ rfl rfl hl.1 rfl (lv_room (Nat.le_of_ble_eq_true rfl)) dL_law_1303 ⟨(show cells + 0 ≤ 679203 by omega), (show slots + 0 ≤ 7058495 by omega)⟩) hS (fun q _ h => hAz q (Or.inl h)) (fun q h => hAz q (Or.inl h)) (fun r9 u9 t H1 locs1 ht hvm hw hB hz1 hk1 hS1 => ?_)
  have hCX := cx_PB (A := fun q => q ∈ L ∨ H.size ≤ q) hL (fun a h => Or.inl h) rfl rfl hB
  rw [ht] at hCX
  rw [hw]
  have hPm1 := md_kept had hPm (fun q h1 h2 => hk1 q h1 (fun hc => h2 (Or.inl hc)))
  have hPo1 : va_P D vwCl [(ou, lgC cJ w)] H1 := hPo.kept (fun j q hq => hk1 q.1 (va_at.lt (hPo j q hq)) (by have hm := List.mem_of_getElem? hq; rw [List.mem_singleton] at hm; rw [hm]; exact hou2))
  refine lv_aload_n hx hb dL_law_1306 rfl (lv_at hl 2 rfl) ?_
  refine va_calli (va_runV (As := []) (rest := [.int (psN F o0 gv ik kp n)]) ⟨hx, hb, hml, hown, hts⟩ (m_pass l D cI cZ ad (fun q => ∃ j, j < 16 ∧ q = ad j) F ow mp nm5 gb5 ob5 ik kp tu g (ad_self had) n hMg) (cwV 0 hts gL_law_X5_pass rfl rfl rfl (by decide +kernel) ⟨Nat.le_of_ble_eq_true rfl, Nat.le_of_ble_eq_true rfl⟩) ⟨rd_blind, va_recv hK2 hPm1 (ci := 6) (q0 := 0) rfl rfl, rd_pre hPm1 hK2 hN⟩ rfl rfl hl.1 rfl (lv_room (Nat.le_of_ble_eq_true rfl)) dL_law_1307 ⟨(show cells + 0 + 0 ≤ 679203 by omega), (show slots + 0 + 0 ≤ 7058495 by omega)⟩) hS1 (fun q _ h => hAm q h) hAm (fun r8 u8 t2 H2 locs2 ht2 hvm2 hw8 hM8 hz2 hk2 hS2 => ?_)
  rw [ht2, kpA_any F ow mp gv kp n] at hM8
  rw [hw8, psN_any F ow mp gv ik kp n]
  refine lv_icmp_eq (tgt := 1565) hx hb dL_law_1310 (by decide) (fun _ => ?_) (fun h9 => absurd rfl h9)
  refine W.widen (k := cells + 4) (n := slots + 40) (by omega) (by omega) ?_
  exact kk H2 locs2 ls (LI.step hLz had rfl hadH hou houz houH hzH (hok.pass o0 gv) hCX hPo1 ⟨_, _, _, _, _, va_up g 19 0, hg, rfl, hM8⟩ hk2) hS2 hl
set_option maxHeartbeats 800000 in
set_option maxRecDepth 100000 in
theorem lc_18 {p : Program} {l : Launch} {e : Env} {s : State} {m : MethodId} {below : List Frame} {meth : Method} {c : Code} {b Lx : Nat} {xs : Nat → Int32} {D : va_G} {cI cZ cO cJ : ClassId} {e0 mi x0 m0 ou : Nat} (hC : LX p l s m c b Lx xs D cI cZ cO cJ e0 mi) {H : Heap} {locs : List Loc} {cells slots : Nat} (hI : LI D cI cZ cO cJ s.heap.size e0 x0 m0 ou H) (hS : va_S (Zs s) s.heap H locs) {i : Nat} (hi : i + 6 ≤ Lx) {Q : State → Prop} {ls : Array Slot} (hl : lv_has ls 7 [(0, .ref b), (1, .ref x0), (2, .ref m0), (3, .ref ou), (4, .int (nI i))]) (hc : cells + 4 ≤ 679203) (hs : slots + 40 ≤ 7058495)
    (kk : ∀ (H2 : Heap) (locs2 : List Loc) (ls2 : Array Slot), LI D cI cZ cO cJ s.heap.size e0 x0 m0 ou H2 → va_S (Zs s) s.heap H2 locs2 → lv_has ls2 7 [(0, .ref b), (1, .ref x0), (2, .ref m0), (3, .ref ou), (4, .int (nI i))] → W p l e room_1 s m #[Value.ref b] below meth c H2 locs2 (cells + 4) (slots + 40) Q (F0 m 1565 ls2 [])) : W p l e room_1 s m #[Value.ref b] below meth c H locs cells slots Q (F0 m 1315 ls []) := by
  obtain ⟨⟨hx, hb, hml, hown, hts⟩, ⟨hX, hbl, hLx⟩, ⟨hl0, hK, hKJ⟩, hWF⟩ := hC
  obtain ⟨F, ik, kp, tu, n, k0, ad, w, he, gv, gp, gb, ob, nm, lo, L, f, tg, AD, mc, hok, ⟨hL, hLz, hx0, he0, hP, hR⟩, ⟨had, hm0, hMX⟩, hou, houz, hPo⟩ := hI
  subst hx0
  subst he0
  subst hm0
  obtain ⟨ow, mp, nm5, gb5, ob5, g, hg, -, hPm⟩ := hMX
  have hbA : ¬ Zs s b := Nat.not_le.mpr hbl
  have hN := hWF.1.1
  have hK2 : va_K D vwCl [(cI, .int), (cZ, .boolean)] s := hK.sub (tys' := [(cI, .int), (cZ, .boolean)]) [0, 1] rfl
  have hzH : s.heap.size ≤ H.size := hS.1
  have hadH : ∀ j, j < 16 → ad j < H.size := fun j hj => md_lt hPm hj
  have houH : ou < H.size := va_at.lt (hPo 0 _ rfl)
  have he0s := hWF.elt
  have hAz : ∀ q, (q ∈ L ∨ H.size ≤ q) ∨ q = ou → Zs s q := fun q h => h.elim (fun h => h.elim (fun h => hLz q h) (fun h => Nat.le_trans hzH h)) (fun h => by rw [h]; exact houz)
  have hAm : ∀ q, (∃ j, j < 16 ∧ q = ad j) → Zs s q := fun q ⟨j, hj, ej⟩ => by rw [ej]; exact (had.2 j hj).1
  have hne : ¬ (AD 7 0 ∈ L ∨ H.size ≤ AD 7 0) := fun hh => hh.elim (fun h => absurd (hLz _ h) (Nat.not_le.mpr he0s)) (fun h => by omega)
  have hou2 : ¬ (ou ∈ L ∨ H.size ≤ ou) := fun hh => hh.elim hou (fun h => by omega)
  have hno : ¬ ∃ j, j < 16 ∧ ou = ad j := fun ⟨j, hj, ej⟩ => (had.2 j hj).2.2 ej.symm
  refine lv_aload_n hx hb dL_law_1315 rfl (lv_at hl 1 rfl) ?_
  refine lv_aload_n hx hb dL_law_1316 rfl (lv_at hl 0 rfl) ?_
  refine lv_iload hx hb dL_law_1317 (lv_at hl 4 rfl) ?_
  refine lv_iconst (v := 1) hx hb dL_law_1319 (by decide) ?_
  refine top_eq (y := nI 1) rfl ?_
  refine iadd_n (x := i) (y := 1) hx hb dL_law_1320 ?_
  refine ld_s (k := i + 1) hx hb hX hbl hbA hS (by omega) (by omega) dL_law_1321 ?_
  refine lv_aload_n hx hb dL_law_1322 rfl (lv_at hl 3 rfl) ?_
  obtain ⟨k, r, F', ik', kp', tu', n', hok', hHC, hMC⟩ := pr_isFresh (l := l) (D := D) (cI := cI) (cZ := cZ) (cO := cO) (cJ := cJ) hl0 hok hR hL (A := fun q => q ∈ L ∨ H.size ≤ q) (fun a h => Or.inl h) (z := H.size) (mi := mi) (ou := ou) (w := w) (fun q h => Or.inr h) hne hou2 (ad := ad) (ow := ow) (mp := mp) (nm5 := nm5) (gb5 := gb5) (ob5 := ob5) hg (A2 := fun q => ∃ j, j < 16 ∧ q = ad j) (ad_self had) (xs (i + 1))
  refine va_calli (vx_runSW (As := [.ref (AD 0 0), .int (xs (i + 1)), .ref ou]) (rest := []) ⟨hx, hb, hml, hown, hts⟩ hHC (vx_cwSW 3 hts gL_law_L_isFresh rfl rfl rfl (by decide +kernel) ⟨Nat.le_of_ble_eq_true rfl, Nat.le_of_ble_eq_true rfl⟩) ⟨HW.blind, fun U hU hW => ⟨rfl, ⟨⟨⟨by rw [hU]; exact hP, va_K.moved hW.alike hK, hN.warm hW⟩, hWF.nx hS hU hW, hWF.fy hS (fun q h => hAz q (Or.inl h)) (Nat.le_refl _) hU hW⟩, by rw [hU]; exact hPo, va_K.moved hW.alike hKJ, hWF.1.2.1.move hW⟩⟩⟩ rfl rfl hl.1 rfl (lv_room (Nat.le_of_ble_eq_true rfl)) dL_law_1323 ⟨hc, hs⟩) hS (fun q _ h => hAz q h) hAz (fun r9 w9 t H1 locs1 ht hvm hw hB hz1 hk1 hS1 => ?_)
  obtain ⟨hw1, hw2⟩ := hw
  obtain ⟨hB1, hB2⟩ := hB
  rw [ht] at hB1 hB2
  rw [hw1]
  have hPm1 := md_kept had hPm hk1
  refine lv_istore (lv' := [(5, .int k), (0, .ref b), (1, .ref (AD 0 0)), (2, .ref (ad 0)), (3, .ref ou), (4, .int (nI i))]) hx hb dL_law_1326 hl (by decide) rfl (fun ls hl => ?_)
  refine lv_aload_n hx hb dL_law_1328 rfl (lv_at hl 3 rfl) ?_
  refine lv_aload_n hx hb dL_law_1329 rfl (lv_at hl 1 rfl) ?_
  refine lv_iload hx hb dL_law_1330 (lv_at hl 5 rfl) ?_
  refine lv_iconst (v := 1) hx hb dL_law_1332 (by decide) ?_
  refine top_eq (y := nI 1) rfl ?_
  refine iadd_n (x := i) (y := 1) hx hb dL_law_1333 ?_
  refine ld_s (k := i + 1) hx hb hX hbl hbA hS1 (by omega) (by omega) dL_law_1334 ?_
  refine va_calli (va_runV (As := [.int (xs (i + 1))]) (rest := []) ⟨hx, hb, hml, hown, hts⟩ hMC (cwV 1 hts gL_law_X5_isFresh rfl rfl rfl (by decide +kernel) ⟨Nat.le_of_ble_eq_true rfl, Nat.le_of_ble_eq_true rfl⟩) ⟨rd_blind, va_recv hK2 hPm1 (ci := 6) (q0 := 0) rfl rfl, rd_pre hPm1 hK2 hN⟩ rfl rfl hl.1 rfl (lv_room (Nat.le_of_ble_eq_true rfl)) dL_law_1335 ⟨hc, hs⟩) hS1 (fun q _ h => hAm q h) hAm (fun r8 u8 t2 H2 locs2 ht2 hvm2 hw8 hM8 hz2 hk2 hS2 => ?_)
  rw [ht2] at hM8
  refine lv_istore (lv' := [(6, .int r8), (5, .int k), (0, .ref b), (1, .ref (AD 0 0)), (2, .ref (ad 0)), (3, .ref ou), (4, .int (nI i))]) hx hb dL_law_1338 hl (by decide) rfl (fun ls hl => ?_)
  obtain ⟨ow8, mp8, nm8, gb8, ob8, g8, hg8, hk8, hPm8⟩ := id hM8
  have hPo2 : va_P D vwCl [(ou, lgC cJ w9)] H2 := hB2.kept (fun j q hq => hk2 q.1 (va_at.lt (hB2 j q hq)) (by have hm := List.mem_of_getElem? hq; rw [List.mem_singleton] at hm; rw [hm]; exact hno))
  refine lv_aload_n hx hb dL_law_1340 rfl (lv_at hl 4 rfl) ?_
  refine vp_callSi (W.runV (As := []) (rest := []) ⟨hx, hb, hml, hown, hts⟩ (k_X5_thrown l D cI cZ ad F' ow8 mp8 nm8 gb8 ob8 ik' kp' tu' g8) (cwV 0 hts gL_law_X5_thrown rfl rfl rfl (by decide +kernel) ⟨Nat.le_of_ble_eq_true rfl, Nat.le_of_ble_eq_true rfl⟩) ⟨rd_blind, va_recv hK2 hPm8 (ci := 6) (q0 := 0) rfl rfl, rd_pre hPm8 hK2 hN⟩ rfl rfl hl.1 rfl (lv_room (Nat.le_of_ble_eq_true rfl)) dL_law_1341 ⟨hc, hs⟩) (fun r7 er => ?_)
  rw [er, hk8]
  refine lv_iload hx hb dL_law_1344 (lv_at hl 1 rfl) ?_
  refine lv_icmp_eq (tgt := 1351) hx hb dL_law_1346 (by decide) (fun _ => ?_) (fun h9 => absurd rfl h9)
  refine lv_iload hx hb dL_law_1351 (lv_at hl 1 rfl) ?_
  have END : W p l e room_1 s m #[Value.ref b] below meth c H2 locs2 (cells + 4) (slots + 40) Q (F0 m 1375 ls []) := by
    refine lv_goto (tgt := 1565) hx hb dL_law_1375 (by decide) ?_
    exact kk H2 locs2 ls (LI.step hLz had rfl hadH hou houz houH hzH hok' hB1 hB2 hM8 hk2) hS2 (lv_sub hl [2, 3, 4, 5, 6] rfl)
  refine lv_if_ne (tgt := 1375) hx hb dL_law_1353 (by decide) (fun _ => END) (fun hk0 => ?_)
  have hr8 : r8 = r := hw8 hk0
  refine lv_aload_n hx hb dL_law_1356 rfl (lv_at hl 5 rfl) ?_
  refine lv_iconst (v := 0) hx hb dL_law_1357 (by decide) ?_
  refine top_eq (y := nI 0) rfl ?_
  refine ld_l (k := 0) hx hb hKJ hPo2 0 0 rfl rfl (by decide) (by decide) dL_law_1358 ?_
  have JZ : ∀ y9 : Int64, y9 = lvZ r8 → W p l e room_1 s m #[Value.ref b] below meth c H2 locs2 (cells + 4) (slots + 40) Q (F0 m 1369 ls [.long y9, .long (w9 0)]) := by
    intro y9 ey9
    have e9 : w9 0 = y9 := by rw [hw2 hk0, ey9, hr8]
    rw [e9]
    refine W.lcmp hx hb dL_law_1369 ?_
    refine top_eq (y := 0) (lg_self _) ?_
    exact lv_if_eq (tgt := 1375) hx hb dL_law_1370 (by decide) (fun _ => END) (fun h9 => absurd rfl h9)
  refine lv_iload hx hb dL_law_1359 (lv_at hl 0 rfl) ?_
  refine lv_if_eq (tgt := 1368) hx hb dL_law_1361 (by decide) (fun c0 => ?_) (fun c0 => ?_)
  · refine lv_lconst (v := 0) hx hb dL_law_1368 (by decide) ?_
    exact JZ _ (if_pos c0).symm
  · refine lv_lconst (v := 1) hx hb dL_law_1364 (by decide) ?_
    refine lv_goto (tgt := 1369) hx hb dL_law_1365 (by decide) ?_
    exact JZ _ (if_neg c0).symm
set_option maxHeartbeats 800000 in
set_option maxRecDepth 100000 in
theorem lc_19 {p : Program} {l : Launch} {e : Env} {s : State} {m : MethodId} {below : List Frame} {meth : Method} {c : Code} {b Lx : Nat} {xs : Nat → Int32} {D : va_G} {cI cZ cO cJ : ClassId} {e0 mi x0 m0 ou : Nat} (hC : LX p l s m c b Lx xs D cI cZ cO cJ e0 mi) {H : Heap} {locs : List Loc} {cells slots : Nat} (hI : LI D cI cZ cO cJ s.heap.size e0 x0 m0 ou H) (hS : va_S (Zs s) s.heap H locs) {i : Nat} (hi : i + 6 ≤ Lx) {Q : State → Prop} {ls : Array Slot} (hl : lv_has ls 7 [(0, .ref b), (1, .ref x0), (2, .ref m0), (3, .ref ou), (4, .int (nI i))]) (hc : cells + 4 ≤ 679203) (hs : slots + 40 ≤ 7058495)
    (kk : ∀ (H2 : Heap) (locs2 : List Loc) (ls2 : Array Slot), LI D cI cZ cO cJ s.heap.size e0 x0 m0 ou H2 → va_S (Zs s) s.heap H2 locs2 → lv_has ls2 7 [(0, .ref b), (1, .ref x0), (2, .ref m0), (3, .ref ou), (4, .int (nI i))] → W p l e room_1 s m #[Value.ref b] below meth c H2 locs2 (cells + 4) (slots + 40) Q (F0 m 1565 ls2 [])) : W p l e room_1 s m #[Value.ref b] below meth c H locs cells slots Q (F0 m 1378 ls []) := by
  obtain ⟨⟨hx, hb, hml, hown, hts⟩, ⟨hX, hbl, hLx⟩, ⟨hl0, hK, hKJ⟩, hWF⟩ := hC
  obtain ⟨F, ik, kp, tu, n, k0, ad, w, he, gv, gp, gb, ob, nm, lo, L, f, tg, AD, mc, hok, ⟨hL, hLz, hx0, he0, hP, hR⟩, ⟨had, hm0, hMX⟩, hou, houz, hPo⟩ := hI
  subst hx0
  subst he0
  subst hm0
  obtain ⟨ow, mp, nm5, gb5, ob5, g, hg, -, hPm⟩ := hMX
  have hbA : ¬ Zs s b := Nat.not_le.mpr hbl
  have hN := hWF.1.1
  have hK2 : va_K D vwCl [(cI, .int), (cZ, .boolean)] s := hK.sub (tys' := [(cI, .int), (cZ, .boolean)]) [0, 1] rfl
  have hzH : s.heap.size ≤ H.size := hS.1
  have hadH : ∀ j, j < 16 → ad j < H.size := fun j hj => md_lt hPm hj
  have houH : ou < H.size := va_at.lt (hPo 0 _ rfl)
  have he0s := hWF.elt
  have hAz : ∀ q, (q ∈ L ∨ H.size ≤ q) ∨ q = ou → Zs s q := fun q h => h.elim (fun h => h.elim (fun h => hLz q h) (fun h => Nat.le_trans hzH h)) (fun h => by rw [h]; exact houz)
  have hAm : ∀ q, (∃ j, j < 16 ∧ q = ad j) → Zs s q := fun q ⟨j, hj, ej⟩ => by rw [ej]; exact (had.2 j hj).1
  have hne : ¬ (AD 7 0 ∈ L ∨ H.size ≤ AD 7 0) := fun hh => hh.elim (fun h => absurd (hLz _ h) (Nat.not_le.mpr he0s)) (fun h => by omega)
  have hou2 : ¬ (ou ∈ L ∨ H.size ≤ ou) := fun hh => hh.elim hou (fun h => by omega)
  have hno : ¬ ∃ j, j < 16 ∧ ou = ad j := fun ⟨j, hj, ej⟩ => (had.2 j hj).2.2 ej.symm
  refine lv_aload_n hx hb dL_law_1378 rfl (lv_at hl 1 rfl) ?_
  refine lv_aload_n hx hb dL_law_1379 rfl (lv_at hl 0 rfl) ?_
  refine lv_iload hx hb dL_law_1380 (lv_at hl 4 rfl) ?_
  refine lv_iconst (v := 1) hx hb dL_law_1382 (by decide) ?_
  refine top_eq (y := nI 1) rfl ?_
  refine iadd_n (x := i) (y := 1) hx hb dL_law_1383 ?_
  refine ld_s (k := i + 1) hx hb hX hbl hbA hS (by omega) (by omega) dL_law_1384 ?_
  refine lv_aload_n hx hb dL_law_1385 rfl (lv_at hl 3 rfl) ?_
  obtain ⟨k, r, F', ik', kp', tu', n', hok', hHC, hMC⟩ := pr_turn (l := l) (D := D) (cI := cI) (cZ := cZ) (cO := cO) (cJ := cJ) hl0 hok hR hL (A := fun q => q ∈ L ∨ H.size ≤ q) (fun a h => Or.inl h) (z := H.size) (mi := mi) (ou := ou) (w := w) (fun q h => Or.inr h) hne hou2 (ad := ad) (ow := ow) (mp := mp) (nm5 := nm5) (gb5 := gb5) (ob5 := ob5) hg (A2 := fun q => ∃ j, j < 16 ∧ q = ad j) (ad_self had) (xs (i + 1))
  refine va_calli (vx_runSW (As := [.ref (AD 0 0), .int (xs (i + 1)), .ref ou]) (rest := []) ⟨hx, hb, hml, hown, hts⟩ hHC (vx_cwSW 3 hts gL_law_L_turn rfl rfl rfl (by decide +kernel) ⟨Nat.le_of_ble_eq_true rfl, Nat.le_of_ble_eq_true rfl⟩) ⟨HW.blind, fun U hU hW => ⟨rfl, ⟨⟨⟨by rw [hU]; exact hP, va_K.moved hW.alike hK, hN.warm hW⟩, hWF.nx hS hU hW, hWF.fy hS (fun q h => hAz q (Or.inl h)) (Nat.le_refl _) hU hW⟩, by rw [hU]; exact hPo, va_K.moved hW.alike hKJ, hWF.1.2.1.move hW⟩⟩⟩ rfl rfl hl.1 rfl (lv_room (Nat.le_of_ble_eq_true rfl)) dL_law_1386 ⟨hc, hs⟩) hS (fun q _ h => hAz q h) hAz (fun r9 w9 t H1 locs1 ht hvm hw hB hz1 hk1 hS1 => ?_)
  obtain ⟨hw1, hw2⟩ := hw
  obtain ⟨hB1, hB2⟩ := hB
  rw [ht] at hB1 hB2
  rw [hw1]
  have hPm1 := md_kept had hPm hk1
  refine lv_istore (lv' := [(5, .int k), (0, .ref b), (1, .ref (AD 0 0)), (2, .ref (ad 0)), (3, .ref ou), (4, .int (nI i))]) hx hb dL_law_1389 hl (by decide) rfl (fun ls hl => ?_)
  refine lv_aload_n hx hb dL_law_1391 rfl (lv_at hl 3 rfl) ?_
  refine lv_aload_n hx hb dL_law_1392 rfl (lv_at hl 1 rfl) ?_
  refine lv_iload hx hb dL_law_1393 (lv_at hl 5 rfl) ?_
  refine lv_iconst (v := 1) hx hb dL_law_1395 (by decide) ?_
  refine top_eq (y := nI 1) rfl ?_
  refine iadd_n (x := i) (y := 1) hx hb dL_law_1396 ?_
  refine ld_s (k := i + 1) hx hb hX hbl hbA hS1 (by omega) (by omega) dL_law_1397 ?_
  refine va_calli (va_runV (As := [.int (xs (i + 1))]) (rest := []) ⟨hx, hb, hml, hown, hts⟩ hMC (cwV 1 hts gL_law_X5_turn rfl rfl rfl (by decide +kernel) ⟨Nat.le_of_ble_eq_true rfl, Nat.le_of_ble_eq_true rfl⟩) ⟨rd_blind, va_recv hK2 hPm1 (ci := 6) (q0 := 0) rfl rfl, rd_pre hPm1 hK2 hN⟩ rfl rfl hl.1 rfl (lv_room (Nat.le_of_ble_eq_true rfl)) dL_law_1398 ⟨hc, hs⟩) hS1 (fun q _ h => hAm q h) hAm (fun r8 u8 t2 H2 locs2 ht2 hvm2 hw8 hM8 hz2 hk2 hS2 => ?_)
  rw [ht2] at hM8
  refine lv_istore (lv' := [(6, .int r8), (5, .int k), (0, .ref b), (1, .ref (AD 0 0)), (2, .ref (ad 0)), (3, .ref ou), (4, .int (nI i))]) hx hb dL_law_1401 hl (by decide) rfl (fun ls hl => ?_)
  obtain ⟨ow8, mp8, nm8, gb8, ob8, g8, hg8, hk8, hPm8⟩ := id hM8
  have hPo2 : va_P D vwCl [(ou, lgC cJ w9)] H2 := hB2.kept (fun j q hq => hk2 q.1 (va_at.lt (hB2 j q hq)) (by have hm := List.mem_of_getElem? hq; rw [List.mem_singleton] at hm; rw [hm]; exact hno))
  refine lv_aload_n hx hb dL_law_1403 rfl (lv_at hl 4 rfl) ?_
  refine vp_callSi (W.runV (As := []) (rest := []) ⟨hx, hb, hml, hown, hts⟩ (k_X5_thrown l D cI cZ ad F' ow8 mp8 nm8 gb8 ob8 ik' kp' tu' g8) (cwV 0 hts gL_law_X5_thrown rfl rfl rfl (by decide +kernel) ⟨Nat.le_of_ble_eq_true rfl, Nat.le_of_ble_eq_true rfl⟩) ⟨rd_blind, va_recv hK2 hPm8 (ci := 6) (q0 := 0) rfl rfl, rd_pre hPm8 hK2 hN⟩ rfl rfl hl.1 rfl (lv_room (Nat.le_of_ble_eq_true rfl)) dL_law_1404 ⟨hc, hs⟩) (fun r7 er => ?_)
  rw [er, hk8]
  refine lv_iload hx hb dL_law_1407 (lv_at hl 1 rfl) ?_
  refine lv_icmp_eq (tgt := 1414) hx hb dL_law_1409 (by decide) (fun _ => ?_) (fun h9 => absurd rfl h9)
  refine lv_iload hx hb dL_law_1414 (lv_at hl 1 rfl) ?_
  have END : W p l e room_1 s m #[Value.ref b] below meth c H2 locs2 (cells + 4) (slots + 40) Q (F0 m 1438 ls []) := by
    refine lv_goto (tgt := 1565) hx hb dL_law_1438 (by decide) ?_
    exact kk H2 locs2 ls (LI.step hLz had rfl hadH hou houz houH hzH hok' hB1 hB2 hM8 hk2) hS2 (lv_sub hl [2, 3, 4, 5, 6] rfl)
  refine lv_if_ne (tgt := 1438) hx hb dL_law_1416 (by decide) (fun _ => END) (fun hk0 => ?_)
  have hr8 : r8 = r := hw8 hk0
  refine lv_aload_n hx hb dL_law_1419 rfl (lv_at hl 5 rfl) ?_
  refine lv_iconst (v := 0) hx hb dL_law_1420 (by decide) ?_
  refine top_eq (y := nI 0) rfl ?_
  refine ld_l (k := 0) hx hb hKJ hPo2 0 0 rfl rfl (by decide) (by decide) dL_law_1421 ?_
  have JZ : ∀ y9 : Int64, y9 = lvZ r8 → W p l e room_1 s m #[Value.ref b] below meth c H2 locs2 (cells + 4) (slots + 40) Q (F0 m 1432 ls [.long y9, .long (w9 0)]) := by
    intro y9 ey9
    have e9 : w9 0 = y9 := by rw [hw2 hk0, ey9, hr8]
    rw [e9]
    refine W.lcmp hx hb dL_law_1432 ?_
    refine top_eq (y := 0) (lg_self _) ?_
    exact lv_if_eq (tgt := 1438) hx hb dL_law_1433 (by decide) (fun _ => END) (fun h9 => absurd rfl h9)
  refine lv_iload hx hb dL_law_1422 (lv_at hl 0 rfl) ?_
  refine lv_if_eq (tgt := 1431) hx hb dL_law_1424 (by decide) (fun c0 => ?_) (fun c0 => ?_)
  · refine lv_lconst (v := 0) hx hb dL_law_1431 (by decide) ?_
    exact JZ _ (if_pos c0).symm
  · refine lv_lconst (v := 1) hx hb dL_law_1427 (by decide) ?_
    refine lv_goto (tgt := 1432) hx hb dL_law_1428 (by decide) ?_
    exact JZ _ (if_neg c0).symm
set_option maxHeartbeats 800000 in
set_option maxRecDepth 100000 in
theorem lc_20 {p : Program} {l : Launch} {e : Env} {s : State} {m : MethodId} {below : List Frame} {meth : Method} {c : Code} {b Lx : Nat} {xs : Nat → Int32} {D : va_G} {cI cZ cO cJ : ClassId} {e0 mi x0 m0 ou : Nat} (hC : LX p l s m c b Lx xs D cI cZ cO cJ e0 mi) {H : Heap} {locs : List Loc} {cells slots : Nat} (hI : LI D cI cZ cO cJ s.heap.size e0 x0 m0 ou H) (hS : va_S (Zs s) s.heap H locs) {i : Nat} (hi : i + 6 ≤ Lx) {Q : State → Prop} {ls : Array Slot} (hl : lv_has ls 7 [(0, .ref b), (1, .ref x0), (2, .ref m0), (3, .ref ou), (4, .int (nI i))]) (hc : cells + 4 ≤ 679203) (hs : slots + 40 ≤ 7058495)
    (kk : ∀ (H2 : Heap) (locs2 : List Loc) (ls2 : Array Slot), LI D cI cZ cO cJ s.heap.size e0 x0 m0 ou H2 → va_S (Zs s) s.heap H2 locs2 → lv_has ls2 7 [(0, .ref b), (1, .ref x0), (2, .ref m0), (3, .ref ou), (4, .int (nI i))] → W p l e room_1 s m #[Value.ref b] below meth c H2 locs2 (cells + 4) (slots + 40) Q (F0 m 1565 ls2 [])) : W p l e room_1 s m #[Value.ref b] below meth c H locs cells slots Q (F0 m 1441 ls []) := by
  obtain ⟨⟨hx, hb, hml, hown, hts⟩, ⟨hX, hbl, hLx⟩, ⟨hl0, hK, hKJ⟩, hWF⟩ := hC
  obtain ⟨F, ik, kp, tu, n, k0, ad, w, he, gv, gp, gb, ob, nm, lo, L, f, tg, AD, mc, hok, ⟨hL, hLz, hx0, he0, hP, hR⟩, ⟨had, hm0, hMX⟩, hou, houz, hPo⟩ := hI
  subst hx0
  subst he0
  subst hm0
  obtain ⟨ow, mp, nm5, gb5, ob5, g, hg, -, hPm⟩ := hMX
  have hbA : ¬ Zs s b := Nat.not_le.mpr hbl
  have hN := hWF.1.1
  have hK2 : va_K D vwCl [(cI, .int), (cZ, .boolean)] s := hK.sub (tys' := [(cI, .int), (cZ, .boolean)]) [0, 1] rfl
  have hzH : s.heap.size ≤ H.size := hS.1
  have hadH : ∀ j, j < 16 → ad j < H.size := fun j hj => md_lt hPm hj
  have houH : ou < H.size := va_at.lt (hPo 0 _ rfl)
  have he0s := hWF.elt
  have hAz : ∀ q, (q ∈ L ∨ H.size ≤ q) ∨ q = ou → Zs s q := fun q h => h.elim (fun h => h.elim (fun h => hLz q h) (fun h => Nat.le_trans hzH h)) (fun h => by rw [h]; exact houz)
  have hAm : ∀ q, (∃ j, j < 16 ∧ q = ad j) → Zs s q := fun q ⟨j, hj, ej⟩ => by rw [ej]; exact (had.2 j hj).1
  have hne : ¬ (AD 7 0 ∈ L ∨ H.size ≤ AD 7 0) := fun hh => hh.elim (fun h => absurd (hLz _ h) (Nat.not_le.mpr he0s)) (fun h => by omega)
  have hou2 : ¬ (ou ∈ L ∨ H.size ≤ ou) := fun hh => hh.elim hou (fun h => by omega)
  have hno : ¬ ∃ j, j < 16 ∧ ou = ad j := fun ⟨j, hj, ej⟩ => (had.2 j hj).2.2 ej.symm
  refine lv_aload_n hx hb dL_law_1441 rfl (lv_at hl 1 rfl) ?_
  refine lv_aload_n hx hb dL_law_1442 rfl (lv_at hl 0 rfl) ?_
  refine lv_iload hx hb dL_law_1443 (lv_at hl 4 rfl) ?_
  refine lv_iconst (v := 1) hx hb dL_law_1445 (by decide) ?_
  refine top_eq (y := nI 1) rfl ?_
  refine iadd_n (x := i) (y := 1) hx hb dL_law_1446 ?_
  refine ld_s (k := i + 1) hx hb hX hbl hbA hS (by omega) (by omega) dL_law_1447 ?_
  refine lv_aload_n hx hb dL_law_1448 rfl (lv_at hl 0 rfl) ?_
  refine lv_iload hx hb dL_law_1449 (lv_at hl 4 rfl) ?_
  refine lv_iconst (v := 2) hx hb dL_law_1451 (by decide) ?_
  refine top_eq (y := nI 2) rfl ?_
  refine iadd_n (x := i) (y := 2) hx hb dL_law_1452 ?_
  refine ld_s (k := i + 2) hx hb hX hbl hbA hS (by omega) (by omega) dL_law_1453 ?_
  refine lv_aload_n hx hb dL_law_1454 rfl (lv_at hl 3 rfl) ?_
  obtain ⟨k, r, F', ik', kp', tu', n', hok', hHC, hMC⟩ := pr_rightsNow (l := l) (D := D) (cI := cI) (cZ := cZ) (cO := cO) (cJ := cJ) hl0 hok hR hL (A := fun q => q ∈ L ∨ H.size ≤ q) (fun a h => Or.inl h) (z := H.size) (mi := mi) (ou := ou) (w := w) (fun q h => Or.inr h) hne hou2 (ad := ad) (ow := ow) (mp := mp) (nm5 := nm5) (gb5 := gb5) (ob5 := ob5) hg (A2 := fun q => ∃ j, j < 16 ∧ q = ad j) (ad_self had) (xs (i + 1)) (xs (i + 2))
  refine va_calli (vx_runSW (As := [.ref (AD 0 0), .int (xs (i + 1)), .int (xs (i + 2)), .ref ou]) (rest := []) ⟨hx, hb, hml, hown, hts⟩ hHC (vx_cwSW 4 hts gL_law_L_rightsNow rfl rfl rfl (by decide +kernel) ⟨Nat.le_of_ble_eq_true rfl, Nat.le_of_ble_eq_true rfl⟩) ⟨HW.blind, fun U hU hW => ⟨rfl, ⟨⟨⟨by rw [hU]; exact hP, va_K.moved hW.alike hK, hN.warm hW⟩, hWF.nx hS hU hW, hWF.fy hS (fun q h => hAz q (Or.inl h)) (Nat.le_refl _) hU hW⟩, by rw [hU]; exact hPo, va_K.moved hW.alike hKJ, hWF.1.2.1.move hW⟩⟩⟩ rfl rfl hl.1 rfl (lv_room (Nat.le_of_ble_eq_true rfl)) dL_law_1455 ⟨hc, hs⟩) hS (fun q _ h => hAz q h) hAz (fun r9 w9 t H1 locs1 ht hvm hw hB hz1 hk1 hS1 => ?_)
  obtain ⟨hw1, hw2⟩ := hw
  obtain ⟨hB1, hB2⟩ := hB
  rw [ht] at hB1 hB2
  rw [hw1]
  have hPm1 := md_kept had hPm hk1
  refine lv_istore (lv' := [(5, .int k), (0, .ref b), (1, .ref (AD 0 0)), (2, .ref (ad 0)), (3, .ref ou), (4, .int (nI i))]) hx hb dL_law_1458 hl (by decide) rfl (fun ls hl => ?_)
  refine lv_aload_n hx hb dL_law_1460 rfl (lv_at hl 3 rfl) ?_
  refine lv_aload_n hx hb dL_law_1461 rfl (lv_at hl 1 rfl) ?_
  refine lv_iload hx hb dL_law_1462 (lv_at hl 5 rfl) ?_
  refine lv_iconst (v := 1) hx hb dL_law_1464 (by decide) ?_
  refine top_eq (y := nI 1) rfl ?_
  refine iadd_n (x := i) (y := 1) hx hb dL_law_1465 ?_
  refine ld_s (k := i + 1) hx hb hX hbl hbA hS1 (by omega) (by omega) dL_law_1466 ?_
  refine lv_aload_n hx hb dL_law_1467 rfl (lv_at hl 1 rfl) ?_
  refine lv_iload hx hb dL_law_1468 (lv_at hl 5 rfl) ?_
  refine lv_iconst (v := 2) hx hb dL_law_1470 (by decide) ?_
  refine top_eq (y := nI 2) rfl ?_
  refine iadd_n (x := i) (y := 2) hx hb dL_law_1471 ?_
  refine ld_s (k := i + 2) hx hb hX hbl hbA hS1 (by omega) (by omega) dL_law_1472 ?_
  refine va_calli (va_runV (As := [.int (xs (i + 1)), .int (xs (i + 2))]) (rest := []) ⟨hx, hb, hml, hown, hts⟩ hMC (cwV 2 hts gL_law_X5_rightsNow rfl rfl rfl (by decide +kernel) ⟨Nat.le_of_ble_eq_true rfl, Nat.le_of_ble_eq_true rfl⟩) ⟨rd_blind, va_recv hK2 hPm1 (ci := 6) (q0 := 0) rfl rfl, rd_pre hPm1 hK2 hN⟩ rfl rfl hl.1 rfl (lv_room (Nat.le_of_ble_eq_true rfl)) dL_law_1473 ⟨hc, hs⟩) hS1 (fun q _ h => hAm q h) hAm (fun r8 u8 t2 H2 locs2 ht2 hvm2 hw8 hM8 hz2 hk2 hS2 => ?_)
  rw [ht2] at hM8
  refine lv_istore (lv' := [(6, .int r8), (5, .int k), (0, .ref b), (1, .ref (AD 0 0)), (2, .ref (ad 0)), (3, .ref ou), (4, .int (nI i))]) hx hb dL_law_1476 hl (by decide) rfl (fun ls hl => ?_)
  obtain ⟨ow8, mp8, nm8, gb8, ob8, g8, hg8, hk8, hPm8⟩ := id hM8
  have hPo2 : va_P D vwCl [(ou, lgC cJ w9)] H2 := hB2.kept (fun j q hq => hk2 q.1 (va_at.lt (hB2 j q hq)) (by have hm := List.mem_of_getElem? hq; rw [List.mem_singleton] at hm; rw [hm]; exact hno))
  refine lv_aload_n hx hb dL_law_1478 rfl (lv_at hl 4 rfl) ?_
  refine vp_callSi (W.runV (As := []) (rest := []) ⟨hx, hb, hml, hown, hts⟩ (k_X5_thrown l D cI cZ ad F' ow8 mp8 nm8 gb8 ob8 ik' kp' tu' g8) (cwV 0 hts gL_law_X5_thrown rfl rfl rfl (by decide +kernel) ⟨Nat.le_of_ble_eq_true rfl, Nat.le_of_ble_eq_true rfl⟩) ⟨rd_blind, va_recv hK2 hPm8 (ci := 6) (q0 := 0) rfl rfl, rd_pre hPm8 hK2 hN⟩ rfl rfl hl.1 rfl (lv_room (Nat.le_of_ble_eq_true rfl)) dL_law_1479 ⟨hc, hs⟩) (fun r7 er => ?_)
  rw [er, hk8]
  refine lv_iload hx hb dL_law_1482 (lv_at hl 1 rfl) ?_
  refine lv_icmp_eq (tgt := 1489) hx hb dL_law_1484 (by decide) (fun _ => ?_) (fun h9 => absurd rfl h9)
  refine lv_iload hx hb dL_law_1489 (lv_at hl 1 rfl) ?_
  have END : W p l e room_1 s m #[Value.ref b] below meth c H2 locs2 (cells + 4) (slots + 40) Q (F0 m 1506 ls []) := by
    refine lv_goto (tgt := 1565) hx hb dL_law_1506 (by decide) ?_
    exact kk H2 locs2 ls (LI.step hLz had rfl hadH hou houz houH hzH hok' hB1 hB2 hM8 hk2) hS2 (lv_sub hl [2, 3, 4, 5, 6] rfl)
  refine lv_if_ne (tgt := 1506) hx hb dL_law_1491 (by decide) (fun _ => END) (fun hk0 => ?_)
  have hr8 : r8 = r := hw8 hk0
  refine lv_aload_n hx hb dL_law_1494 rfl (lv_at hl 5 rfl) ?_
  refine lv_iconst (v := 0) hx hb dL_law_1495 (by decide) ?_
  refine top_eq (y := nI 0) rfl ?_
  refine ld_l (k := 0) hx hb hKJ hPo2 0 0 rfl rfl (by decide) (by decide) dL_law_1496 ?_
  refine top_el (y := r8.toInt64) (by rw [hw2 hk0, hr8]) ?_
  refine lv_iload hx hb dL_law_1497 (lv_at hl 0 rfl) ?_
  refine lv_i2l (v := r8.toInt64) hx hb dL_law_1499 rfl ?_
  refine W.lcmp hx hb dL_law_1500 ?_
  refine top_eq (y := 0) (lg_self _) ?_
  exact lv_if_eq (tgt := 1506) hx hb dL_law_1501 (by decide) (fun _ => END) (fun h9 => absurd rfl h9)
set_option maxHeartbeats 800000 in
set_option maxRecDepth 100000 in
theorem lc_21 {p : Program} {l : Launch} {e : Env} {s : State} {m : MethodId} {below : List Frame} {meth : Method} {c : Code} {b Lx : Nat} {xs : Nat → Int32} {D : va_G} {cI cZ cO cJ : ClassId} {e0 mi x0 m0 ou : Nat} (hC : LX p l s m c b Lx xs D cI cZ cO cJ e0 mi) {H : Heap} {locs : List Loc} {cells slots : Nat} (hI : LI D cI cZ cO cJ s.heap.size e0 x0 m0 ou H) (hS : va_S (Zs s) s.heap H locs) {i : Nat} (hi : i + 6 ≤ Lx) {Q : State → Prop} {ls : Array Slot} (hl : lv_has ls 7 [(0, .ref b), (1, .ref x0), (2, .ref m0), (3, .ref ou), (4, .int (nI i))]) (hc : cells + 4 ≤ 679203) (hs : slots + 40 ≤ 7058495)
    (kk : ∀ (H2 : Heap) (locs2 : List Loc) (ls2 : Array Slot), LI D cI cZ cO cJ s.heap.size e0 x0 m0 ou H2 → va_S (Zs s) s.heap H2 locs2 → lv_has ls2 7 [(0, .ref b), (1, .ref x0), (2, .ref m0), (3, .ref ou), (4, .int (nI i))] → W p l e room_1 s m #[Value.ref b] below meth c H2 locs2 (cells + 4) (slots + 40) Q (F0 m 1565 ls2 [])) : W p l e room_1 s m #[Value.ref b] below meth c H locs cells slots Q (F0 m 1509 ls []) := by
  obtain ⟨⟨hx, hb, hml, hown, hts⟩, ⟨hX, hbl, hLx⟩, ⟨hl0, hK, hKJ⟩, hWF⟩ := hC
  obtain ⟨F, ik, kp, tu, n, k0, ad, w, he, gv, gp, gb, ob, nm, lo, L, f, tg, AD, mc, hok, ⟨hL, hLz, hx0, he0, hP, hR⟩, ⟨had, hm0, hMX⟩, hou, houz, hPo⟩ := hI
  subst hx0
  subst he0
  subst hm0
  obtain ⟨ow, mp, nm5, gb5, ob5, g, hg, -, hPm⟩ := hMX
  have hbA : ¬ Zs s b := Nat.not_le.mpr hbl
  have hN := hWF.1.1
  have hK2 : va_K D vwCl [(cI, .int), (cZ, .boolean)] s := hK.sub (tys' := [(cI, .int), (cZ, .boolean)]) [0, 1] rfl
  have hzH : s.heap.size ≤ H.size := hS.1
  have hadH : ∀ j, j < 16 → ad j < H.size := fun j hj => md_lt hPm hj
  have houH : ou < H.size := va_at.lt (hPo 0 _ rfl)
  have he0s := hWF.elt
  have hAz : ∀ q, (q ∈ L ∨ H.size ≤ q) ∨ q = ou → Zs s q := fun q h => h.elim (fun h => h.elim (fun h => hLz q h) (fun h => Nat.le_trans hzH h)) (fun h => by rw [h]; exact houz)
  have hAm : ∀ q, (∃ j, j < 16 ∧ q = ad j) → Zs s q := fun q ⟨j, hj, ej⟩ => by rw [ej]; exact (had.2 j hj).1
  have hne : ¬ (AD 7 0 ∈ L ∨ H.size ≤ AD 7 0) := fun hh => hh.elim (fun h => absurd (hLz _ h) (Nat.not_le.mpr he0s)) (fun h => by omega)
  have hou2 : ¬ (ou ∈ L ∨ H.size ≤ ou) := fun hh => hh.elim hou (fun h => by omega)
  have hno : ¬ ∃ j, j < 16 ∧ ou = ad j := fun ⟨j, hj, ej⟩ => (had.2 j hj).2.2 ej.symm
  refine lv_aload_n hx hb dL_law_1509 rfl (lv_at hl 1 rfl) ?_
  refine lv_aload_n hx hb dL_law_1510 rfl (lv_at hl 0 rfl) ?_
  refine lv_iload hx hb dL_law_1511 (lv_at hl 4 rfl) ?_
  refine lv_iconst (v := 1) hx hb dL_law_1513 (by decide) ?_
  refine top_eq (y := nI 1) rfl ?_
  refine iadd_n (x := i) (y := 1) hx hb dL_law_1514 ?_
  refine ld_s (k := i + 1) hx hb hX hbl hbA hS (by omega) (by omega) dL_law_1515 ?_
  refine lv_aload_n hx hb dL_law_1516 rfl (lv_at hl 3 rfl) ?_
  obtain ⟨k, r, F', ik', kp', tu', n', hok', hHC, hMC⟩ := pr_gainers (l := l) (D := D) (cI := cI) (cZ := cZ) (cO := cO) (cJ := cJ) hl0 hok hR hL (A := fun q => q ∈ L ∨ H.size ≤ q) (fun a h => Or.inl h) (z := H.size) (mi := mi) (ou := ou) (w := w) (fun q h => Or.inr h) hne hou2 (ad := ad) (ow := ow) (mp := mp) (nm5 := nm5) (gb5 := gb5) (ob5 := ob5) hg (A2 := fun q => ∃ j, j < 16 ∧ q = ad j) (ad_self had) (xs (i + 1))
  refine va_calli (vx_runSW (As := [.ref (AD 0 0), .int (xs (i + 1)), .ref ou]) (rest := []) ⟨hx, hb, hml, hown, hts⟩ hHC (vx_cwSW 3 hts gL_law_L_gainers rfl rfl rfl (by decide +kernel) ⟨Nat.le_of_ble_eq_true rfl, Nat.le_of_ble_eq_true rfl⟩) ⟨HW.blind, fun U hU hW => ⟨rfl, ⟨⟨⟨by rw [hU]; exact hP, va_K.moved hW.alike hK, hN.warm hW⟩, hWF.nx hS hU hW, hWF.fy hS (fun q h => hAz q (Or.inl h)) (Nat.le_refl _) hU hW⟩, by rw [hU]; exact hPo, va_K.moved hW.alike hKJ, hWF.1.2.1.move hW⟩⟩⟩ rfl rfl hl.1 rfl (lv_room (Nat.le_of_ble_eq_true rfl)) dL_law_1517 ⟨hc, hs⟩) hS (fun q _ h => hAz q h) hAz (fun r9 w9 t H1 locs1 ht hvm hw hB hz1 hk1 hS1 => ?_)
  obtain ⟨hw1, hw2⟩ := hw
  obtain ⟨hB1, hB2⟩ := hB
  rw [ht] at hB1 hB2
  rw [hw1]
  have hPm1 := md_kept had hPm hk1
  refine lv_istore (lv' := [(5, .int k), (0, .ref b), (1, .ref (AD 0 0)), (2, .ref (ad 0)), (3, .ref ou), (4, .int (nI i))]) hx hb dL_law_1520 hl (by decide) rfl (fun ls hl => ?_)
  refine lv_aload_n hx hb dL_law_1522 rfl (lv_at hl 3 rfl) ?_
  refine lv_aload_n hx hb dL_law_1523 rfl (lv_at hl 1 rfl) ?_
  refine lv_iload hx hb dL_law_1524 (lv_at hl 5 rfl) ?_
  refine lv_iconst (v := 1) hx hb dL_law_1526 (by decide) ?_
  refine top_eq (y := nI 1) rfl ?_
  refine iadd_n (x := i) (y := 1) hx hb dL_law_1527 ?_
  refine ld_s (k := i + 1) hx hb hX hbl hbA hS1 (by omega) (by omega) dL_law_1528 ?_
  refine va_calli (va_runV (As := [.int (xs (i + 1))]) (rest := []) ⟨hx, hb, hml, hown, hts⟩ hMC (cwV 1 hts gL_law_X5_gainers rfl rfl rfl (by decide +kernel) ⟨Nat.le_of_ble_eq_true rfl, Nat.le_of_ble_eq_true rfl⟩) ⟨rd_blind, va_recv hK2 hPm1 (ci := 6) (q0 := 0) rfl rfl, rd_pre hPm1 hK2 hN⟩ rfl rfl hl.1 rfl (lv_room (Nat.le_of_ble_eq_true rfl)) dL_law_1529 ⟨hc, hs⟩) hS1 (fun q _ h => hAm q h) hAm (fun r8 u8 t2 H2 locs2 ht2 hvm2 hw8 hM8 hz2 hk2 hS2 => ?_)
  rw [ht2] at hM8
  refine lv_istore (lv' := [(6, .int r8), (5, .int k), (0, .ref b), (1, .ref (AD 0 0)), (2, .ref (ad 0)), (3, .ref ou), (4, .int (nI i))]) hx hb dL_law_1532 hl (by decide) rfl (fun ls hl => ?_)
  obtain ⟨ow8, mp8, nm8, gb8, ob8, g8, hg8, hk8, hPm8⟩ := id hM8
  have hPo2 : va_P D vwCl [(ou, lgC cJ w9)] H2 := hB2.kept (fun j q hq => hk2 q.1 (va_at.lt (hB2 j q hq)) (by have hm := List.mem_of_getElem? hq; rw [List.mem_singleton] at hm; rw [hm]; exact hno))
  refine lv_aload_n hx hb dL_law_1534 rfl (lv_at hl 4 rfl) ?_
  refine vp_callSi (W.runV (As := []) (rest := []) ⟨hx, hb, hml, hown, hts⟩ (k_X5_thrown l D cI cZ ad F' ow8 mp8 nm8 gb8 ob8 ik' kp' tu' g8) (cwV 0 hts gL_law_X5_thrown rfl rfl rfl (by decide +kernel) ⟨Nat.le_of_ble_eq_true rfl, Nat.le_of_ble_eq_true rfl⟩) ⟨rd_blind, va_recv hK2 hPm8 (ci := 6) (q0 := 0) rfl rfl, rd_pre hPm8 hK2 hN⟩ rfl rfl hl.1 rfl (lv_room (Nat.le_of_ble_eq_true rfl)) dL_law_1535 ⟨hc, hs⟩) (fun r7 er => ?_)
  rw [er, hk8]
  refine lv_iload hx hb dL_law_1538 (lv_at hl 1 rfl) ?_
  refine lv_icmp_eq (tgt := 1545) hx hb dL_law_1540 (by decide) (fun _ => ?_) (fun h9 => absurd rfl h9)
  refine lv_iload hx hb dL_law_1545 (lv_at hl 1 rfl) ?_
  have END : W p l e room_1 s m #[Value.ref b] below meth c H2 locs2 (cells + 4) (slots + 40) Q (F0 m 1562 ls []) := by
    refine lv_goto (tgt := 1565) hx hb dL_law_1562 (by decide) ?_
    exact kk H2 locs2 ls (LI.step hLz had rfl hadH hou houz houH hzH hok' hB1 hB2 hM8 hk2) hS2 (lv_sub hl [2, 3, 4, 5, 6] rfl)
  refine lv_if_ne (tgt := 1562) hx hb dL_law_1547 (by decide) (fun _ => END) (fun hk0 => ?_)
  have hr8 : r8 = r := hw8 hk0
  refine lv_aload_n hx hb dL_law_1550 rfl (lv_at hl 5 rfl) ?_
  refine lv_iconst (v := 0) hx hb dL_law_1551 (by decide) ?_
  refine top_eq (y := nI 0) rfl ?_
  refine ld_l (k := 0) hx hb hKJ hPo2 0 0 rfl rfl (by decide) (by decide) dL_law_1552 ?_
  refine top_el (y := r8.toInt64) (by rw [hw2 hk0, hr8]) ?_
  refine lv_iload hx hb dL_law_1553 (lv_at hl 0 rfl) ?_
  refine lv_i2l (v := r8.toInt64) hx hb dL_law_1555 rfl ?_
  refine W.lcmp hx hb dL_law_1556 ?_
  refine top_eq (y := 0) (lg_self _) ?_
  exact lv_if_eq (tgt := 1562) hx hb dL_law_1557 (by decide) (fun _ => END) (fun h9 => absurd rfl h9)
