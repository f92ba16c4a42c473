set_option maxHeartbeats 800000 in
set_option maxRecDepth 100000 in
theorem lc_1 {p : Program} {l : Launch} {e : Env} {s : State} {m : MethodId} {below : List Frame} {meth : Method} {c : Code} {b Lx : Nat} {xs : Nat → Int32} {D : va_G} {cI cZ cO cJ : ClassId} {e0 mi x0 m0 ou : Nat} (hC : LX p l s m c b Lx xs D cI cZ cO cJ e0 mi) {H : Heap} {locs : List Loc} {cells slots : Nat} (hI : LI D cI cZ cO cJ s.heap.size e0 x0 m0 ou H) (hS : va_S (Zs s) s.heap H locs) {i : Nat} (hi : i + 6 ≤ Lx) {Q : State → Prop} {ls : Array Slot} (hl : lv_has ls 7 [(0, .ref b), (1, .ref x0), (2, .ref m0), (3, .ref ou), (4, .int (nI i))]) (hc : cells + 4 ≤ 679203) (hs : slots + 40 ≤ 7058495)
    (kk : ∀ (H2 : Heap) (locs2 : List Loc) (ls2 : Array Slot), LI D cI cZ cO cJ s.heap.size e0 x0 m0 ou H2 → va_S (Zs s) s.heap H2 locs2 → lv_has ls2 7 [(0, .ref b), (1, .ref x0), (2, .ref m0), (3, .ref ou), (4, .int (nI i))] → W p l e room_1 s m #[Value.ref b] below meth c H2 locs2 (cells + 4) (slots + 40) Q (F0 m 1565 ls2 [])) : W p l e room_1 s m #[Value.ref b] below meth c H locs cells slots Q (F0 m 247 ls []) := by
  obtain ⟨⟨hx, hb, hml, hown, hts⟩, ⟨hX, hbl, hLx⟩, ⟨hl0, hK, hKJ⟩, hWF⟩ := hC
  obtain ⟨F, ik, kp, tu, n, k0, ad, w, he, gv, gp, gb, ob, nm, lo, L, f, tg, AD, mc, hok, ⟨hL, hLz, hx0, he0, hP, hR⟩, ⟨had, hm0, hMX⟩, hou, houz, hPo⟩ := hI
  subst hx0
  subst he0
  subst hm0
  obtain ⟨ow, mp, nm5, gb5, ob5, g, hg, -, hPm⟩ := hMX
  have hbA : ¬ Zs s b := Nat.not_le.mpr hbl
  have hN := hWF.1.1
  have hK2 : va_K D vwCl [(cI, .int), (cZ, .boolean)] s := hK.sub (tys' := [(cI, .int), (cZ, .boolean)]) [0, 1] rfl
  have hzH : s.heap.size ≤ H.size := hS.1
  have hadH : ∀ j, j < 16 → ad j < H.size := fun j hj => md_lt hPm hj
  have houH : ou < H.size := va_at.lt (hPo 0 _ rfl)
  have he0s := hWF.elt
  have hAz : ∀ q, (q ∈ L ∨ H.size ≤ q) ∨ q = ou → Zs s q := fun q h => h.elim (fun h => h.elim (fun h => hLz q h) (fun h => Nat.le_trans hzH h)) (fun h => by rw [h]; exact houz)
  have hAm : ∀ q, (∃ j, j < 16 ∧ q = ad j) → Zs s q := fun q ⟨j, hj, ej⟩ => by rw [ej]; exact (had.2 j hj).1
  have hne : ¬ (AD 7 0 ∈ L ∨ H.size ≤ AD 7 0) := fun hh => hh.elim (fun h => absurd (hLz _ h) (Nat.not_le.mpr he0s)) (fun h => by omega)
  have hou2 : ¬ (ou ∈ L ∨ H.size ≤ ou) := fun hh => hh.elim hou (fun h => by omega)
  have hno : ¬ ∃ j, j < 16 ∧ ou = ad j := fun ⟨j, hj, ej⟩ => (had.2 j hj).2.2 ej.symm
  refine lv_aload_n hx hb dL_law_247 rfl (lv_at hl 1 rfl) ?_
  refine lv_aload_n hx hb dL_law_248 rfl (lv_at hl 0 rfl) ?_
  refine lv_iload hx hb dL_law_249 (lv_at hl 4 rfl) ?_
  refine lv_iconst (v := 1) hx hb dL_law_251 (by decide) ?_
  refine top_eq (y := nI 1) rfl ?_
  refine iadd_n (x := i) (y := 1) hx hb dL_law_252 ?_
  refine ld_s (k := i + 1) hx hb hX hbl hbA hS (by omega) (by omega) dL_law_253 ?_
  refine lv_aload_n hx hb dL_law_254 rfl (lv_at hl 0 rfl) ?_
  refine lv_iload hx hb dL_law_255 (lv_at hl 4 rfl) ?_
  refine lv_iconst (v := 2) hx hb dL_law_257 (by decide) ?_
  refine top_eq (y := nI 2) rfl ?_
  refine iadd_n (x := i) (y := 2) hx hb dL_law_258 ?_
  refine ld_s (k := i + 2) hx hb hX hbl hbA hS (by omega) (by omega) dL_law_259 ?_
  refine lv_aload_n hx hb dL_law_260 rfl (lv_at hl 3 rfl) ?_
  obtain ⟨k, r, F', ik', kp', tu', n', hok', hHC, hMC⟩ := pr_nest (l := l) (D := D) (cI := cI) (cZ := cZ) (cO := cO) (cJ := cJ) hl0 hok hR hL (A := fun q => q ∈ L ∨ H.size ≤ q) (fun a h => Or.inl h) (z := H.size) (mi := mi) (ou := ou) (w := w) (fun q h => Or.inr h) hne hou2 (ad := ad) (ow := ow) (mp := mp) (nm5 := nm5) (gb5 := gb5) (ob5 := ob5) hg (A2 := fun q => ∃ j, j < 16 ∧ q = ad j) (ad_self had) (xs (i + 1)) (xs (i + 2))
  refine va_calli (vx_runSW (As := [.ref (AD 0 0), .int (xs (i + 1)), .int (xs (i + 2)), .ref ou]) (rest := []) ⟨hx, hb, hml, hown, hts⟩ hHC (vx_cwSW 4 hts gL_law_L_nest rfl rfl rfl (by decide +kernel) ⟨Nat.le_of_ble_eq_true rfl, Nat.le_of_ble_eq_true rfl⟩) ⟨HW.blind, fun U hU hW => ⟨rfl, ⟨⟨⟨by rw [hU]; exact hP, va_K.moved hW.alike hK, hN.warm hW⟩, hWF.nx hS hU hW, hWF.fy hS (fun q h => hAz q (Or.inl h)) (Nat.le_refl _) hU hW⟩, by rw [hU]; exact hPo, va_K.moved hW.alike hKJ, hWF.1.2.1.move hW⟩⟩⟩ rfl rfl hl.1 rfl (lv_room (Nat.le_of_ble_eq_true rfl)) dL_law_261 ⟨hc, hs⟩) hS (fun q _ h => hAz q h) hAz (fun r9 w9 t H1 locs1 ht hvm hw hB hz1 hk1 hS1 => ?_)
  obtain ⟨hw1, hw2⟩ := hw
  obtain ⟨hB1, hB2⟩ := hB
  rw [ht] at hB1 hB2
  rw [hw1]
  have hPm1 := md_kept had hPm hk1
  refine lv_istore (lv' := [(5, .int k), (0, .ref b), (1, .ref (AD 0 0)), (2, .ref (ad 0)), (3, .ref ou), (4, .int (nI i))]) hx hb dL_law_264 hl (by decide) rfl (fun ls hl => ?_)
  refine lv_aload_n hx hb dL_law_266 rfl (lv_at hl 3 rfl) ?_
  refine lv_aload_n hx hb dL_law_267 rfl (lv_at hl 1 rfl) ?_
  refine lv_iload hx hb dL_law_268 (lv_at hl 5 rfl) ?_
  refine lv_iconst (v := 1) hx hb dL_law_270 (by decide) ?_
  refine top_eq (y := nI 1) rfl ?_
  refine iadd_n (x := i) (y := 1) hx hb dL_law_271 ?_
  refine ld_s (k := i + 1) hx hb hX hbl hbA hS1 (by omega) (by omega) dL_law_272 ?_
  refine lv_aload_n hx hb dL_law_273 rfl (lv_at hl 1 rfl) ?_
  refine lv_iload hx hb dL_law_274 (lv_at hl 5 rfl) ?_
  refine lv_iconst (v := 2) hx hb dL_law_276 (by decide) ?_
  refine top_eq (y := nI 2) rfl ?_
  refine iadd_n (x := i) (y := 2) hx hb dL_law_277 ?_
  refine ld_s (k := i + 2) hx hb hX hbl hbA hS1 (by omega) (by omega) dL_law_278 ?_
  refine va_calli (va_runV (As := [.int (xs (i + 1)), .int (xs (i + 2))]) (rest := []) ⟨hx, hb, hml, hown, hts⟩ hMC (cwV 2 hts gL_law_X5_nest rfl rfl rfl (by decide +kernel) ⟨Nat.le_of_ble_eq_true rfl, Nat.le_of_ble_eq_true rfl⟩) ⟨rd_blind, va_recv hK2 hPm1 (ci := 6) (q0 := 0) rfl rfl, rd_pre hPm1 hK2 hN⟩ rfl rfl hl.1 rfl (lv_room (Nat.le_of_ble_eq_true rfl)) dL_law_279 ⟨hc, hs⟩) hS1 (fun q _ h => hAm q h) hAm (fun r8 u8 t2 H2 locs2 ht2 hvm2 hw8 hM8 hz2 hk2 hS2 => ?_)
  rw [ht2] at hM8
  refine lv_istore (lv' := [(6, .int r8), (5, .int k), (0, .ref b), (1, .ref (AD 0 0)), (2, .ref (ad 0)), (3, .ref ou), (4, .int (nI i))]) hx hb dL_law_282 hl (by decide) rfl (fun ls hl => ?_)
  obtain ⟨ow8, mp8, nm8, gb8, ob8, g8, hg8, hk8, hPm8⟩ := id hM8
  have hPo2 : va_P D vwCl [(ou, lgC cJ w9)] H2 := hB2.kept (fun j q hq => hk2 q.1 (va_at.lt (hB2 j q hq)) (by have hm := List.mem_of_getElem? hq; rw [List.mem_singleton] at hm; rw [hm]; exact hno))
  refine lv_aload_n hx hb dL_law_284 rfl (lv_at hl 4 rfl) ?_
  refine vp_callSi (W.runV (As := []) (rest := []) ⟨hx, hb, hml, hown, hts⟩ (k_X5_thrown l D cI cZ ad F' ow8 mp8 nm8 gb8 ob8 ik' kp' tu' g8) (cwV 0 hts gL_law_X5_thrown rfl rfl rfl (by decide +kernel) ⟨Nat.le_of_ble_eq_true rfl, Nat.le_of_ble_eq_true rfl⟩) ⟨rd_blind, va_recv hK2 hPm8 (ci := 6) (q0 := 0) rfl rfl, rd_pre hPm8 hK2 hN⟩ rfl rfl hl.1 rfl (lv_room (Nat.le_of_ble_eq_true rfl)) dL_law_285 ⟨hc, hs⟩) (fun r7 er => ?_)
  rw [er, hk8]
  refine lv_iload hx hb dL_law_288 (lv_at hl 1 rfl) ?_
  refine lv_icmp_eq (tgt := 295) hx hb dL_law_290 (by decide) (fun _ => ?_) (fun h9 => absurd rfl h9)
  refine lv_iload hx hb dL_law_295 (lv_at hl 1 rfl) ?_
  have END : W p l e room_1 s m #[Value.ref b] below meth c H2 locs2 (cells + 4) (slots + 40) Q (F0 m 319 ls []) := by
    refine lv_goto (tgt := 1565) hx hb dL_law_319 (by decide) ?_
    exact kk H2 locs2 ls (LI.step hLz had rfl hadH hou houz houH hzH hok' hB1 hB2 hM8 hk2) hS2 (lv_sub hl [2, 3, 4, 5, 6] rfl)
  refine lv_if_ne (tgt := 319) hx hb dL_law_297 (by decide) (fun _ => END) (fun hk0 => ?_)
  have hr8 : r8 = r := hw8 hk0
  refine lv_aload_n hx hb dL_law_300 rfl (lv_at hl 5 rfl) ?_
  refine lv_iconst (v := 0) hx hb dL_law_301 (by decide) ?_
  refine top_eq (y := nI 0) rfl ?_
  refine ld_l (k := 0) hx hb hKJ hPo2 0 0 rfl rfl (by decide) (by decide) dL_law_302 ?_
  have JZ : ∀ y9 : Int64, y9 = lvZ r8 → W p l e room_1 s m #[Value.ref b] below meth c H2 locs2 (cells + 4) (slots + 40) Q (F0 m 313 ls [.long y9, .long (w9 0)]) := by
    intro y9 ey9
    have e9 : w9 0 = y9 := by rw [hw2 hk0, ey9, hr8]
    rw [e9]
    refine W.lcmp hx hb dL_law_313 ?_
    refine top_eq (y := 0) (lg_self _) ?_
    exact lv_if_eq (tgt := 319) hx hb dL_law_314 (by decide) (fun _ => END) (fun h9 => absurd rfl h9)
  refine lv_iload hx hb dL_law_303 (lv_at hl 0 rfl) ?_
  refine lv_if_eq (tgt := 312) hx hb dL_law_305 (by decide) (fun c0 => ?_) (fun c0 => ?_)
  · refine lv_lconst (v := 0) hx hb dL_law_312 (by decide) ?_
    exact JZ _ (if_pos c0).symm
  · refine lv_lconst (v := 1) hx hb dL_law_308 (by decide) ?_
    refine lv_goto (tgt := 313) hx hb dL_law_309 (by decide) ?_
    exact JZ _ (if_neg c0).symm
set_option maxHeartbeats 800000 in
set_option maxRecDepth 100000 in
theorem lc_3 {p : Program} {l : Launch} {e : Env} {s : State} {m : MethodId} {below : List Frame} {meth : Method} {c : Code} {b Lx : Nat} {xs : Nat → Int32} {D : va_G} {cI cZ cO cJ : ClassId} {e0 mi x0 m0 ou : Nat} (hC : LX p l s m c b Lx xs D cI cZ cO cJ e0 mi) {H : Heap} {locs : List Loc} {cells slots : Nat} (hI : LI D cI cZ cO cJ s.heap.size e0 x0 m0 ou H) (hS : va_S (Zs s) s.heap H locs) {i : Nat} (hi : i + 6 ≤ Lx) {Q : State → Prop} {ls : Array Slot} (hl : lv_has ls 7 [(0, .ref b), (1, .ref x0), (2, .ref m0), (3, .ref ou), (4, .int (nI i))]) (hc : cells + 4 ≤ 679203) (hs : slots + 40 ≤ 7058495)
    (kk : ∀ (H2 : Heap) (locs2 : List Loc) (ls2 : Array Slot), LI D cI cZ cO cJ s.heap.size e0 x0 m0 ou H2 → va_S (Zs s) s.heap H2 locs2 → lv_has ls2 7 [(0, .ref b), (1, .ref x0), (2, .ref m0), (3, .ref ou), (4, .int (nI i))] → W p l e room_1 s m #[Value.ref b] below meth c H2 locs2 (cells + 4) (slots + 40) Q (F0 m 1565 ls2 [])) : W p l e room_1 s m #[Value.ref b] below meth c H locs cells slots Q (F0 m 378 ls []) := by
  obtain ⟨⟨hx, hb, hml, hown, hts⟩, ⟨hX, hbl, hLx⟩, ⟨hl0, hK, hKJ⟩, hWF⟩ := hC
  obtain ⟨F, ik, kp, tu, n, k0, ad, w, he, gv, gp, gb, ob, nm, lo, L, f, tg, AD, mc, hok, ⟨hL, hLz, hx0, he0, hP, hR⟩, ⟨had, hm0, hMX⟩, hou, houz, hPo⟩ := hI
  subst hx0
  subst he0
  subst hm0
  obtain ⟨ow, mp, nm5, gb5, ob5, g, hg, -, hPm⟩ := hMX
  have hbA : ¬ Zs s b := Nat.not_le.mpr hbl
  have hN := hWF.1.1
  have hK2 : va_K D vwCl [(cI, .int), (cZ, .boolean)] s := hK.sub (tys' := [(cI, .int), (cZ, .boolean)]) [0, 1] rfl
  have hzH : s.heap.size ≤ H.size := hS.1
  have hadH : ∀ j, j < 16 → ad j < H.size := fun j hj => md_lt hPm hj
  have houH : ou < H.size := va_at.lt (hPo 0 _ rfl)
  have he0s := hWF.elt
  have hAz : ∀ q, (q ∈ L ∨ H.size ≤ q) ∨ q = ou → Zs s q := fun q h => h.elim (fun h => h.elim (fun h => hLz q h) (fun h => Nat.le_trans hzH h)) (fun h => by rw [h]; exact houz)
  have hAm : ∀ q, (∃ j, j < 16 ∧ q = ad j) → Zs s q := fun q ⟨j, hj, ej⟩ => by rw [ej]; exact (had.2 j hj).1
  have hne : ¬ (AD 7 0 ∈ L ∨ H.size ≤ AD 7 0) := fun hh => hh.elim (fun h => absurd (hLz _ h) (Nat.not_le.mpr he0s)) (fun h => by omega)
  have hou2 : ¬ (ou ∈ L ∨ H.size ≤ ou) := fun hh => hh.elim hou (fun h => by omega)
  have hno : ¬ ∃ j, j < 16 ∧ ou = ad j := fun ⟨j, hj, ej⟩ => (had.2 j hj).2.2 ej.symm
  refine lv_aload_n hx hb dL_law_378 rfl (lv_at hl 1 rfl) ?_
  refine lv_aload_n hx hb dL_law_379 rfl (lv_at hl 0 rfl) ?_
  refine lv_iload hx hb dL_law_380 (lv_at hl 4 rfl) ?_
  refine lv_iconst (v := 1) hx hb dL_law_382 (by decide) ?_
  refine top_eq (y := nI 1) rfl ?_
  refine iadd_n (x := i) (y := 1) hx hb dL_law_383 ?_
  refine ld_s (k := i + 1) hx hb hX hbl hbA hS (by omega) (by omega) dL_law_384 ?_
  refine lv_aload_n hx hb dL_law_385 rfl (lv_at hl 0 rfl) ?_
  refine lv_iload hx hb dL_law_386 (lv_at hl 4 rfl) ?_
  refine lv_iconst (v := 2) hx hb dL_law_388 (by decide) ?_
  refine top_eq (y := nI 2) rfl ?_
  refine iadd_n (x := i) (y := 2) hx hb dL_law_389 ?_
  refine ld_s (k := i + 2) hx hb hX hbl hbA hS (by omega) (by omega) dL_law_390 ?_
  refine lv_aload_n hx hb dL_law_391 rfl (lv_at hl 3 rfl) ?_
  obtain ⟨k, r, F', ik', kp', tu', n', hok', hHC, hMC⟩ := pr_addFolder (l := l) (D := D) (cI := cI) (cZ := cZ) (cO := cO) (cJ := cJ) hl0 hok hR hL (A := fun q => q ∈ L ∨ H.size ≤ q) (fun a h => Or.inl h) (z := H.size) (mi := mi) (ou := ou) (w := w) (fun q h => Or.inr h) hne hou2 (ad := ad) (ow := ow) (mp := mp) (nm5 := nm5) (gb5 := gb5) (ob5 := ob5) hg (A2 := fun q => ∃ j, j < 16 ∧ q = ad j) (ad_self had) (xs (i + 1)) (xs (i + 2))
  refine va_calli (vx_runSW (As := [.ref (AD 0 0), .int (xs (i + 1)), .int (xs (i + 2)), .ref ou]) (rest := []) ⟨hx, hb, hml, hown, hts⟩ hHC (vx_cwSW 4 hts gL_law_L_addFolder rfl rfl rfl (by decide +kernel) ⟨Nat.le_of_ble_eq_true rfl, Nat.le_of_ble_eq_true rfl⟩) ⟨HW.blind, fun U hU hW => ⟨rfl, ⟨⟨⟨by rw [hU]; exact hP, va_K.moved hW.alike hK, hN.warm hW⟩, hWF.nx hS hU hW, hWF.fy hS (fun q h => hAz q (Or.inl h)) (Nat.le_refl _) hU hW⟩, by rw [hU]; exact hPo, va_K.moved hW.alike hKJ, hWF.1.2.1.move hW⟩⟩⟩ rfl rfl hl.1 rfl (lv_room (Nat.le_of_ble_eq_true rfl)) dL_law_392 ⟨hc, hs⟩) hS (fun q _ h => hAz q h) hAz (fun r9 w9 t H1 locs1 ht hvm hw hB hz1 hk1 hS1 => ?_)
  obtain ⟨hw1, hw2⟩ := hw
  obtain ⟨hB1, hB2⟩ := hB
  rw [ht] at hB1 hB2
  rw [hw1]
  have hPm1 := md_kept had hPm hk1
  refine lv_istore (lv' := [(5, .int k), (0, .ref b), (1, .ref (AD 0 0)), (2, .ref (ad 0)), (3, .ref ou), (4, .int (nI i))]) hx hb dL_law_395 hl (by decide) rfl (fun ls hl => ?_)
  refine lv_aload_n hx hb dL_law_397 rfl (lv_at hl 3 rfl) ?_
  refine lv_aload_n hx hb dL_law_398 rfl (lv_at hl 1 rfl) ?_
  refine lv_iload hx hb dL_law_399 (lv_at hl 5 rfl) ?_
  refine lv_iconst (v := 1) hx hb dL_law_401 (by decide) ?_
  refine top_eq (y := nI 1) rfl ?_
  refine iadd_n (x := i) (y := 1) hx hb dL_law_402 ?_
  refine ld_s (k := i + 1) hx hb hX hbl hbA hS1 (by omega) (by omega) dL_law_403 ?_
  refine lv_aload_n hx hb dL_law_404 rfl (lv_at hl 1 rfl) ?_
  refine lv_iload hx hb dL_law_405 (lv_at hl 5 rfl) ?_
  refine lv_iconst (v := 2) hx hb dL_law_407 (by decide) ?_
  refine top_eq (y := nI 2) rfl ?_
  refine iadd_n (x := i) (y := 2) hx hb dL_law_408 ?_
  refine ld_s (k := i + 2) hx hb hX hbl hbA hS1 (by omega) (by omega) dL_law_409 ?_
  refine va_calli (va_runV (As := [.int (xs (i + 1)), .int (xs (i + 2))]) (rest := []) ⟨hx, hb, hml, hown, hts⟩ hMC (cwV 2 hts gL_law_X5_addFolder rfl rfl rfl (by decide +kernel) ⟨Nat.le_of_ble_eq_true rfl, Nat.le_of_ble_eq_true rfl⟩) ⟨rd_blind, va_recv hK2 hPm1 (ci := 6) (q0 := 0) rfl rfl, rd_pre hPm1 hK2 hN⟩ rfl rfl hl.1 rfl (lv_room (Nat.le_of_ble_eq_true rfl)) dL_law_410 ⟨hc, hs⟩) hS1 (fun q _ h => hAm q h) hAm (fun r8 u8 t2 H2 locs2 ht2 hvm2 hw8 hM8 hz2 hk2 hS2 => ?_)
  rw [ht2] at hM8
  refine lv_istore (lv' := [(6, .int r8), (5, .int k), (0, .ref b), (1, .ref (AD 0 0)), (2, .ref (ad 0)), (3, .ref ou), (4, .int (nI i))]) hx hb dL_law_413 hl (by decide) rfl (fun ls hl => ?_)
  obtain ⟨ow8, mp8, nm8, gb8, ob8, g8, hg8, hk8, hPm8⟩ := id hM8
  have hPo2 : va_P D vwCl [(ou, lgC cJ w9)] H2 := hB2.kept (fun j q hq => hk2 q.1 (va_at.lt (hB2 j q hq)) (by have hm := List.mem_of_getElem? hq; rw [List.mem_singleton] at hm; rw [hm]; exact hno))
  refine lv_aload_n hx hb dL_law_415 rfl (lv_at hl 4 rfl) ?_
  refine vp_callSi (W.runV (As := []) (rest := []) ⟨hx, hb, hml, hown, hts⟩ (k_X5_thrown l D cI cZ ad F' ow8 mp8 nm8 gb8 ob8 ik' kp' tu' g8) (cwV 0 hts gL_law_X5_thrown rfl rfl rfl (by decide +kernel) ⟨Nat.le_of_ble_eq_true rfl, Nat.le_of_ble_eq_true rfl⟩) ⟨rd_blind, va_recv hK2 hPm8 (ci := 6) (q0 := 0) rfl rfl, rd_pre hPm8 hK2 hN⟩ rfl rfl hl.1 rfl (lv_room (Nat.le_of_ble_eq_true rfl)) dL_law_416 ⟨hc, hs⟩) (fun r7 er => ?_)
  rw [er, hk8]
  refine lv_iload hx hb dL_law_419 (lv_at hl 1 rfl) ?_
  refine lv_icmp_eq (tgt := 426) hx hb dL_law_421 (by decide) (fun _ => ?_) (fun h9 => absurd rfl h9)
  refine lv_iload hx hb dL_law_426 (lv_at hl 1 rfl) ?_
  have END : W p l e room_1 s m #[Value.ref b] below meth c H2 locs2 (cells + 4) (slots + 40) Q (F0 m 443 ls []) := by
    refine lv_goto (tgt := 1565) hx hb dL_law_443 (by decide) ?_
    exact kk H2 locs2 ls (LI.step hLz had rfl hadH hou houz houH hzH hok' hB1 hB2 hM8 hk2) hS2 (lv_sub hl [2, 3, 4, 5, 6] rfl)
  refine lv_if_ne (tgt := 443) hx hb dL_law_428 (by decide) (fun _ => END) (fun hk0 => ?_)
  have hr8 : r8 = r := hw8 hk0
  refine lv_aload_n hx hb dL_law_431 rfl (lv_at hl 5 rfl) ?_
  refine lv_iconst (v := 0) hx hb dL_law_432 (by decide) ?_
  refine top_eq (y := nI 0) rfl ?_
  refine ld_l (k := 0) hx hb hKJ hPo2 0 0 rfl rfl (by decide) (by decide) dL_law_433 ?_
  refine top_el (y := r8.toInt64) (by rw [hw2 hk0, hr8]) ?_
  refine lv_iload hx hb dL_law_434 (lv_at hl 0 rfl) ?_
  refine lv_i2l (v := r8.toInt64) hx hb dL_law_436 rfl ?_
  refine W.lcmp hx hb dL_law_437 ?_
  refine top_eq (y := 0) (lg_self _) ?_
  exact lv_if_eq (tgt := 443) hx hb dL_law_438 (by decide) (fun _ => END) (fun h9 => absurd rfl h9)
set_option maxHeartbeats 800000 in
set_option maxRecDepth 100000 in
theorem lc_4 {p : Program} {l : Launch} {e : Env} {s : State} {m : MethodId} {below : List Frame} {meth : Method} {c : Code} {b Lx : Nat} {xs : Nat → Int32} {D : va_G} {cI cZ cO cJ : ClassId} {e0 mi x0 m0 ou : Nat} (hC : LX p l s m c b Lx xs D cI cZ cO cJ e0 mi) {H : Heap} {locs : List Loc} {cells slots : Nat} (hI : LI D cI cZ cO cJ s.heap.size e0 x0 m0 ou H) (hS : va_S (Zs s) s.heap H locs) {i : Nat} (hi : i + 6 ≤ Lx) {Q : State → Prop} {ls : Array Slot} (hl : lv_has ls 7 [(0, .ref b), (1, .ref x0), (2, .ref m0), (3, .ref ou), (4, .int (nI i))]) (hc : cells + 4 ≤ 679203) (hs : slots + 40 ≤ 7058495)
    (kk : ∀ (H2 : Heap) (locs2 : List Loc) (ls2 : Array Slot), LI D cI cZ cO cJ s.heap.size e0 x0 m0 ou H2 → va_S (Zs s) s.heap H2 locs2 → lv_has ls2 7 [(0, .ref b), (1, .ref x0), (2, .ref m0), (3, .ref ou), (4, .int (nI i))] → W p l e room_1 s m #[Value.ref b] below meth c H2 locs2 (cells + 4) (slots + 40) Q (F0 m 1565 ls2 [])) : W p l e room_1 s m #[Value.ref b] below meth c H locs cells slots Q (F0 m 446 ls []) := by
  obtain ⟨⟨hx, hb, hml, hown, hts⟩, ⟨hX, hbl, hLx⟩, ⟨hl0, hK, hKJ⟩, hWF⟩ := hC
  obtain ⟨F, ik, kp, tu, n, k0, ad, w, he, gv, gp, gb, ob, nm, lo, L, f, tg, AD, mc, hok, ⟨hL, hLz, hx0, he0, hP, hR⟩, ⟨had, hm0, hMX⟩, hou, houz, hPo⟩ := hI
  subst hx0
  subst he0
  subst hm0
  obtain ⟨ow, mp, nm5, gb5, ob5, g, hg, -, hPm⟩ := hMX
  have hbA : ¬ Zs s b := Nat.not_le.mpr hbl
  have hN := hWF.1.1
  have hK2 : va_K D vwCl [(cI, .int), (cZ, .boolean)] s := hK.sub (tys' := [(cI, .int), (cZ, .boolean)]) [0, 1] rfl
  have hzH : s.heap.size ≤ H.size := hS.1
  have hadH : ∀ j, j < 16 → ad j < H.size := fun j hj => md_lt hPm hj
  have houH : ou < H.size := va_at.lt (hPo 0 _ rfl)
  have he0s := hWF.elt
  have hAz : ∀ q, (q ∈ L ∨ H.size ≤ q) ∨ q = ou → Zs s q := fun q h => h.elim (fun h => h.elim (fun h => hLz q h) (fun h => Nat.le_trans hzH h)) (fun h => by rw [h]; exact houz)
  have hAm : ∀ q, (∃ j, j < 16 ∧ q = ad j) → Zs s q := fun q ⟨j, hj, ej⟩ => by rw [ej]; exact (had.2 j hj).1
  have hne : ¬ (AD 7 0 ∈ L ∨ H.size ≤ AD 7 0) := fun hh => hh.elim (fun h => absurd (hLz _ h) (Nat.not_le.mpr he0s)) (fun h => by omega)
  have hou2 : ¬ (ou ∈ L ∨ H.size ≤ ou) := fun hh => hh.elim hou (fun h => by omega)
  have hno : ¬ ∃ j, j < 16 ∧ ou = ad j := fun ⟨j, hj, ej⟩ => (had.2 j hj).2.2 ej.symm
  refine lv_aload_n hx hb dL_law_446 rfl (lv_at hl 1 rfl) ?_
  refine lv_aload_n hx hb dL_law_447 rfl (lv_at hl 0 rfl) ?_
  refine lv_iload hx hb dL_law_448 (lv_at hl 4 rfl) ?_
  refine lv_iconst (v := 1) hx hb dL_law_450 (by decide) ?_
  refine top_eq (y := nI 1) rfl ?_
  refine iadd_n (x := i) (y := 1) hx hb dL_law_451 ?_
  refine ld_s (k := i + 1) hx hb hX hbl hbA hS (by omega) (by omega) dL_law_452 ?_
  refine lv_aload_n hx hb dL_law_453 rfl (lv_at hl 0 rfl) ?_
  refine lv_iload hx hb dL_law_454 (lv_at hl 4 rfl) ?_
  refine lv_iconst (v := 2) hx hb dL_law_456 (by decide) ?_
  refine top_eq (y := nI 2) rfl ?_
  refine iadd_n (x := i) (y := 2) hx hb dL_law_457 ?_
  refine ld_s (k := i + 2) hx hb hX hbl hbA hS (by omega) (by omega) dL_law_458 ?_
  refine lv_aload_n hx hb dL_law_459 rfl (lv_at hl 3 rfl) ?_
  obtain ⟨k, r, F', ik', kp', tu', n', hok', hHC, hMC⟩ := pr_setOwner (l := l) (D := D) (cI := cI) (cZ := cZ) (cO := cO) (cJ := cJ) hl0 hok hR hL (A := fun q => q ∈ L ∨ H.size ≤ q) (fun a h => Or.inl h) (z := H.size) (mi := mi) (ou := ou) (w := w) (fun q h => Or.inr h) hne hou2 (ad := ad) (ow := ow) (mp := mp) (nm5 := nm5) (gb5 := gb5) (ob5 := ob5) hg (A2 := fun q => ∃ j, j < 16 ∧ q = ad j) (ad_self had) (xs (i + 1)) (xs (i + 2))
  refine va_calli (vx_runSW (As := [.ref (AD 0 0), .int (xs (i + 1)), .int (xs (i + 2)), .ref ou]) (rest := []) ⟨hx, hb, hml, hown, hts⟩ hHC (vx_cwSW 4 hts gL_law_L_setOwner rfl rfl rfl (by decide +kernel) ⟨Nat.le_of_ble_eq_true rfl, Nat.le_of_ble_eq_true rfl⟩) ⟨HW.blind, fun U hU hW => ⟨rfl, ⟨⟨⟨by rw [hU]; exact hP, va_K.moved hW.alike hK, hN.warm hW⟩, hWF.nx hS hU hW, hWF.fy hS (fun q h => hAz q (Or.inl h)) (Nat.le_refl _) hU hW⟩, by rw [hU]; exact hPo, va_K.moved hW.alike hKJ, hWF.1.2.1.move hW⟩⟩⟩ rfl rfl hl.1 rfl (lv_room (Nat.le_of_ble_eq_true rfl)) dL_law_460 ⟨hc, hs⟩) hS (fun q _ h => hAz q h) hAz (fun r9 w9 t H1 locs1 ht hvm hw hB hz1 hk1 hS1 => ?_)
  obtain ⟨hw1, hw2⟩ := hw
  obtain ⟨hB1, hB2⟩ := hB
  rw [ht] at hB1 hB2
  rw [hw1]
  have hPm1 := md_kept had hPm hk1
  refine lv_istore (lv' := [(5, .int k), (0, .ref b), (1, .ref (AD 0 0)), (2, .ref (ad 0)), (3, .ref ou), (4, .int (nI i))]) hx hb dL_law_463 hl (by decide) rfl (fun ls hl => ?_)
  refine lv_aload_n hx hb dL_law_465 rfl (lv_at hl 3 rfl) ?_
  refine lv_aload_n hx hb dL_law_466 rfl (lv_at hl 1 rfl) ?_
  refine lv_iload hx hb dL_law_467 (lv_at hl 5 rfl) ?_
  refine lv_iconst (v := 1) hx hb dL_law_469 (by decide) ?_
  refine top_eq (y := nI 1) rfl ?_
  refine iadd_n (x := i) (y := 1) hx hb dL_law_470 ?_
  refine ld_s (k := i + 1) hx hb hX hbl hbA hS1 (by omega) (by omega) dL_law_471 ?_
  refine lv_aload_n hx hb dL_law_472 rfl (lv_at hl 1 rfl) ?_
  refine lv_iload hx hb dL_law_473 (lv_at hl 5 rfl) ?_
  refine lv_iconst (v := 2) hx hb dL_law_475 (by decide) ?_
  refine top_eq (y := nI 2) rfl ?_
  refine iadd_n (x := i) (y := 2) hx hb dL_law_476 ?_
  refine ld_s (k := i + 2) hx hb hX hbl hbA hS1 (by omega) (by omega) dL_law_477 ?_
  refine va_calli (va_runV (As := [.int (xs (i + 1)), .int (xs (i + 2))]) (rest := []) ⟨hx, hb, hml, hown, hts⟩ hMC (cwV 2 hts gL_law_X5_setOwner rfl rfl rfl (by decide +kernel) ⟨Nat.le_of_ble_eq_true rfl, Nat.le_of_ble_eq_true rfl⟩) ⟨rd_blind, va_recv hK2 hPm1 (ci := 6) (q0 := 0) rfl rfl, rd_pre hPm1 hK2 hN⟩ rfl rfl hl.1 rfl (lv_room (Nat.le_of_ble_eq_true rfl)) dL_law_478 ⟨hc, hs⟩) hS1 (fun q _ h => hAm q h) hAm (fun r8 u8 t2 H2 locs2 ht2 hvm2 hw8 hM8 hz2 hk2 hS2 => ?_)
  rw [ht2] at hM8
  refine lv_istore (lv' := [(6, .int r8), (5, .int k), (0, .ref b), (1, .ref (AD 0 0)), (2, .ref (ad 0)), (3, .ref ou), (4, .int (nI i))]) hx hb dL_law_481 hl (by decide) rfl (fun ls hl => ?_)
  obtain ⟨ow8, mp8, nm8, gb8, ob8, g8, hg8, hk8, hPm8⟩ := id hM8
  have hPo2 : va_P D vwCl [(ou, lgC cJ w9)] H2 := hB2.kept (fun j q hq => hk2 q.1 (va_at.lt (hB2 j q hq)) (by have hm := List.mem_of_getElem? hq; rw [List.mem_singleton] at hm; rw [hm]; exact hno))
  refine lv_aload_n hx hb dL_law_483 rfl (lv_at hl 4 rfl) ?_
  refine vp_callSi (W.runV (As := []) (rest := []) ⟨hx, hb, hml, hown, hts⟩ (k_X5_thrown l D cI cZ ad F' ow8 mp8 nm8 gb8 ob8 ik' kp' tu' g8) (cwV 0 hts gL_law_X5_thrown rfl rfl rfl (by decide +kernel) ⟨Nat.le_of_ble_eq_true rfl, Nat.le_of_ble_eq_true rfl⟩) ⟨rd_blind, va_recv hK2 hPm8 (ci := 6) (q0 := 0) rfl rfl, rd_pre hPm8 hK2 hN⟩ rfl rfl hl.1 rfl (lv_room (Nat.le_of_ble_eq_true rfl)) dL_law_484 ⟨hc, hs⟩) (fun r7 er => ?_)
  rw [er, hk8]
  refine lv_iload hx hb dL_law_487 (lv_at hl 1 rfl) ?_
  refine lv_icmp_eq (tgt := 494) hx hb dL_law_489 (by decide) (fun _ => ?_) (fun h9 => absurd rfl h9)
  refine lv_iload hx hb dL_law_494 (lv_at hl 1 rfl) ?_
  have END : W p l e room_1 s m #[Value.ref b] below meth c H2 locs2 (cells + 4) (slots + 40) Q (F0 m 511 ls []) := by
    refine lv_goto (tgt := 1565) hx hb dL_law_511 (by decide) ?_
    exact kk H2 locs2 ls (LI.step hLz had rfl hadH hou houz houH hzH hok' hB1 hB2 hM8 hk2) hS2 (lv_sub hl [2, 3, 4, 5, 6] rfl)
  refine lv_if_ne (tgt := 511) hx hb dL_law_496 (by decide) (fun _ => END) (fun hk0 => ?_)
  have hr8 : r8 = r := hw8 hk0
  refine lv_aload_n hx hb dL_law_499 rfl (lv_at hl 5 rfl) ?_
  refine lv_iconst (v := 0) hx hb dL_law_500 (by decide) ?_
  refine top_eq (y := nI 0) rfl ?_
  refine ld_l (k := 0) hx hb hKJ hPo2 0 0 rfl rfl (by decide) (by decide) dL_law_501 ?_
  refine top_el (y := r8.toInt64) (by rw [hw2 hk0, hr8]) ?_
  refine lv_iload hx hb dL_law_502 (lv_at hl 0 rfl) ?_
  refine lv_i2l (v := r8.toInt64) hx hb dL_law_504 rfl ?_
  refine W.lcmp hx hb dL_law_505 ?_
  refine top_eq (y := 0) (lg_self _) ?_
  exact lv_if_eq (tgt := 511) hx hb dL_law_506 (by decide) (fun _ => END) (fun h9 => absurd rfl h9)
set_option maxHeartbeats 800000 in
set_option maxRecDepth 100000 in
theorem lc_5 {p : Program} {l : Launch} {e : Env} {s : State} {m : MethodId} {below : List Frame} {meth : Method} {c : Code} {b Lx : Nat} {xs : Nat → Int32} {D : va_G} {cI cZ cO cJ : ClassId} {e0 mi x0 m0 ou : Nat} (hC : LX p l s m c b Lx xs D cI cZ cO cJ e0 mi) {H : Heap} {locs : List Loc} {cells slots : Nat} (hI : LI D cI cZ cO cJ s.heap.size e0 x0 m0 ou H) (hS : va_S (Zs s) s.heap H locs) {i : Nat} (hi : i + 6 ≤ Lx) {Q : State → Prop} {ls : Array Slot} (hl : lv_has ls 7 [(0, .ref b), (1, .ref x0), (2, .ref m0), (3, .ref ou), (4, .int (nI i))]) (hc : cells + 4 ≤ 679203) (hs : slots + 40 ≤ 7058495)
    (kk : ∀ (H2 : Heap) (locs2 : List Loc) (ls2 : Array Slot), LI D cI cZ cO cJ s.heap.size e0 x0 m0 ou H2 → va_S (Zs s) s.heap H2 locs2 → lv_has ls2 7 [(0, .ref b), (1, .ref x0), (2, .ref m0), (3, .ref ou), (4, .int (nI i))] → W p l e room_1 s m #[Value.ref b] below meth c H2 locs2 (cells + 4) (slots + 40) Q (F0 m 1565 ls2 [])) : W p l e room_1 s m #[Value.ref b] below meth c H locs cells slots Q (F0 m 514 ls []) := by
  obtain ⟨⟨hx, hb, hml, hown, hts⟩, ⟨hX, hbl, hLx⟩, ⟨hl0, hK, hKJ⟩, hWF⟩ := hC
  obtain ⟨F, ik, kp, tu, n, k0, ad, w, he, gv, gp, gb, ob, nm, lo, L, f, tg, AD, mc, hok, ⟨hL, hLz, hx0, he0, hP, hR⟩, ⟨had, hm0, hMX⟩, hou, houz, hPo⟩ := hI
  subst hx0
  subst he0
  subst hm0
  obtain ⟨ow, mp, nm5, gb5, ob5, g, hg, -, hPm⟩ := hMX
  have hbA : ¬ Zs s b := Nat.not_le.mpr hbl
  have hN := hWF.1.1
  have hK2 : va_K D vwCl [(cI, .int), (cZ, .boolean)] s := hK.sub (tys' := [(cI, .int), (cZ, .boolean)]) [0, 1] rfl
  have hzH : s.heap.size ≤ H.size := hS.1
  have hadH : ∀ j, j < 16 → ad j < H.size := fun j hj => md_lt hPm hj
  have houH : ou < H.size := va_at.lt (hPo 0 _ rfl)
  have he0s := hWF.elt
  have hAz : ∀ q, (q ∈ L ∨ H.size ≤ q) ∨ q = ou → Zs s q := fun q h => h.elim (fun h => h.elim (fun h => hLz q h) (fun h => Nat.le_trans hzH h)) (fun h => by rw [h]; exact houz)
  have hAm : ∀ q, (∃ j, j < 16 ∧ q = ad j) → Zs s q := fun q ⟨j, hj, ej⟩ => by rw [ej]; exact (had.2 j hj).1
  have hne : ¬ (AD 7 0 ∈ L ∨ H.size ≤ AD 7 0) := fun hh => hh.elim (fun h => absurd (hLz _ h) (Nat.not_le.mpr he0s)) (fun h => by omega)
  have hou2 : ¬ (ou ∈ L ∨ H.size ≤ ou) := fun hh => hh.elim hou (fun h => by omega)
  have hno : ¬ ∃ j, j < 16 ∧ ou = ad j := fun ⟨j, hj, ej⟩ => (had.2 j hj).2.2 ej.symm
  refine lv_aload_n hx hb dL_law_514 rfl (lv_at hl 1 rfl) ?_
  refine lv_aload_n hx hb dL_law_515 rfl (lv_at hl 0 rfl) ?_
  refine lv_iload hx hb dL_law_516 (lv_at hl 4 rfl) ?_
  refine lv_iconst (v := 1) hx hb dL_law_518 (by decide) ?_
  refine top_eq (y := nI 1) rfl ?_
  refine iadd_n (x := i) (y := 1) hx hb dL_law_519 ?_
  refine ld_s (k := i + 1) hx hb hX hbl hbA hS (by omega) (by omega) dL_law_520 ?_
  refine lv_aload_n hx hb dL_law_521 rfl (lv_at hl 0 rfl) ?_
  refine lv_iload hx hb dL_law_522 (lv_at hl 4 rfl) ?_
  refine lv_iconst (v := 2) hx hb dL_law_524 (by decide) ?_
  refine top_eq (y := nI 2) rfl ?_
  refine iadd_n (x := i) (y := 2) hx hb dL_law_525 ?_
  refine ld_s (k := i + 2) hx hb hX hbl hbA hS (by omega) (by omega) dL_law_526 ?_
  have J_527 : ∀ y9 : Int32, y9 = b2i (!decide (xs (i + 2) = 0)) → W p l e room_1 s m #[Value.ref b] below meth c H locs (cells) (slots) Q (F0 m 535 ls [.int y9, .int (xs (i + 1)), .ref (AD 0 0)]) := by
    intro y9 ey9
    subst ey9
    refine lv_aload_n hx hb dL_law_535 rfl (lv_at hl 3 rfl) ?_
    obtain ⟨k, r, F', ik', kp', tu', n', hok', hHC, hMC⟩ := pr_setInherits (l := l) (D := D) (cI := cI) (cZ := cZ) (cO := cO) (cJ := cJ) hl0 hok hR hL (A := fun q => q ∈ L ∨ H.size ≤ q) (fun a h => Or.inl h) (z := H.size) (mi := mi) (ou := ou) (w := w) (fun q h => Or.inr h) hne hou2 (ad := ad) (ow := ow) (mp := mp) (nm5 := nm5) (gb5 := gb5) (ob5 := ob5) hg (A2 := fun q => ∃ j, j < 16 ∧ q = ad j) (ad_self had) (xs (i + 1)) (!decide (xs (i + 2) = 0))
    refine va_calli (vx_runSW (As := [.ref (AD 0 0), .int (xs (i + 1)), .int (b2i (!decide (xs (i + 2) = 0))), .ref ou]) (rest := []) ⟨hx, hb, hml, hown, hts⟩ hHC (vx_cwSW 4 hts gL_law_L_setInherits rfl rfl rfl (by decide +kernel) ⟨Nat.le_of_ble_eq_true rfl, Nat.le_of_ble_eq_true rfl⟩) ⟨HW.blind, fun U hU hW => ⟨rfl, ⟨⟨⟨by rw [hU]; exact hP, va_K.moved hW.alike hK, hN.warm hW⟩, hWF.nx hS hU hW, hWF.fy hS (fun q h => hAz q (Or.inl h)) (Nat.le_refl _) hU hW⟩, by rw [hU]; exact hPo, va_K.moved hW.alike hKJ, hWF.1.2.1.move hW⟩⟩⟩ rfl rfl hl.1 rfl (lv_room (Nat.le_of_ble_eq_true rfl)) dL_law_536 ⟨hc, hs⟩) hS (fun q _ h => hAz q h) hAz (fun r9 w9 t H1 locs1 ht hvm hw hB hz1 hk1 hS1 => ?_)
    obtain ⟨hw1, hw2⟩ := hw
    obtain ⟨hB1, hB2⟩ := hB
    rw [ht] at hB1 hB2
    rw [hw1]
    have hPm1 := md_kept had hPm hk1
    refine lv_istore (lv' := [(5, .int k), (0, .ref b), (1, .ref (AD 0 0)), (2, .ref (ad 0)), (3, .ref ou), (4, .int (nI i))]) hx hb dL_law_539 hl (by decide) rfl (fun ls hl => ?_)
    refine lv_aload_n hx hb dL_law_541 rfl (lv_at hl 3 rfl) ?_
    refine lv_aload_n hx hb dL_law_542 rfl (lv_at hl 1 rfl) ?_
    refine lv_iload hx hb dL_law_543 (lv_at hl 5 rfl) ?_
    refine lv_iconst (v := 1) hx hb dL_law_545 (by decide) ?_
    refine top_eq (y := nI 1) rfl ?_
    refine iadd_n (x := i) (y := 1) hx hb dL_law_546 ?_
    refine ld_s (k := i + 1) hx hb hX hbl hbA hS1 (by omega) (by omega) dL_law_547 ?_
    refine lv_aload_n hx hb dL_law_548 rfl (lv_at hl 1 rfl) ?_
    refine lv_iload hx hb dL_law_549 (lv_at hl 5 rfl) ?_
    refine lv_iconst (v := 2) hx hb dL_law_551 (by decide) ?_
    refine top_eq (y := nI 2) rfl ?_
    refine iadd_n (x := i) (y := 2) hx hb dL_law_552 ?_
    refine ld_s (k := i + 2) hx hb hX hbl hbA hS1 (by omega) (by omega) dL_law_553 ?_
    have J_554 : ∀ y9 : Int32, y9 = b2i (!decide (xs (i + 2) = 0)) → W p l e room_1 s m #[Value.ref b] below meth c H1 locs1 (cells + 4) (slots + 40) Q (F0 m 562 ls [.int y9, .int (xs (i + 1)), .ref (ad 0)]) := by
      intro y9 ey9
      subst ey9
      refine va_calli (va_runV (As := [.int (xs (i + 1)), .int (b2i (!decide (xs (i + 2) = 0)))]) (rest := []) ⟨hx, hb, hml, hown, hts⟩ hMC (cwV 2 hts gL_law_X5_setInherits rfl rfl rfl (by decide +kernel) ⟨Nat.le_of_ble_eq_true rfl, Nat.le_of_ble_eq_true rfl⟩) ⟨rd_blind, va_recv hK2 hPm1 (ci := 6) (q0 := 0) rfl rfl, rd_pre hPm1 hK2 hN⟩ rfl rfl hl.1 rfl (lv_room (Nat.le_of_ble_eq_true rfl)) dL_law_562 ⟨hc, hs⟩) hS1 (fun q _ h => hAm q h) hAm (fun r8 u8 t2 H2 locs2 ht2 hvm2 hw8 hM8 hz2 hk2 hS2 => ?_)
      rw [ht2] at hM8
      refine lv_istore (lv' := [(6, .int r8), (5, .int k), (0, .ref b), (1, .ref (AD 0 0)), (2, .ref (ad 0)), (3, .ref ou), (4, .int (nI i))]) hx hb dL_law_565 hl (by decide) rfl (fun ls hl => ?_)
      obtain ⟨ow8, mp8, nm8, gb8, ob8, g8, hg8, hk8, hPm8⟩ := id hM8
      have hPo2 : va_P D vwCl [(ou, lgC cJ w9)] H2 := hB2.kept (fun j q hq => hk2 q.1 (va_at.lt (hB2 j q hq)) (by have hm := List.mem_of_getElem? hq; rw [List.mem_singleton] at hm; rw [hm]; exact hno))
      refine lv_aload_n hx hb dL_law_567 rfl (lv_at hl 4 rfl) ?_
      refine vp_callSi (W.runV (As := []) (rest := []) ⟨hx, hb, hml, hown, hts⟩ (k_X5_thrown l D cI cZ ad F' ow8 mp8 nm8 gb8 ob8 ik' kp' tu' g8) (cwV 0 hts gL_law_X5_thrown rfl rfl rfl (by decide +kernel) ⟨Nat.le_of_ble_eq_true rfl, Nat.le_of_ble_eq_true rfl⟩) ⟨rd_blind, va_recv hK2 hPm8 (ci := 6) (q0 := 0) rfl rfl, rd_pre hPm8 hK2 hN⟩ rfl rfl hl.1 rfl (lv_room (Nat.le_of_ble_eq_true rfl)) dL_law_568 ⟨hc, hs⟩) (fun r7 er => ?_)
      rw [er, hk8]
      refine lv_iload hx hb dL_law_571 (lv_at hl 1 rfl) ?_
      refine lv_icmp_eq (tgt := 578) hx hb dL_law_573 (by decide) (fun _ => ?_) (fun h9 => absurd rfl h9)
      refine lv_iload hx hb dL_law_578 (lv_at hl 1 rfl) ?_
      have END : W p l e room_1 s m #[Value.ref b] below meth c H2 locs2 (cells + 4) (slots + 40) Q (F0 m 602 ls []) := by
        refine lv_goto (tgt := 1565) hx hb dL_law_602 (by decide) ?_
        exact kk H2 locs2 ls (LI.step hLz had rfl hadH hou houz houH hzH hok' hB1 hB2 hM8 hk2) hS2 (lv_sub hl [2, 3, 4, 5, 6] rfl)
      refine lv_if_ne (tgt := 602) hx hb dL_law_580 (by decide) (fun _ => END) (fun hk0 => ?_)
      have hr8 : r8 = r := hw8 hk0
      refine lv_aload_n hx hb dL_law_583 rfl (lv_at hl 5 rfl) ?_
      refine lv_iconst (v := 0) hx hb dL_law_584 (by decide) ?_
      refine top_eq (y := nI 0) rfl ?_
      refine ld_l (k := 0) hx hb hKJ hPo2 0 0 rfl rfl (by decide) (by decide) dL_law_585 ?_
      have JZ : ∀ y9 : Int64, y9 = lvZ r8 → W p l e room_1 s m #[Value.ref b] below meth c H2 locs2 (cells + 4) (slots + 40) Q (F0 m 596 ls [.long y9, .long (w9 0)]) := by
        intro y9 ey9
        have e9 : w9 0 = y9 := by rw [hw2 hk0, ey9, hr8]
        rw [e9]
        refine W.lcmp hx hb dL_law_596 ?_
        refine top_eq (y := 0) (lg_self _) ?_
        exact lv_if_eq (tgt := 602) hx hb dL_law_597 (by decide) (fun _ => END) (fun h9 => absurd rfl h9)
      refine lv_iload hx hb dL_law_586 (lv_at hl 0 rfl) ?_
      refine lv_if_eq (tgt := 595) hx hb dL_law_588 (by decide) (fun c0 => ?_) (fun c0 => ?_)
      · refine lv_lconst (v := 0) hx hb dL_law_595 (by decide) ?_
        exact JZ _ (if_pos c0).symm
      · refine lv_lconst (v := 1) hx hb dL_law_591 (by decide) ?_
        refine lv_goto (tgt := 596) hx hb dL_law_592 (by decide) ?_
        exact JZ _ (if_neg c0).symm
    refine lv_if_eq (tgt := 561) hx hb dL_law_554 (by decide) (fun c0 => ?_) (fun c0 => ?_)
    · refine lv_iconst (v := 0) hx hb dL_law_561 (by decide) ?_
      exact J_554 _ (nz_t c0)
    · refine lv_iconst (v := 1) hx hb dL_law_557 (by decide) ?_
      refine lv_goto (tgt := 562) hx hb dL_law_558 (by decide) ?_
      exact J_554 _ (nz_f c0)
  refine lv_if_eq (tgt := 534) hx hb dL_law_527 (by decide) (fun c0 => ?_) (fun c0 => ?_)
  · refine lv_iconst (v := 0) hx hb dL_law_534 (by decide) ?_
    exact J_527 _ (nz_t c0)
  · refine lv_iconst (v := 1) hx hb dL_law_530 (by decide) ?_
    refine lv_goto (tgt := 535) hx hb dL_law_531 (by decide) ?_
    exact J_527 _ (nz_f c0)
