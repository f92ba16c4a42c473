set_option maxHeartbeats 800000 in
set_option maxRecDepth 100000 in
theorem lc_0 {p : Program} {l : Launch} {e : Env} {s : State} {m : MethodId} {below : List Frame} {meth : Method} {c : Code} {b Lx : Nat} {xs : Nat → Int32} {D : va_G} {cI cZ cO cJ : ClassId} {e0 mi x0 m0 ou : Nat} (hC : LX p l s m c b Lx xs D cI cZ cO cJ e0 mi) {H : Heap} {locs : List Loc} {cells slots : Nat} (hI : LI D cI cZ cO cJ s.heap.size e0 x0 m0 ou H) (hS : va_S (Zs s) s.heap H locs) {i : Nat} (hi : i + 6 ≤ Lx) {Q : State → Prop} {ls : Array Slot} (hl : lv_has ls 7 [(0, .ref b), (1, .ref x0), (2, .ref m0), (3, .ref ou), (4, .int (nI i))]) (hc : cells + 4 ≤ 679203) (hs : slots + 40 ≤ 7058495)
    (kk : ∀ (H2 : Heap) (locs2 : List Loc) (ls2 : Array Slot), LI D cI cZ cO cJ s.heap.size e0 x0 m0 ou H2 → va_S (Zs s) s.heap H2 locs2 → lv_has ls2 7 [(0, .ref b), (1, .ref x0), (2, .ref m0), (3, .ref ou), (4, .int (nI i))] → W p l e room_1 s m #[Value.ref b] below meth c H2 locs2 (cells + 4) (slots + 40) Q (F0 m 1565 ls2 [])) : W p l e room_1 s m #[Value.ref b] below meth c H locs cells slots Q (F0 m 144 ls []) := by
  obtain ⟨⟨hx, hb, hml, hown, hts⟩, ⟨hX, hbl, hLx⟩, ⟨hl0, hK, hKJ⟩, hWF⟩ := hC
  obtain ⟨F, ik, kp, tu, n, k0, ad, w, he, gv, gp, gb, ob, nm, lo, L, f, tg, AD, mc, hok, ⟨hL, hLz, hx0, he0, hP, hR⟩, ⟨had, hm0, hMX⟩, hou, houz, hPo⟩ := hI
  subst hx0
  subst he0
  subst hm0
  obtain ⟨ow, mp, nm5, gb5, ob5, g, hg, -, hPm⟩ := hMX
  have hbA : ¬ Zs s b := Nat.not_le.mpr hbl
  have hN := hWF.1.1
  have hK2 : va_K D vwCl [(cI, .int), (cZ, .boolean)] s := hK.sub (tys' := [(cI, .int), (cZ, .boolean)]) [0, 1] rfl
  have hzH : s.heap.size ≤ H.size := hS.1
  have hadH : ∀ j, j < 16 → ad j < H.size := fun j hj => md_lt hPm hj
  have houH : ou < H.size := va_at.lt (hPo 0 _ rfl)
  have he0s := hWF.elt
  have hAz : ∀ q, (q ∈ L ∨ H.size ≤ q) ∨ q = ou → Zs s q := fun q h => h.elim (fun h => h.elim (fun h => hLz q h) (fun h => Nat.le_trans hzH h)) (fun h => by rw [h]; exact houz)
  have hAm : ∀ q, (∃ j, j < 16 ∧ q = ad j) → Zs s q := fun q ⟨j, hj, ej⟩ => by rw [ej]; exact (had.2 j hj).1
  have hne : ¬ (AD 7 0 ∈ L ∨ H.size ≤ AD 7 0) := fun hh => hh.elim (fun h => absurd (hLz _ h) (Nat.not_le.mpr he0s)) (fun h => by omega)
  have hou2 : ¬ (ou ∈ L ∨ H.size ≤ ou) := fun hh => hh.elim hou (fun h => by omega)
  have hno : ¬ ∃ j, j < 16 ∧ ou = ad j := fun ⟨j, hj, ej⟩ => (had.2 j hj).2.2 ej.symm
  refine lv_aload_n hx hb dL_law_144 rfl (lv_at hl 1 rfl) ?_
  refine lv_aload_n hx hb dL_law_145 rfl (lv_at hl 0 rfl) ?_
  refine lv_iload hx hb dL_law_146 (lv_at hl 4 rfl) ?_
  refine lv_iconst (v := 1) hx hb dL_law_148 (by decide) ?_
  refine top_eq (y := nI 1) rfl ?_
  refine iadd_n (x := i) (y := 1) hx hb dL_law_149 ?_
  refine ld_s (k := i + 1) hx hb hX hbl hbA hS (by omega) (by omega) dL_law_150 ?_
  refine lv_aload_n hx hb dL_law_151 rfl (lv_at hl 0 rfl) ?_
  refine lv_iload hx hb dL_law_152 (lv_at hl 4 rfl) ?_
  refine lv_iconst (v := 2) hx hb dL_law_154 (by decide) ?_
  refine top_eq (y := nI 2) rfl ?_
  refine iadd_n (x := i) (y := 2) hx hb dL_law_155 ?_
  refine ld_s (k := i + 2) hx hb hX hbl hbA hS (by omega) (by omega) dL_law_156 ?_
  refine lv_aload_n hx hb dL_law_157 rfl (lv_at hl 0 rfl) ?_
  refine lv_iload hx hb dL_law_158 (lv_at hl 4 rfl) ?_
  refine lv_iconst (v := 3) hx hb dL_law_160 (by decide) ?_
  refine top_eq (y := nI 3) rfl ?_
  refine iadd_n (x := i) (y := 3) hx hb dL_law_161 ?_
  refine ld_s (k := i + 3) hx hb hX hbl hbA hS (by omega) (by omega) dL_law_162 ?_
  have J_163 : ∀ y9 : Int32, y9 = b2i (!decide (xs (i + 3) = 0)) → W p l e room_1 s m #[Value.ref b] below meth c H locs (cells) (slots) Q (F0 m 171 ls [.int y9, .int (xs (i + 2)), .int (xs (i + 1)), .ref (AD 0 0)]) := by
    intro y9 ey9
    subst ey9
    refine lv_aload_n hx hb dL_law_171 rfl (lv_at hl 3 rfl) ?_
    obtain ⟨k, r, F', ik', kp', tu', n', hok', hHC, hMC⟩ := pr_setMember (l := l) (D := D) (cI := cI) (cZ := cZ) (cO := cO) (cJ := cJ) hl0 hok hR hL (A := fun q => q ∈ L ∨ H.size ≤ q) (fun a h => Or.inl h) (z := H.size) (mi := mi) (ou := ou) (w := w) (fun q h => Or.inr h) hne hou2 (ad := ad) (ow := ow) (mp := mp) (nm5 := nm5) (gb5 := gb5) (ob5 := ob5) hg (A2 := fun q => ∃ j, j < 16 ∧ q = ad j) (ad_self had) (xs (i + 1)) (xs (i + 2)) (!decide (xs (i + 3) = 0))
    refine va_calli (vx_runSW (As := [.ref (AD 0 0), .int (xs (i + 1)), .int (xs (i + 2)), .int (b2i (!decide (xs (i + 3) = 0))), .ref ou]) (rest := []) ⟨hx, hb, hml, hown, hts⟩ hHC (vx_cwSW 5 hts gL_law_L_setMember rfl rfl rfl (by decide +kernel) ⟨Nat.le_of_ble_eq_true rfl, Nat.le_of_ble_eq_true rfl⟩) ⟨HW.blind, fun U hU hW => ⟨rfl, ⟨⟨⟨by rw [hU]; exact hP, va_K.moved hW.alike hK, hN.warm hW⟩, hWF.nx hS hU hW, hWF.fy hS (fun q h => hAz q (Or.inl h)) (Nat.le_refl _) hU hW⟩, by rw [hU]; exact hPo, va_K.moved hW.alike hKJ, hWF.1.2.1.move hW⟩⟩⟩ rfl rfl hl.1 rfl (lv_room (Nat.le_of_ble_eq_true rfl)) dL_law_172 ⟨hc, hs⟩) hS (fun q _ h => hAz q h) hAz (fun r9 w9 t H1 locs1 ht hvm hw hB hz1 hk1 hS1 => ?_)
    obtain ⟨hw1, hw2⟩ := hw
    obtain ⟨hB1, hB2⟩ := hB
    rw [ht] at hB1 hB2
    rw [hw1]
    have hPm1 := md_kept had hPm hk1
    refine lv_istore (lv' := [(5, .int k), (0, .ref b), (1, .ref (AD 0 0)), (2, .ref (ad 0)), (3, .ref ou), (4, .int (nI i))]) hx hb dL_law_175 hl (by decide) rfl (fun ls hl => ?_)
    refine lv_aload_n hx hb dL_law_177 rfl (lv_at hl 3 rfl) ?_
    refine lv_aload_n hx hb dL_law_178 rfl (lv_at hl 1 rfl) ?_
    refine lv_iload hx hb dL_law_179 (lv_at hl 5 rfl) ?_
    refine lv_iconst (v := 1) hx hb dL_law_181 (by decide) ?_
    refine top_eq (y := nI 1) rfl ?_
    refine iadd_n (x := i) (y := 1) hx hb dL_law_182 ?_
    refine ld_s (k := i + 1) hx hb hX hbl hbA hS1 (by omega) (by omega) dL_law_183 ?_
    refine lv_aload_n hx hb dL_law_184 rfl (lv_at hl 1 rfl) ?_
    refine lv_iload hx hb dL_law_185 (lv_at hl 5 rfl) ?_
    refine lv_iconst (v := 2) hx hb dL_law_187 (by decide) ?_
    refine top_eq (y := nI 2) rfl ?_
    refine iadd_n (x := i) (y := 2) hx hb dL_law_188 ?_
    refine ld_s (k := i + 2) hx hb hX hbl hbA hS1 (by omega) (by omega) dL_law_189 ?_
    refine lv_aload_n hx hb dL_law_190 rfl (lv_at hl 1 rfl) ?_
    refine lv_iload hx hb dL_law_191 (lv_at hl 5 rfl) ?_
    refine lv_iconst (v := 3) hx hb dL_law_193 (by decide) ?_
    refine top_eq (y := nI 3) rfl ?_
    refine iadd_n (x := i) (y := 3) hx hb dL_law_194 ?_
    refine ld_s (k := i + 3) hx hb hX hbl hbA hS1 (by omega) (by omega) dL_law_195 ?_
    have J_196 : ∀ y9 : Int32, y9 = b2i (!decide (xs (i + 3) = 0)) → W p l e room_1 s m #[Value.ref b] below meth c H1 locs1 (cells + 4) (slots + 40) Q (F0 m 204 ls [.int y9, .int (xs (i + 2)), .int (xs (i + 1)), .ref (ad 0)]) := by
      intro y9 ey9
      subst ey9
      refine va_calli (va_runV (As := [.int (xs (i + 1)), .int (xs (i + 2)), .int (b2i (!decide (xs (i + 3) = 0)))]) (rest := []) ⟨hx, hb, hml, hown, hts⟩ hMC (cwV 3 hts gL_law_X5_setMember rfl rfl rfl (by decide +kernel) ⟨Nat.le_of_ble_eq_true rfl, Nat.le_of_ble_eq_true rfl⟩) ⟨rd_blind, va_recv hK2 hPm1 (ci := 6) (q0 := 0) rfl rfl, rd_pre hPm1 hK2 hN⟩ rfl rfl hl.1 rfl (lv_room (Nat.le_of_ble_eq_true rfl)) dL_law_204 ⟨hc, hs⟩) hS1 (fun q _ h => hAm q h) hAm (fun r8 u8 t2 H2 locs2 ht2 hvm2 hw8 hM8 hz2 hk2 hS2 => ?_)
      rw [ht2] at hM8
      refine lv_istore (lv' := [(6, .int r8), (5, .int k), (0, .ref b), (1, .ref (AD 0 0)), (2, .ref (ad 0)), (3, .ref ou), (4, .int (nI i))]) hx hb dL_law_207 hl (by decide) rfl (fun ls hl => ?_)
      obtain ⟨ow8, mp8, nm8, gb8, ob8, g8, hg8, hk8, hPm8⟩ := id hM8
      have hPo2 : va_P D vwCl [(ou, lgC cJ w9)] H2 := hB2.kept (fun j q hq => hk2 q.1 (va_at.lt (hB2 j q hq)) (by have hm := List.mem_of_getElem? hq; rw [List.mem_singleton] at hm; rw [hm]; exact hno))
      refine lv_aload_n hx hb dL_law_209 rfl (lv_at hl 4 rfl) ?_
      refine vp_callSi (W.runV (As := []) (rest := []) ⟨hx, hb, hml, hown, hts⟩ (k_X5_thrown l D cI cZ ad F' ow8 mp8 nm8 gb8 ob8 ik' kp' tu' g8) (cwV 0 hts gL_law_X5_thrown rfl rfl rfl (by decide +kernel) ⟨Nat.le_of_ble_eq_true rfl, Nat.le_of_ble_eq_true rfl⟩) ⟨rd_blind, va_recv hK2 hPm8 (ci := 6) (q0 := 0) rfl rfl, rd_pre hPm8 hK2 hN⟩ rfl rfl hl.1 rfl (lv_room (Nat.le_of_ble_eq_true rfl)) dL_law_210 ⟨hc, hs⟩) (fun r7 er => ?_)
      rw [er, hk8]
      refine lv_iload hx hb dL_law_213 (lv_at hl 1 rfl) ?_
      refine lv_icmp_eq (tgt := 220) hx hb dL_law_215 (by decide) (fun _ => ?_) (fun h9 => absurd rfl h9)
      refine lv_iload hx hb dL_law_220 (lv_at hl 1 rfl) ?_
      have END : W p l e room_1 s m #[Value.ref b] below meth c H2 locs2 (cells + 4) (slots + 40) Q (F0 m 244 ls []) := by
        refine lv_goto (tgt := 1565) hx hb dL_law_244 (by decide) ?_
        exact kk H2 locs2 ls (LI.step hLz had rfl hadH hou houz houH hzH hok' hB1 hB2 hM8 hk2) hS2 (lv_sub hl [2, 3, 4, 5, 6] rfl)
      refine lv_if_ne (tgt := 244) hx hb dL_law_222 (by decide) (fun _ => END) (fun hk0 => ?_)
      have hr8 : r8 = r := hw8 hk0
      refine lv_aload_n hx hb dL_law_225 rfl (lv_at hl 5 rfl) ?_
      refine lv_iconst (v := 0) hx hb dL_law_226 (by decide) ?_
      refine top_eq (y := nI 0) rfl ?_
      refine ld_l (k := 0) hx hb hKJ hPo2 0 0 rfl rfl (by decide) (by decide) dL_law_227 ?_
      have JZ : ∀ y9 : Int64, y9 = lvZ r8 → W p l e room_1 s m #[Value.ref b] below meth c H2 locs2 (cells + 4) (slots + 40) Q (F0 m 238 ls [.long y9, .long (w9 0)]) := by
        intro y9 ey9
        have e9 : w9 0 = y9 := by rw [hw2 hk0, ey9, hr8]
        rw [e9]
        refine W.lcmp hx hb dL_law_238 ?_
        refine top_eq (y := 0) (lg_self _) ?_
        exact lv_if_eq (tgt := 244) hx hb dL_law_239 (by decide) (fun _ => END) (fun h9 => absurd rfl h9)
      refine lv_iload hx hb dL_law_228 (lv_at hl 0 rfl) ?_
      refine lv_if_eq (tgt := 237) hx hb dL_law_230 (by decide) (fun c0 => ?_) (fun c0 => ?_)
      · refine lv_lconst (v := 0) hx hb dL_law_237 (by decide) ?_
        exact JZ _ (if_pos c0).symm
      · refine lv_lconst (v := 1) hx hb dL_law_233 (by decide) ?_
        refine lv_goto (tgt := 238) hx hb dL_law_234 (by decide) ?_
        exact JZ _ (if_neg c0).symm
    refine lv_if_eq (tgt := 203) hx hb dL_law_196 (by decide) (fun c0 => ?_) (fun c0 => ?_)
    · refine lv_iconst (v := 0) hx hb dL_law_203 (by decide) ?_
      exact J_196 _ (nz_t c0)
    · refine lv_iconst (v := 1) hx hb dL_law_199 (by decide) ?_
      refine lv_goto (tgt := 204) hx hb dL_law_200 (by decide) ?_
      exact J_196 _ (nz_f c0)
  refine lv_if_eq (tgt := 170) hx hb dL_law_163 (by decide) (fun c0 => ?_) (fun c0 => ?_)
  · refine lv_iconst (v := 0) hx hb dL_law_170 (by decide) ?_
    exact J_163 _ (nz_t c0)
  · refine lv_iconst (v := 1) hx hb dL_law_166 (by decide) ?_
    refine lv_goto (tgt := 171) hx hb dL_law_167 (by decide) ?_
    exact J_163 _ (nz_f c0)
set_option maxHeartbeats 800000 in
set_option maxRecDepth 100000 in
theorem lc_2 {p : Program} {l : Launch} {e : Env} {s : State} {m : MethodId} {below : List Frame} {meth : Method} {c : Code} {b Lx : Nat} {xs : Nat → Int32} {D : va_G} {cI cZ cO cJ : ClassId} {e0 mi x0 m0 ou : Nat} (hC : LX p l s m c b Lx xs D cI cZ cO cJ e0 mi) {H : Heap} {locs : List Loc} {cells slots : Nat} (hI : LI D cI cZ cO cJ s.heap.size e0 x0 m0 ou H) (hS : va_S (Zs s) s.heap H locs) {i : Nat} (hi : i + 6 ≤ Lx) {Q : State → Prop} {ls : Array Slot} (hl : lv_has ls 7 [(0, .ref b), (1, .ref x0), (2, .ref m0), (3, .ref ou), (4, .int (nI i))]) (hc : cells + 4 ≤ 679203) (hs : slots + 40 ≤ 7058495)
    (kk : ∀ (H2 : Heap) (locs2 : List Loc) (ls2 : Array Slot), LI D cI cZ cO cJ s.heap.size e0 x0 m0 ou H2 → va_S (Zs s) s.heap H2 locs2 → lv_has ls2 7 [(0, .ref b), (1, .ref x0), (2, .ref m0), (3, .ref ou), (4, .int (nI i))] → W p l e room_1 s m #[Value.ref b] below meth c H2 locs2 (cells + 4) (slots + 40) Q (F0 m 1565 ls2 [])) : W p l e room_1 s m #[Value.ref b] below meth c H locs cells slots Q (F0 m 322 ls []) := by
  obtain ⟨⟨hx, hb, hml, hown, hts⟩, ⟨hX, hbl, hLx⟩, ⟨hl0, hK, hKJ⟩, hWF⟩ := hC
  obtain ⟨F, ik, kp, tu, n, k0, ad, w, he, gv, gp, gb, ob, nm, lo, L, f, tg, AD, mc, hok, ⟨hL, hLz, hx0, he0, hP, hR⟩, ⟨had, hm0, hMX⟩, hou, houz, hPo⟩ := hI
  subst hx0
  subst he0
  subst hm0
  obtain ⟨ow, mp, nm5, gb5, ob5, g, hg, -, hPm⟩ := hMX
  have hbA : ¬ Zs s b := Nat.not_le.mpr hbl
  have hN := hWF.1.1
  have hK2 : va_K D vwCl [(cI, .int), (cZ, .boolean)] s := hK.sub (tys' := [(cI, .int), (cZ, .boolean)]) [0, 1] rfl
  have hzH : s.heap.size ≤ H.size := hS.1
  have hadH : ∀ j, j < 16 → ad j < H.size := fun j hj => md_lt hPm hj
  have houH : ou < H.size := va_at.lt (hPo 0 _ rfl)
  have he0s := hWF.elt
  have hAz : ∀ q, (q ∈ L ∨ H.size ≤ q) ∨ q = ou → Zs s q := fun q h => h.elim (fun h => h.elim (fun h => hLz q h) (fun h => Nat.le_trans hzH h)) (fun h => by rw [h]; exact houz)
  have hAm : ∀ q, (∃ j, j < 16 ∧ q = ad j) → Zs s q := fun q ⟨j, hj, ej⟩ => by rw [ej]; exact (had.2 j hj).1
  have hne : ¬ (AD 7 0 ∈ L ∨ H.size ≤ AD 7 0) := fun hh => hh.elim (fun h => absurd (hLz _ h) (Nat.not_le.mpr he0s)) (fun h => by omega)
  have hou2 : ¬ (ou ∈ L ∨ H.size ≤ ou) := fun hh => hh.elim hou (fun h => by omega)
  have hno : ¬ ∃ j, j < 16 ∧ ou = ad j := fun ⟨j, hj, ej⟩ => (had.2 j hj).2.2 ej.symm
  refine lv_aload_n hx hb dL_law_322 rfl (lv_at hl 1 rfl) ?_
  refine lv_aload_n hx hb dL_law_323 rfl (lv_at hl 0 rfl) ?_
  refine lv_iload hx hb dL_law_324 (lv_at hl 4 rfl) ?_
  refine lv_iconst (v := 1) hx hb dL_law_326 (by decide) ?_
  refine top_eq (y := nI 1) rfl ?_
  refine iadd_n (x := i) (y := 1) hx hb dL_law_327 ?_
  refine ld_s (k := i + 1) hx hb hX hbl hbA hS (by omega) (by omega) dL_law_328 ?_
  refine lv_aload_n hx hb dL_law_329 rfl (lv_at hl 3 rfl) ?_
  obtain ⟨k, r, F', ik', kp', tu', n', hok', hHC, hMC⟩ := pr_members (l := l) (D := D) (cI := cI) (cZ := cZ) (cO := cO) (cJ := cJ) hl0 hok hR hL (A := fun q => q ∈ L ∨ H.size ≤ q) (fun a h => Or.inl h) (z := H.size) (mi := mi) (ou := ou) (w := w) (fun q h => Or.inr h) hne hou2 (ad := ad) (ow := ow) (mp := mp) (nm5 := nm5) (gb5 := gb5) (ob5 := ob5) hg (A2 := fun q => ∃ j, j < 16 ∧ q = ad j) (ad_self had) (xs (i + 1))
  refine va_calli (vx_runSW (As := [.ref (AD 0 0), .int (xs (i + 1)), .ref ou]) (rest := []) ⟨hx, hb, hml, hown, hts⟩ hHC (vx_cwSW 3 hts gL_law_L_members rfl rfl rfl (by decide +kernel) ⟨Nat.le_of_ble_eq_true rfl, Nat.le_of_ble_eq_true rfl⟩) ⟨HW.blind, fun U hU hW => ⟨rfl, ⟨⟨⟨by rw [hU]; exact hP, va_K.moved hW.alike hK, hN.warm hW⟩, hWF.nx hS hU hW, hWF.fy hS (fun q h => hAz q (Or.inl h)) (Nat.le_refl _) hU hW⟩, by rw [hU]; exact hPo, va_K.moved hW.alike hKJ, hWF.1.2.1.move hW⟩⟩⟩ rfl rfl hl.1 rfl (lv_room (Nat.le_of_ble_eq_true rfl)) dL_law_330 ⟨hc, hs⟩) hS (fun q _ h => hAz q h) hAz (fun r9 w9 t H1 locs1 ht hvm hw hB hz1 hk1 hS1 => ?_)
  obtain ⟨hw1, hw2⟩ := hw
  obtain ⟨hB1, hB2⟩ := hB
  rw [ht] at hB1 hB2
  rw [hw1]
  have hPm1 := md_kept had hPm hk1
  refine lv_istore (lv' := [(5, .int k), (0, .ref b), (1, .ref (AD 0 0)), (2, .ref (ad 0)), (3, .ref ou), (4, .int (nI i))]) hx hb dL_law_333 hl (by decide) rfl (fun ls hl => ?_)
  refine lv_aload_n hx hb dL_law_335 rfl (lv_at hl 3 rfl) ?_
  refine lv_aload_n hx hb dL_law_336 rfl (lv_at hl 1 rfl) ?_
  refine lv_iload hx hb dL_law_337 (lv_at hl 5 rfl) ?_
  refine lv_iconst (v := 1) hx hb dL_law_339 (by decide) ?_
  refine top_eq (y := nI 1) rfl ?_
  refine iadd_n (x := i) (y := 1) hx hb dL_law_340 ?_
  refine ld_s (k := i + 1) hx hb hX hbl hbA hS1 (by omega) (by omega) dL_law_341 ?_
  refine va_calli (va_runV (As := [.int (xs (i + 1))]) (rest := []) ⟨hx, hb, hml, hown, hts⟩ hMC (cwV 1 hts gL_law_X5_members rfl rfl rfl (by decide +kernel) ⟨Nat.le_of_ble_eq_true rfl, Nat.le_of_ble_eq_true rfl⟩) ⟨rd_blind, va_recv hK2 hPm1 (ci := 6) (q0 := 0) rfl rfl, rd_pre hPm1 hK2 hN⟩ rfl rfl hl.1 rfl (lv_room (Nat.le_of_ble_eq_true rfl)) dL_law_342 ⟨hc, hs⟩) hS1 (fun q _ h => hAm q h) hAm (fun r8 u8 t2 H2 locs2 ht2 hvm2 hw8 hM8 hz2 hk2 hS2 => ?_)
  rw [ht2] at hM8
  refine lv_istore (lv' := [(6, .int r8), (5, .int k), (0, .ref b), (1, .ref (AD 0 0)), (2, .ref (ad 0)), (3, .ref ou), (4, .int (nI i))]) hx hb dL_law_345 hl (by decide) rfl (fun ls hl => ?_)
  obtain ⟨ow8, mp8, nm8, gb8, ob8, g8, hg8, hk8, hPm8⟩ := id hM8
  have hPo2 : va_P D vwCl [(ou, lgC cJ w9)] H2 := hB2.kept (fun j q hq => hk2 q.1 (va_at.lt (hB2 j q hq)) (by have hm := List.mem_of_getElem? hq; rw [List.mem_singleton] at hm; rw [hm]; exact hno))
  refine lv_aload_n hx hb dL_law_347 rfl (lv_at hl 4 rfl) ?_
  refine vp_callSi (W.runV (As := []) (rest := []) ⟨hx, hb, hml, hown, hts⟩ (k_X5_thrown l D cI cZ ad F' ow8 mp8 nm8 gb8 ob8 ik' kp' tu' g8) (cwV 0 hts gL_law_X5_thrown rfl rfl rfl (by decide +kernel) ⟨Nat.le_of_ble_eq_true rfl, Nat.le_of_ble_eq_true rfl⟩) ⟨rd_blind, va_recv hK2 hPm8 (ci := 6) (q0 := 0) rfl rfl, rd_pre hPm8 hK2 hN⟩ rfl rfl hl.1 rfl (lv_room (Nat.le_of_ble_eq_true rfl)) dL_law_348 ⟨hc, hs⟩) (fun r7 er => ?_)
  rw [er, hk8]
  refine lv_iload hx hb dL_law_351 (lv_at hl 1 rfl) ?_
  refine lv_icmp_eq (tgt := 358) hx hb dL_law_353 (by decide) (fun _ => ?_) (fun h9 => absurd rfl h9)
  refine lv_iload hx hb dL_law_358 (lv_at hl 1 rfl) ?_
  have END : W p l e room_1 s m #[Value.ref b] below meth c H2 locs2 (cells + 4) (slots + 40) Q (F0 m 375 ls []) := by
    refine lv_goto (tgt := 1565) hx hb dL_law_375 (by decide) ?_
    exact kk H2 locs2 ls (LI.step hLz had rfl hadH hou houz houH hzH hok' hB1 hB2 hM8 hk2) hS2 (lv_sub hl [2, 3, 4, 5, 6] rfl)
  refine lv_if_ne (tgt := 375) hx hb dL_law_360 (by decide) (fun _ => END) (fun hk0 => ?_)
  have hr8 : r8 = r := hw8 hk0
  refine lv_aload_n hx hb dL_law_363 rfl (lv_at hl 5 rfl) ?_
  refine lv_iconst (v := 0) hx hb dL_law_364 (by decide) ?_
  refine top_eq (y := nI 0) rfl ?_
  refine ld_l (k := 0) hx hb hKJ hPo2 0 0 rfl rfl (by decide) (by decide) dL_law_365 ?_
  refine top_el (y := r8.toInt64) (by rw [hw2 hk0, hr8]) ?_
  refine lv_iload hx hb dL_law_366 (lv_at hl 0 rfl) ?_
  refine lv_i2l (v := r8.toInt64) hx hb dL_law_368 rfl ?_
  refine W.lcmp hx hb dL_law_369 ?_
  refine top_eq (y := 0) (lg_self _) ?_
  exact lv_if_eq (tgt := 375) hx hb dL_law_370 (by decide) (fun _ => END) (fun h9 => absurd rfl h9)
