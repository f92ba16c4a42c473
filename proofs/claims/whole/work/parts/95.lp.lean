theorem scr_6 {L i : Nat} (hL : L ≤ 3072) (hi : i ≤ 3072) (h : ¬ Int32.ofNat L - 6 < nI i) : i + 6 ≤ L := by
  rcases Nat.lt_or_ge L 6 with h6 | h6
  · exfalso
    refine h (Int32.lt_of_lt_of_le (b := 0) ?_ (Int32.not_lt.mp (nI_pos (by omega))))
    rcases (show L = 0 ∨ L = 1 ∨ L = 2 ∨ L = 3 ∨ L = 4 ∨ L = 5 by omega) with rfl | rfl | rfl | rfl | rfl | rfl <;> decide
  · rcases Nat.lt_or_ge (L - 6) i with h7 | h7
    · exact absurd (by rw [show Int32.ofNat L - 6 = nI (L - 6) from pk_sub (a := L) (b := 6) h6]; exact nI_lt h7 (by omega)) h
    · omega
theorem iinc6 (t : Nat) : nI (6 * t) + Int32.ofInt 6 = nI (6 * (t + 1)) := by
  have e : Int32.ofInt 6 = nI 6 := by decide
  rw [e, nI_add]; rfl
set_option maxHeartbeats 4000000 in
set_option maxRecDepth 100000 in
theorem law_loop {p : Program} {l : Launch} {e : Env} {s : State} {m : MethodId} {below : List Frame} {meth : Method} {c : Code} {b Lx : Nat} {xs : Nat → Int32} {D : va_G} {cI cZ cO cJ : ClassId} {e0 mi x0 m0 ou : Nat} (hC : LX p l s m c b Lx xs D cI cZ cO cJ e0 mi) (hr : meth.sig.returnType = ret) (hlocks : meth.locks = false) : ∀ (fz t : Nat) (H : Heap) (locs : List Loc) (ls : Array Slot), Lx + 1 ≤ 6 * t + fz → 6 * t ≤ Lx → LI D cI cZ cO cJ s.heap.size e0 x0 m0 ou H → va_S (Zs s) s.heap H locs → lv_has ls 7 [(0, .ref b), (1, .ref x0), (2, .ref m0), (3, .ref ou), (4, .int (nI (6 * t)))] → W p l e room_1 s m #[Value.ref b] below meth c H locs (30 + 4 * t) (899 + 40 * t) (lw_Z below #[Value.ref b] s) (F0 m 23 ls []) := by
  obtain ⟨⟨hx, hb, hml, hown, hts⟩, ⟨hX, hbl, hLx⟩, -, -⟩ := id hC
  have hbA : ¬ Zs s b := Nat.not_le.mpr hbl
  intro fz
  induction fz with
  | zero => intro t H locs ls h1 h2; exact absurd h1 (by omega)
  | succ fz ih =>
    intro t H locs ls h1 h2 hI hS hl
    refine lv_iload hx hb dL_law_23 (lv_at hl 4 rfl) ?_
    refine lv_aload_n hx hb dL_law_25 rfl (lv_at hl 0 rfl) ?_
    refine va_slen hx hb hX hbl hbA hS dL_law_26 ?_
    refine lv_bipush (v := 6) hx hb dL_law_27 (by decide) ?_
    refine lv_isub hx hb dL_law_29 ?_
    refine lv_icmp_gt (tgt := 1571) hx hb dL_law_30 (by decide) (fun c_30 => ?_) (fun c_30 => ?_)
    · refine lv_iconst (v := 1) hx hb dL_law_1571 (by decide) ?_
      refine va_forget (fun q hq => hS.2.2 q hq) ?_
      refine W.widen (k := 679203) (n := 7058495) (by omega) (by omega) ?_
      exact lw_ret hx hb hr hlocks dL_law_1572
    · have hi := scr_6 hLx (by omega) c_30
      have hk : ∀ (H2 : Heap) (locs2 : List Loc) (ls2 : Array Slot), LI D cI cZ cO cJ s.heap.size e0 x0 m0 ou H2 → va_S (Zs s) s.heap H2 locs2 → lv_has ls2 7 [(0, .ref b), (1, .ref x0), (2, .ref m0), (3, .ref ou), (4, .int (nI (6 * t)))] → W p l e room_1 s m #[Value.ref b] below meth c H2 locs2 (30 + 4 * t + 4) (899 + 40 * t + 40) (lw_Z below #[Value.ref b] s) (F0 m 1565 ls2 []) := by
        intro H2 locs2 ls2 hI2 hS2 hl2
        refine lv_iinc (v := nI (6 * (t + 1))) (lv' := [(4, .int (nI (6 * (t + 1)))), (0, .ref b), (1, .ref x0), (2, .ref m0), (3, .ref ou)]) hx hb dL_law_1565 hl2 (k := 4) rfl (by exact iinc6 t) (by decide) rfl (fun ls3 hl3 => ?_)
        refine lv_goto (tgt := 23) hx hb dL_law_1568 (by decide) ?_
        have h9 := ih (t + 1) H2 locs2 ls3 (by omega) (by omega) hI2 hS2 (lv_sub hl3 [1, 2, 3, 4, 0] rfl)
        rw [show 30 + 4 * (t + 1) = 30 + 4 * t + 4 by omega, show 899 + 40 * (t + 1) = 899 + 40 * t + 40 by omega] at h9
        exact h9
      refine lv_aload_n hx hb dL_law_33 rfl (lv_at hl 0 rfl) ?_
      refine lv_iload hx hb dL_law_34 (lv_at hl 4 rfl) ?_
      refine ld_s (k := 6 * t) hx hb hX hbl hbA hS (by omega) (by omega) dL_law_36 ?_
      refine lv_bipush (v := 31) hx hb dL_law_37 (by decide) ?_
      refine lv_iand hx hb dL_law_39 ?_
      obtain ⟨j, hj, ej⟩ := pk_andE (xs (6 * t)) (m := 31) 5 (by decide)
      rw [ej]
      have hj32 : j < 32 := hj
      rcases (show j = 0 ∨ j = 1 ∨ j = 2 ∨ j = 3 ∨ j = 4 ∨ j = 5 ∨ j = 6 ∨ j = 7 ∨ j = 8 ∨ j = 9 ∨ j = 10 ∨ j = 11 ∨ j = 12 ∨ j = 13 ∨ j = 14 ∨ j = 15 ∨ j = 16 ∨ j = 17 ∨ j = 18 ∨ j = 19 ∨ j = 20 ∨ j = 21 ∨ j = 22 ∨ j = 23 ∨ j = 24 ∨ j = 25 ∨ j = 26 ∨ j = 27 ∨ j = 28 ∨ j = 29 ∨ j = 30 ∨ j = 31 by omega) with rfl | rfl | rfl | rfl | rfl | rfl | rfl | rfl | rfl | rfl | rfl | rfl | rfl | rfl | rfl | rfl | rfl | rfl | rfl | rfl | rfl | rfl | rfl | rfl | rfl | rfl | rfl | rfl | rfl | rfl | rfl | rfl
      · refine lv_tableIn (off := 104) (tgt := 144) hx hb dL_law_40 (by decide) (by decide) (by decide +kernel) (by decide) ?_
        exact lc_0 hC hI hS hi hl (by omega) (by omega) hk
      · refine lv_tableIn (off := 207) (tgt := 247) hx hb dL_law_40 (by decide) (by decide) (by decide +kernel) (by decide) ?_
        exact lc_1 hC hI hS hi hl (by omega) (by omega) hk
      · refine lv_tableIn (off := 282) (tgt := 322) hx hb dL_law_40 (by decide) (by decide) (by decide +kernel) (by decide) ?_
        exact lc_2 hC hI hS hi hl (by omega) (by omega) hk
      · refine lv_tableIn (off := 338) (tgt := 378) hx hb dL_law_40 (by decide) (by decide) (by decide +kernel) (by decide) ?_
        exact lc_3 hC hI hS hi hl (by omega) (by omega) hk
      · refine lv_tableIn (off := 406) (tgt := 446) hx hb dL_law_40 (by decide) (by decide) (by decide +kernel) (by decide) ?_
        exact lc_4 hC hI hS hi hl (by omega) (by omega) hk
      · refine lv_tableIn (off := 474) (tgt := 514) hx hb dL_law_40 (by decide) (by decide) (by decide +kernel) (by decide) ?_
        exact lc_5 hC hI hS hi hl (by omega) (by omega) hk
      · refine lv_tableIn (off := 565) (tgt := 605) hx hb dL_law_40 (by decide) (by decide) (by decide +kernel) (by decide) ?_
        exact lc_6 hC hI hS hi hl (by omega) (by omega) hk
      · refine lv_tableIn (off := 685) (tgt := 725) hx hb dL_law_40 (by decide) (by decide) (by decide +kernel) (by decide) ?_
        exact lc_7 hC hI hS hi hl (by omega) (by omega) hk
      · refine lv_tableIn (off := 753) (tgt := 793) hx hb dL_law_40 (by decide) (by decide) (by decide +kernel) (by decide) ?_
        exact lc_8 hC hI hS hi hl (by omega) (by omega) hk
      · refine lv_tableIn (off := 766) (tgt := 806) hx hb dL_law_40 (by decide) (by decide) (by decide +kernel) (by decide) ?_
        exact lc_9 hC hI hS hi hl (by omega) (by omega) hk
      · refine lv_tableIn (off := 834) (tgt := 874) hx hb dL_law_40 (by decide) (by decide) (by decide +kernel) (by decide) ?_
        exact lc_10 hC hI hS hi hl (by omega) (by omega) hk
      · refine lv_tableIn (off := 902) (tgt := 942) hx hb dL_law_40 (by decide) (by decide) (by decide +kernel) (by decide) ?_
        exact lc_11 hC hI hS hi hl (by omega) (by omega) hk
      · refine lv_tableIn (off := 958) (tgt := 998) hx hb dL_law_40 (by decide) (by decide) (by decide +kernel) (by decide) ?_
        exact lc_12 hC hI hS hi hl (by omega) (by omega) hk
      · refine lv_tableIn (off := 1014) (tgt := 1054) hx hb dL_law_40 (by decide) (by decide) (by decide +kernel) (by decide) ?_
        exact lc_13 hC hI hS hi hl (by omega) (by omega) hk
      · refine lv_tableIn (off := 1070) (tgt := 1110) hx hb dL_law_40 (by decide) (by decide) (by decide +kernel) (by decide) ?_
        exact lc_14 hC hI hS hi hl (by omega) (by omega) hk
      · refine lv_tableIn (off := 1138) (tgt := 1178) hx hb dL_law_40 (by decide) (by decide) (by decide +kernel) (by decide) ?_
        exact lc_15 hC hI hS hi hl (by omega) (by omega) hk
      · refine lv_tableIn (off := 1194) (tgt := 1234) hx hb dL_law_40 (by decide) (by decide) (by decide +kernel) (by decide) ?_
        exact lc_16 hC hI hS hi hl (by omega) (by omega) hk
      · refine lv_tableIn (off := 1262) (tgt := 1302) hx hb dL_law_40 (by decide) (by decide) (by decide +kernel) (by decide) ?_
        exact lc_17 hC hI hS hi hl (by omega) (by omega) hk
      · refine lv_tableIn (off := 1275) (tgt := 1315) hx hb dL_law_40 (by decide) (by decide) (by decide +kernel) (by decide) ?_
        exact lc_18 hC hI hS hi hl (by omega) (by omega) hk
      · refine lv_tableIn (off := 1338) (tgt := 1378) hx hb dL_law_40 (by decide) (by decide) (by decide +kernel) (by decide) ?_
        exact lc_19 hC hI hS hi hl (by omega) (by omega) hk
      · refine lv_tableIn (off := 1401) (tgt := 1441) hx hb dL_law_40 (by decide) (by decide) (by decide +kernel) (by decide) ?_
        exact lc_20 hC hI hS hi hl (by omega) (by omega) hk
      · refine lv_tableIn (off := 1469) (tgt := 1509) hx hb dL_law_40 (by decide) (by decide) (by decide +kernel) (by decide) ?_
        exact lc_21 hC hI hS hi hl (by omega) (by omega) hk
      · refine lv_tableOut (tgt := 1565) hx hb dL_law_40 (Or.inr (by decide)) (by decide) ?_
        exact W.widen (k := 30 + 4 * t + 4) (n := 899 + 40 * t + 40) (by omega) (by omega) (hk H locs ls hI hS hl)
      · refine lv_tableOut (tgt := 1565) hx hb dL_law_40 (Or.inr (by decide)) (by decide) ?_
        exact W.widen (k := 30 + 4 * t + 4) (n := 899 + 40 * t + 40) (by omega) (by omega) (hk H locs ls hI hS hl)
      · refine lv_tableOut (tgt := 1565) hx hb dL_law_40 (Or.inr (by decide)) (by decide) ?_
        exact W.widen (k := 30 + 4 * t + 4) (n := 899 + 40 * t + 40) (by omega) (by omega) (hk H locs ls hI hS hl)
      · refine lv_tableOut (tgt := 1565) hx hb dL_law_40 (Or.inr (by decide)) (by decide) ?_
        exact W.widen (k := 30 + 4 * t + 4) (n := 899 + 40 * t + 40) (by omega) (by omega) (hk H locs ls hI hS hl)
      · refine lv_tableOut (tgt := 1565) hx hb dL_law_40 (Or.inr (by decide)) (by decide) ?_
        exact W.widen (k := 30 + 4 * t + 4) (n := 899 + 40 * t + 40) (by omega) (by omega) (hk H locs ls hI hS hl)
      · refine lv_tableOut (tgt := 1565) hx hb dL_law_40 (Or.inr (by decide)) (by decide) ?_
        exact W.widen (k := 30 + 4 * t + 4) (n := 899 + 40 * t + 40) (by omega) (by omega) (hk H locs ls hI hS hl)
      · refine lv_tableOut (tgt := 1565) hx hb dL_law_40 (Or.inr (by decide)) (by decide) ?_
        exact W.widen (k := 30 + 4 * t + 4) (n := 899 + 40 * t + 40) (by omega) (by omega) (hk H locs ls hI hS hl)
      · refine lv_tableOut (tgt := 1565) hx hb dL_law_40 (Or.inr (by decide)) (by decide) ?_
        exact W.widen (k := 30 + 4 * t + 4) (n := 899 + 40 * t + 40) (by omega) (by omega) (hk H locs ls hI hS hl)
      · refine lv_tableOut (tgt := 1565) hx hb dL_law_40 (Or.inr (by decide)) (by decide) ?_
        exact W.widen (k := 30 + 4 * t + 4) (n := 899 + 40 * t + 40) (by omega) (by omega) (hk H locs ls hI hS hl)
      · refine lv_tableOut (tgt := 1565) hx hb dL_law_40 (Or.inr (by decide)) (by decide) ?_
        exact W.widen (k := 30 + 4 * t + 4) (n := 899 + 40 * t + 40) (by omega) (by omega) (hk H locs ls hI hS hl)
