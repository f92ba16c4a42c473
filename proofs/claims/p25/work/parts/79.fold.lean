set_option maxHeartbeats 800000 in
set_option maxRecDepth 100000 in
theorem k_X4_addFolder (l : Launch) (D : va_G) (cI cZ cO : ClassId) {L : List Nat} {f : Nat → va_E} {tg : Nat → Nat} {AD : Nat → Nat → Nat} {mc : Nat → Int32} {F : Nat → Nat → Int32} {ik kp tu : Nat → Int32} {n : Nat} {he gv : Nat → Int32} {gp gb ob nm lo : Int32} (hR : Rep cI cO L f tg AD mc F ik kp tu n he gv gp gb ob nm lo) (A : Nat → Prop) (hL : L.Nodup) (hA : ∀ a, a ∈ L → A a) (x : Nat) (y : Nat)  (hM : okC F n) (hxn : x < n) (hy8 : y < 8) (hn20 : n < 20) (hz : F 6 n = 0 ∧ ik n = 0 ∧ tu n = 0 ∧ ∀ p, p < 8 → kp (8 * n + p) = 0) (zA : Nat) (hAz : ∀ q, zA ≤ q → A q) (hne : ¬ A (AD 7 0)) (mi : Nat) : Met l yX4_addFolder wsX4_addFolder (rmf 8 250) (va_Pc [.ref (AD 0 0), .int (nI x), .int (nI y)] (rdY D ([(cI, .int), (cI, .int), (cO, .object "java/lang/Object")]) (va_pl L f) (fY D cO A (AD 7 0) zA mi))) (va_Qi (fun (r : Int32) (_ : Unit) => r = nI n) (fun _ t => PX D cI cO A (AD 0 0) (AD 7 0) (va_up (va_up (va_up F 3 (upd (F 3) n (nI x))) 4 (upd (F 4) n (nI y))) 5 (upd (F 5) n 1)) ik kp tu (n + 1) he gv gp gb ob nm lo t) A) 4 40 A := by
  refine Met.ofW (cc := cX4_addFolder) (maxL := 4) (ret := (some .int)) (by decide) rfl ?_
  intro p e s m args below meth c s₁ B hml hv
  obtain ⟨hargs, ⟨hP, hK, hN⟩, hY⟩ := hv
  have hx := B.exec
  have hb := B.bytes
  have hr := B.returns
  have hts := atoms_spec (ws := wsX4_addFolder) B.pre
  have hown : s.vm.findClass RX4 = some m.cls := findClass_of_methodNamed B.named
  have hlocks := B.notSynchronized
  have hen : entryFrame m args 4 = entryFrame m ([.ref (AD 0 0), .int (nI x), .int (nI y)] : List Value).toArray 4 := by rw [hargs]
  rw [hen]
  have hl := lv_entry ([.ref (AD 0 0), .int (nI x), .int (nI y)]) (n := 4) (Nat.le_of_ble_eq_true rfl)
  rw [lg_entry_eq]
  generalize (lg_sl ([.ref (AD 0 0), .int (nI x), .int (nI y)]) ++ List.replicate (4 - (lg_sl ([.ref (AD 0 0), .int (nI x), .int (nI y)])).length) Slot.unset).toArray = ls at hl ⊢
  have hl : lv_has ls 4 [(0, .ref (AD 0 0)), (1, .int (nI x)), (2, .int (nI y))] := hl
  have hS : va_S A s.heap s.heap [] := va_S.rf
  generalize hQ : MQ below (va_Qi (fun (r : Int32) (_ : Unit) => r = nI n) (fun _ t => PX D cI cO A (AD 0 0) (AD 7 0) (va_up (va_up (va_up F 3 (upd (F 3) n (nI x))) 4 (upd (F 4) n (nI y))) 5 (upd (F 5) n 1)) ik kp tu (n + 1) he gv gp gb ob nm lo t) A) args s 4 40 A = Q
  have go : ∀ (f : Nat → va_E) (H : Heap) (locs : List Loc), va_P D vwCl (va_pl L f) H → Rep cI cO L f tg AD mc F ik kp tu n he gv gp gb ob nm lo → va_S A s.heap H locs → W p l e (headSpec wsX4_addFolder (rmf 8 250)).room s m args below meth c H locs 0 0 Q (F0 m 0 ls []) := by
    intro f H locs hP hR hS
    have hn22 := hR.n22
    refine lv_aload_n hx hb dX4_addFolder_0 rfl (lv_at hl 0 rfl) ?_
    refine lv_iload_n hx hb dX4_addFolder_1 rfl (lv_at hl 1 rfl) ?_
    obtain ⟨kp1, ep1⟩ := (hR.x).at
    refine va_csq (W.runV (As := [.int (nI x)]) (rest := []) ⟨hx, hb, hml, hown, hts⟩ (k_X4_folderAt l D cI cZ cO hR x (by omega)) (cwV 1 hts gX4_addFolder_X4_folderAt rfl rfl rfl (by decide +kernel) ⟨Nat.le_of_ble_eq_true rfl, Nat.le_of_ble_eq_true rfl⟩) ⟨rd_blind, va_recv hK hP (ci := 5) (q0 := kp1) rfl ep1, rd_pre hP hK hN⟩ rfl rfl hl.1 rfl (lv_room (Nat.le_of_ble_eq_true rfl)) dX4_addFolder_2 ⟨Nat.le_of_ble_eq_true rfl, Nat.le_of_ble_eq_true rfl⟩) (fun r er => ?_)
    subst er
    refine top_rf (q := AD 1 x) rfl ?_
    refine lv_astore_n (lv' := [(3, .ref (AD 1 x)), (0, .ref (AD 0 0)), (1, .int (nI x)), (2, .int (nI y))]) hx hb dX4_addFolder_5 rfl hl (by decide) rfl (fun ls hl => ?_)
    refine lv_iload_n hx hb dX4_addFolder_6 rfl (lv_at hl 3 rfl) ?_
    refine va_csv (W.runS (As := [.int (nI y)]) (rest := []) ⟨hx, hb, hml, hown, hts⟩ (k_X4_refuseNoPerson l y (by omega)) (va_cwS 1 hts gX4_addFolder_X4_refuseNoPerson rfl rfl rfl (by decide +kernel) ⟨Nat.le_of_ble_eq_true rfl, Nat.le_of_ble_eq_true rfl⟩) ⟨nf_blind, fun U hU hW => ⟨rfl, trivial⟩⟩ rfl rfl hl.1 rfl (lv_room (Nat.le_of_ble_eq_true rfl)) dX4_addFolder_7 ⟨Nat.le_of_ble_eq_true rfl, Nat.le_of_ble_eq_true rfl⟩) (fun _ => ?_)
    refine lv_aload_n hx hb dX4_addFolder_10 rfl (lv_at hl 1 rfl) ?_
    obtain ⟨kp2, ep2⟩ := (hR.x).at
    refine va_get (D := D) (ci := 5) (v := .ref (AD 0 8)) (C := RX4) (T := TX4) (N := 3) hx hb hts (fun _ h => List.mem_cons_of_mem _ (List.mem_append_left _ (List.mem_append_left _ (List.mem_append_left _ (List.mem_append_left _ (List.mem_append_right _ (h))))))) hown hK hP kp2 ep2 rfl 1 (by decide) (hts _ (List.mem_of_getElem? (i := 3) rfl)) (fun _ h9 => h9) rfl dX4_addFolder_11 ?_
    obtain ⟨kp3, ep3⟩ := (hR.t).at
    obtain ⟨kp4, ep4⟩ := (hR.t).at
    refine vp_callSi (W.runV (As := []) (rest := []) ⟨hx, hb, hml, hown, hts⟩ (k_Jx4a65c_size_8abf5 l D cI cZ cO ep3 ) (cwV 0 hts gX4_addFolder_Jx4a65c_size_8abf5 rfl rfl rfl (by decide +kernel) ⟨Nat.le_of_ble_eq_true rfl, Nat.le_of_ble_eq_true rfl⟩) ⟨rd_blind, va_recv hK hP (ci := 0) (q0 := kp4) rfl ep4, rd_pre hP hK hN⟩ rfl rfl hl.1 rfl (lv_room (Nat.le_of_ble_eq_true rfl)) dX4_addFolder_14 ⟨Nat.le_of_ble_eq_true rfl, Nat.le_of_ble_eq_true rfl⟩) (fun r er => ?_)
    subst er
    refine lv_bipush (v := 20) hx hb dX4_addFolder_17 (by decide) ?_
    refine lv_icmp_lt (tgt := 32) hx hb dX4_addFolder_19 (by decide) (fun c_19 => ?_) (fun c_19 => ?_)
    ·
      refine lv_aload_n hx hb dX4_addFolder_32 rfl (lv_at hl 1 rfl) ?_
      obtain ⟨kp5, ep5⟩ := (hR.x).at
      refine va_get (D := D) (ci := 5) (v := .ref (AD 0 8)) (C := RX4) (T := TX4) (N := 3) hx hb hts (fun _ h => List.mem_cons_of_mem _ (List.mem_append_left _ (List.mem_append_left _ (List.mem_append_left _ (List.mem_append_left _ (List.mem_append_right _ (h))))))) hown hK hP kp5 ep5 rfl 1 (by decide) (hts _ (List.mem_of_getElem? (i := 3) rfl)) (fun _ h9 => h9) rfl dX4_addFolder_33 ?_
      refine va_new (ci := 2) (fs := [.null, .null, .null, .int 0, .int 0, .int 0, .int 0]) (C := RX1) (T := TX1) (N := 7) hx hb hts (fun _ h => List.mem_cons_of_mem _ (List.mem_append_left _ (List.mem_append_left _ (List.mem_append_left _ (List.mem_append_right _ (h)))))) tyX1 tyX1_ok hown (hts _ (List.mem_of_getElem? (i := 4) rfl)) (hts _ (List.mem_of_getElem? (i := 5) rfl)) (hts _ (List.mem_of_getElem? (i := 6) rfl)) hK hP (pl_D hL hA) hS (fun q hq => hAz q (Nat.le_trans hY.1.2.2.2.2 hq)) rfl (fun j hj => by rcases (show j = 0 ∨ j = 1 ∨ j = 2 ∨ j = 3 ∨ j = 4 ∨ j = 5 ∨ j = 6 by omega) with rfl | rfl | rfl | rfl | rfl | rfl | rfl <;> rfl) (Nat.le_of_ble_eq_true rfl) (Nat.le_of_ble_eq_true rfl) dX4_addFolder_36 (fun b9 H hP hD9 hS => ?_)
      obtain ⟨hb9, hL9, hA9, -, -, -, -⟩ := pl_new (tg := tg) (t := 1000) hL hA hP hD9
      refine lv_dup hx hb dX4_addFolder_39 rfl ?_
      refine lv_aload_n hx hb dX4_addFolder_40 rfl (lv_at hl 0 rfl) ?_
      refine lv_iload_n hx hb dX4_addFolder_41 rfl (lv_at hl 3 rfl) ?_
      have hPb : va_P D vwCl [(b9, .inr (2, [.null, .null, .null, .int 0, .int 0, .int 0, .int 0]))] H := va_P_in hP (fun q hq => List.mem_append_right _ hq)
      have hAb : A b9 := hA9 _ (List.mem_append_right _ List.mem_cons_self)
      have hAq : ∀ q, H.size ≤ q → A q := fun q h => hAz q (Nat.le_trans hY.1.2.2.2.2 (Nat.le_trans hS.1 h))
      have hAs : ∀ q, alZ b9 H.size q → A q := fun q h => h.elim (fun e => by rw [e]; exact hAb) (fun h => hAq q h)
      refine va_callv (va_runI (As := [.ref (AD 1 x), .int (nI y)]) (rest := [.ref b9, .ref (AD 0 8)]) ⟨hx, hb, hml, hown, hts⟩ (k_X1i l D cI cZ cO b9 H.size (AD 7 0) (AD 1 x) (nI y)) (cwI 2 hts gX4_addFolder_X1_init rfl rfl rfl (hts _ (List.mem_of_getElem? (i := 6) rfl)) (hts _ (List.mem_of_getElem? (i := 41) rfl)) (hts _ (List.mem_of_getElem? (i := 42) rfl)) rfl (by decide +kernel) ⟨Nat.le_of_ble_eq_true rfl, Nat.le_of_ble_eq_true rfl⟩) ⟨rdF_blind, rdF_pre hPb hK hN (Nat.le_refl _) (hY.1.zz hS hAb hAz)⟩ rfl rfl hl.1 rfl (lv_room (Nat.le_of_ble_eq_true rfl)) dX4_addFolder_42 ⟨Nat.le_of_ble_eq_true rfl, Nat.le_of_ble_eq_true rfl⟩) hS (fun q _ h => hAs q h) hAs (fun u t H2 locs ht hvm hw2 hB hz1 hk1 hS => ?_)
      obtain ⟨hB1, hB2⟩ := hB
      rw [ht] at hB1
      obtain ⟨L3, f3, tg3, hL3, hA3, hP3, hg3, hb3, tb3, h13, t13, h23, t23⟩ := pl_fold3 (tg := tg) (tb := 100 + n) (ta := 200 + n) (tc := 300 + n) hL hA hAq hAb hb9 hP hk1 hB1 hB2
      have hR3 := hR.ext hg3
      have TAIL : ∀ (L2 : List Nat) (f2 : Nat → va_E) (tg2 : Nat → Nat) (AD2 : Nat → Nat → Nat) (mc2 : Nat → Int32) (H2 : Heap) (locs2 : List Loc), L2.Nodup → (∀ a, a ∈ L2 → A a) → AD2 0 = AD 0 → AD2 7 = AD 7 → va_P D vwCl (va_pl L2 f2) H2 → Rep cI cO L2 f2 tg2 AD2 mc2 (va_up (va_up (va_up F 3 (upd (F 3) n (nI x))) 4 (upd (F 4) n (nI y))) 5 (upd (F 5) n 1)) ik kp tu (n + 1) he gv gp gb ob nm lo → va_S A s.heap H2 locs2 → W p l e (headSpec wsX4_addFolder (rmf 8 250)).room s m args below meth c H2 locs2 4 40 Q (F0 m 48 ls [.int (b2i true)]) := by
        intro L2 f2 tg2 AD2 mc2 H2 locs2 hL2 hA2 g0 g7 hP hR hS
        refine lv_pop hx hb dX4_addFolder_48 rfl ?_
        refine lv_aload_n hx hb dX4_addFolder_49 rfl (lv_at hl 1 rfl) ?_
        have hxx := hR.x
        rw [g0] at hxx
        obtain ⟨k1, e1⟩ := hxx.at
        refine va_get (D := D) (ci := 5) (v := .ref (AD 0 8)) (C := RX4) (T := TX4) (N := 3) hx hb hts (fun _ h => List.mem_cons_of_mem _ (List.mem_append_left _ (List.mem_append_left _ (List.mem_append_left _ (List.mem_append_left _ (List.mem_append_right _ (h))))))) hown hK hP k1 e1 rfl 1 (by decide) (hts _ (List.mem_of_getElem? (i := 3) rfl)) (fun _ h9 => h9) rfl dX4_addFolder_50 ?_
        have htt := hR.t
        rw [g0] at htt
        obtain ⟨k2, e2⟩ := htt.at
        refine vp_callSi (W.runV (As := []) (rest := []) ⟨hx, hb, hml, hown, hts⟩ (k_Jx4a65c_size_8abf5 l D cI cZ cO e2) (cwV 0 hts gX4_addFolder_Jx4a65c_size_8abf5 rfl rfl rfl (by decide +kernel) ⟨Nat.le_of_ble_eq_true rfl, Nat.le_of_ble_eq_true rfl⟩) ⟨rd_blind, va_recv hK hP (ci := 0) (q0 := k2) rfl e2, rd_pre hP hK hN⟩ rfl rfl hl.1 rfl (lv_room (Nat.le_of_ble_eq_true rfl)) dX4_addFolder_53 ⟨Nat.le_of_ble_eq_true rfl, Nat.le_of_ble_eq_true rfl⟩) (fun r9 er => ?_)
        subst er
        refine lv_iconst (v := 1) hx hb dX4_addFolder_56 (by decide) ?_
        refine isub_n (x := n + 1) (y := 1) (by omega) hx hb dX4_addFolder_57 ?_
        subst hQ
        exact W.iret hx hb hr (fun t ht hW => ⟨⟨_, (), rfl, (show nI (n + 1 - 1) = nI n from rfl), ⟨L2, tg2, AD2, mc2, hL2, hA2, by rw [g0], by rw [g7], f2, by have e := hP; rw [← ht] at e; exact e, hR⟩⟩, hS.F ht⟩) hS.2.2 dX4_addFolder_58
      have hV := fo_any hb3 hK hP3 hY.1.1
      obtain ⟨m9, qd, hq1, hmn, hm3, hq2⟩ := hR3.td
      have t3 := hR3.2.2.2.2
      have t8 := t3.1 8 (by decide)
      have t9 := t3.2.1
      have nb8 : b9 ≠ AD 0 8 := fun e => by rw [e, t8] at tb3; omega
      have nb9 : b9 ≠ AD 6 0 := fun e => by rw [e, t9] at tb3; omega
      rcases Nat.lt_or_ge n m9 with hlt | hge
      ·
        have hPa := hR3.trP hq1 hP3
        have hAs2 : ∀ q, trA AD q → A q := fun q h => h.elim (fun e => by rw [e]; exact hA3 _ hR3.t.1) (fun e => by rw [e]; exact hA3 _ hq1.1)
        refine va_calli (va_runV (As := [.ref b9]) (rest := []) ⟨hx, hb, hml, hown, hts⟩ (k_addA2 l D cI cZ cO (fun z => AD (6 * z) (8 - 8 * z)) m9 (trA AD) qd (mc 0) (nI n) hR3.trAp b9 n rfl hlt (by omega) (fun j hj y hy hc => by cases hy; exact hc.elim nb8 nb9)) (cwV 1 hts gX4_addFolder_Jx4a65c_add_9ea2d rfl rfl rfl (by decide +kernel) ⟨Nat.le_of_ble_eq_true rfl, Nat.le_of_ble_eq_true rfl⟩) ⟨rdY_blind, va_recv hK hPa (ci := 0) (q0 := 0) rfl rfl, rdY_pre hPa hK hN (fun j hj y hy => by cases hy; exact hV)⟩ rfl rfl hl.1 rfl (lv_room (Nat.le_of_ble_eq_true rfl)) dX4_addFolder_45 ⟨Nat.le_of_ble_eq_true rfl, Nat.le_of_ble_eq_true rfl⟩) hS (fun q _ h => hAs2 q h) hAs2 (fun r9 u9 t H3 locs3 ht hvm hw2 hB hz1 hk1 hS => ?_)
        subst hw2
        rw [ht] at hB
        obtain ⟨L4, f4, tg4, hL4, hA4, hP4, hR4⟩ := hR3.fin_F (F' := va_up (va_up (va_up F 3 (upd (F 3) n (nI x))) 4 (upd (F 4) n (nI y))) 5 (upd (F 5) n 1)) (d6 := AD 6 0) hM hn20 hxn hL3 hA3 (Or.inr rfl) (hA3 _ hq1.1) hP3 (fun q hq _ c1 c2 => hk1 q hq (fun hc => hc.elim c1 c2)) hB (by omega) hm3 (fun i hi => by rw [va_up_ne _ _ (by omega)]; exact hq2 i hi) (va_up_self _ _ _) hb3 tb3 h13 t13 h23 t23 hz.1 hz.2.1 hz.2.2.1 hz.2.2.2 rfl rfl rfl rfl rfl rfl rfl rfl rfl rfl
        refine W.widen (k := 4) (n := 40) (Nat.le_of_ble_eq_true rfl) (Nat.le_of_ble_eq_true rfl) ?_
        exact TAIL _ _ _ _ _ _ _ hL4 hA4 adF_0 adF_7 hP4 hR4 hS
      ·
        have hnm : m9 = n := by omega
        subst hnm
        have hm4 : m9 = 10 ∨ m9 = 15 := by omega
        have hPa := hR3.trP2 hq1 hP3
        have hV8 : AD 0 8 < H2.size := va_pl_lt (X := []) hP3 hR3.t.1
        have hAs2 : ∀ q, alB (AD 0 8) (AD 6 0) H2.size q → A q := fun q h => h.elim (fun e => by rw [e]; exact hA3 _ hR3.t.1) (fun h => h.elim (fun e => by rw [e]; exact hA3 _ hq1.1) (fun h => hAz q (Nat.le_trans hY.1.2.2.2.2 (Nat.le_trans hS.1 h))))
        have hqa : ∀ j, j < m9 → ∀ z, qd j = some z → va_Any "java/lang/Object" s H2 z := fun j hj z hz9 => by rw [hq2 j hj] at hz9; cases hz9; exact fo_any (hR3.fo hj) hK hP3 hY.1.1
        have hqn : ∀ j, j < m9 → ∀ z, qd j = some z → ¬ alB (AD 0 8) (AD 6 0) H2.size z := fun j hj z hz9 hc => by
          rw [hq2 j hj] at hz9
          cases hz9
          have t1 := (t3.2.2 j hj).1
          rcases hc with hc | hc | hc
          · rw [hc, t8] at t1; omega
          · rw [hc, t9] at t1; omega
          · exact absurd (va_pl_lt (X := []) hP3 (hR3.fo hj).1) (by omega)
        refine va_calli (va_runV (As := [.ref b9]) (rest := []) ⟨hx, hb, hml, hown, hts⟩ (k_addB2 l D cI cZ cO (AD 0 8) (AD 6 0) m9 mi H2.size qd (mc 0) (nI m9) rfl b9 nb8 nb9 hV.lt hm4 hR3.trNe hV8 hqn) (cwV 1 hts gX4_addFolder_Jx4a65c_add_9ea2d rfl rfl rfl (by decide +kernel) ⟨Nat.le_of_ble_eq_true rfl, Nat.le_of_ble_eq_true rfl⟩) ⟨rdV_blind, va_recv hK hPa (ci := 0) (q0 := 0) rfl rfl, hY.pre hPa hK hN hqa hV⟩ rfl rfl hl.1 rfl (lv_room (Nat.le_of_ble_eq_true rfl)) dX4_addFolder_45 ⟨Nat.le_of_ble_eq_true rfl, Nat.le_of_ble_eq_true rfl⟩) hS (fun q _ h => hAs2 q h) hAs2 (fun r9 u9 t H3 locs3 ht hvm hw2 hB hz1 hk1 hS => ?_)
        subst hw2
        obtain ⟨hB9, hz9, hn9⟩ := hB
        rw [ht] at hB9
        have hlt3 : ∀ a, a ∈ L3 → a < H2.size := fun a ha => va_pl_lt (X := []) hP3 ha
        obtain ⟨L4, f4, tg4, hL4, hA4, hP4, hR4⟩ := hR3.fin_F (F' := va_up (va_up (va_up F 3 (upd (F 3) m9 (nI x))) 4 (upd (F 4) m9 (nI y))) 5 (upd (F 5) m9 1)) (d6 := u9) hM hn20 hxn hL3 hA3 (Or.inl (fun hh => absurd (hlt3 _ hh) (by omega))) (hAs2 _ (Or.inr (Or.inr hz9))) hP3 (fun q hq hm c1 c2 => hk1 q hq (fun hc => hc.elim c1 (fun hc => hc.elim c2 (fun hc => absurd (hlt3 _ hm) (by omega))))) hB9 (by omega) (by omega) (fun i hi => by rw [va_up_ne _ _ (by omega)]; show (if _ then _ else _) = _; rw [if_pos (by omega)]; rw [show 0 + (i - 0) = i by omega]; exact hq2 i hi) (va_up_self _ _ _) hb3 tb3 h13 t13 h23 t23 hz.1 hz.2.1 hz.2.2.1 hz.2.2.2 rfl rfl rfl rfl rfl rfl rfl rfl rfl rfl
        refine W.widen (k := 4) (n := 40) (Nat.le_of_ble_eq_true rfl) (Nat.le_of_ble_eq_true rfl) ?_
        exact TAIL _ _ _ _ _ _ _ hL4 hA4 adF_0 adF_7 hP4 hR4 hS
    ·
      exact absurd (nI_lt hn20 (by decide)) c_19
  exact go _ _ _ hP hR hS
