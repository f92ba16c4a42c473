set_option maxHeartbeats 800000 in
set_option maxRecDepth 100000 in
theorem k_X4_findHeld (l : Launch) (D : va_G) (cI cZ cO : ClassId) {L : List Nat} {f : Nat → va_E} {tg : Nat → Nat} {AD : Nat → Nat → Nat} {mc : Nat → Int32} {F : Nat → Nat → Int32} {ik kp tu : Nat → Int32} {n : Nat} {he gv : Nat → Int32} {gp gb ob nm lo : Int32} (hR : Rep cI cO L f tg AD mc F ik kp tu n he gv gp gb ob nm lo) (A : Nat → Prop) (hL : L.Nodup) (hA : ∀ a, a ∈ L → A a) (y : Nat)  (hM : okC F n) (hE : okE F n) (hyn : y < n)  : Met l yX4_findHeld wsX4_findHeld (rmr 4 91) (va_Pc [.ref (AD 0 0), .ref (AD 1 y)] (rdP D ([(cI, .int), (cI, .int), (cO, .object "java/lang/Object")]) (va_pl L f))) (va_Qv (fun _ : Unit => True) (fun _ t => PB D cI cO L tg AD mc F ik kp tu n (fillA he (fun p => mRights F p y) 8) gv gp gb ob nm lo t) A) 0 0 A := by
  refine Met.ofW (cc := cX4_findHeld) (maxL := 3) (ret := none) (by decide) rfl ?_
  intro p e s m args below meth c s₁ B hml hv
  obtain ⟨hargs, hP, hK, hN⟩ := hv
  have hx := B.exec
  have hb := B.bytes
  have hr := B.returns
  have hts := atoms_spec (ws := wsX4_findHeld) B.pre
  have hown : s.vm.findClass RX4 = some m.cls := findClass_of_methodNamed B.named
  have hlocks := B.notSynchronized
  have hen : entryFrame m args 3 = entryFrame m ([.ref (AD 0 0), .ref (AD 1 y)] : List Value).toArray 3 := by rw [hargs]
  rw [hen]
  have hl := lv_entry ([.ref (AD 0 0), .ref (AD 1 y)]) (n := 3) (Nat.le_of_ble_eq_true rfl)
  rw [lg_entry_eq]
  generalize (lg_sl ([.ref (AD 0 0), .ref (AD 1 y)]) ++ List.replicate (3 - (lg_sl ([.ref (AD 0 0), .ref (AD 1 y)])).length) Slot.unset).toArray = ls at hl ⊢
  have hl : lv_has ls 3 [(0, .ref (AD 0 0)), (1, .ref (AD 1 y))] := hl
  have hS : va_S A s.heap s.heap [] := va_S.rf
  generalize hQ : MQ below (va_Qv (fun _ : Unit => True) (fun _ t => PB D cI cO L tg AD mc F ik kp tu n (fillA he (fun p => mRights F p y) 8) gv gp gb ob nm lo t) A) args s 0 0 A = Q
  have go : ∀ (f : Nat → va_E) (H : Heap) (locs : List Loc), va_P D vwCl (va_pl L f) H → Rep cI cO L f tg AD mc F ik kp tu n he gv gp gb ob nm lo → va_S A s.heap H locs → W p l e (headSpec wsX4_findHeld (rmr 4 91)).room s m args below meth c H locs 0 0 Q (F0 m 0 ls []) := by
    intro f H locs hP hR hS
    refine lv_iconst (v := 0) hx hb dX4_findHeld_0 (by decide) ?_
    refine lv_istore_n (lv' := [(2, .int 0), (0, .ref (AD 0 0)), (1, .ref (AD 1 y))]) hx hb dX4_findHeld_1 rfl hl (by decide) rfl (fun ls hl => ?_)
    have L_2 : ∀ fz i : Nat, i ≤ 8 → 8 - i < fz → ∀ (khe : Nat → Int32), khe = (fillA he (fun p => mRights F p y) i) → ∀ (f : Nat → va_E) (H : Heap) (locs : List Loc), va_P D vwCl (va_pl L f) H → Rep cI cO L f tg AD mc F ik kp tu n khe gv gp gb ob nm lo → va_S A s.heap H locs → ∀ ls : Array Slot, lv_has ls 3 [(0, .ref (AD 0 0)), (1, .ref (AD 1 y)), (2, .int (nI i))] → W p l e (headSpec wsX4_findHeld (rmr 4 91)).room s m args below meth c H locs 0 0 Q (F0 m 2 ls []) := by
      intro fz
      induction fz with
      | zero => intro i _ h; exact absurd h (Nat.not_lt_zero _)
      | succ fz ih_2 =>
        intro i hi_2 hn_2 khe ekhe f H locs hP hR hS ls hl
        subst ekhe
        rcases Nat.lt_or_ge i 8 with h_i | h_i
        ·
          refine lv_iload_n hx hb dX4_findHeld_2 rfl (lv_at hl 2 rfl) ?_
          refine lv_bipush (v := 8) hx hb dX4_findHeld_3 (by decide) ?_
          refine lv_icmp_ge (tgt := 29) hx hb dX4_findHeld_5 (by decide) (fun c_5 => absurd c_5 (lt_no h_i (by decide))) (fun c_5 => ?_)
          refine lv_aload_n hx hb dX4_findHeld_8 rfl (lv_at hl 0 rfl) ?_
          obtain ⟨kp1, ep1⟩ := (hR.x).at
          refine va_get (D := D) (ci := 5) (v := .ref (AD 0 5)) (C := RX4) (T := TX4) (N := 3) hx hb hts (fun _ h => List.mem_cons_of_mem _ (List.mem_append_left _ (List.mem_append_left _ (List.mem_append_left _ (List.mem_append_left _ (List.mem_append_left _ (List.mem_append_right _ (h)))))))) hown hK hP kp1 ep1 rfl 2 (by decide) (hts _ (List.mem_of_getElem? (i := 1) rfl)) (fun _ h9 => h9) rfl dX4_findHeld_9 ?_
          obtain ⟨kp2, ep2⟩ := (hR.mo).at
          refine va_get (D := D) (ci := 4) (v := .ref (AD 0 6)) (C := RX3) (T := TX3) (N := 7) hx hb hts (fun _ h => List.mem_cons_of_mem _ (List.mem_append_left _ (List.mem_append_left _ (List.mem_append_left _ (List.mem_append_left _ (List.mem_append_right _ (h))))))) hown hK hP kp2 ep2 rfl 0 (by decide) (hts _ (List.mem_of_getElem? (i := 2) rfl)) (fun _ h9 => h9) rfl dX4_findHeld_12 ?_
          refine lv_iload_n hx hb dX4_findHeld_15 rfl (lv_at hl 2 rfl) ?_
          refine lv_aload_n hx hb dX4_findHeld_16 rfl (lv_at hl 0 rfl) ?_
          refine lv_iload_n hx hb dX4_findHeld_17 rfl (lv_at hl 2 rfl) ?_
          refine lv_aload_n hx hb dX4_findHeld_18 rfl (lv_at hl 1 rfl) ?_
          obtain ⟨kp3, ep3⟩ := (hR.x).at
          refine vp_callSi (W.runV (As := [.int (nI i), .ref (AD 1 y)]) (rest := [.int (nI i), .ref (AD 0 6)]) ⟨hx, hb, hml, hown, hts⟩ (k_X4_rightsByEntries l D cI cZ cO hR i y hM hE hyn) (cwV 2 hts gX4_findHeld_X4_rightsByEntries rfl rfl rfl (by decide +kernel) ⟨Nat.le_of_ble_eq_true rfl, Nat.le_of_ble_eq_true rfl⟩) ⟨rd_blind, va_recv hK hP (ci := 5) (q0 := kp3) rfl ep3, rd_pre hP hK hN⟩ rfl rfl hl.1 rfl (lv_room (Nat.le_of_ble_eq_true rfl)) dX4_findHeld_19 ⟨Nat.le_of_ble_eq_true rfl, Nat.le_of_ble_eq_true rfl⟩) (fun r er => ?_)
          subst er
          obtain ⟨kp4, ep4⟩ := (hR.mh).at
          refine st_i (k := i) hx hb hK hP (pl_D hL hA) hS kp4 0 ep4 rfl (by omega) (by decide) dX4_findHeld_22 (fun H locs hP _ hS => ?_)
          obtain ⟨f, hP, hR⟩ := hR.st_mh hL ep4 hP
          refine lv_iinc (v := nI (i + 1)) (lv' := [(2, .int (nI (i + 1))), (0, .ref (AD 0 0)), (1, .ref (AD 1 y))]) hx hb dX4_findHeld_23 hl (k := 2) rfl (by exact iinc_n _) (by decide) rfl (fun ls hl => ?_)
          refine lv_goto (tgt := 2) hx hb dX4_findHeld_26 (by decide) ?_
          exact ih_2 (i + 1) (by omega) (by omega) _ (by rfl) _ _ _ hP hR hS ls (lv_sub hl [1, 2, 0] rfl)
        ·
          obtain rfl : 8 = i := by omega
          refine lv_iload_n hx hb dX4_findHeld_2 rfl (lv_at hl 2 rfl) ?_
          refine lv_bipush (v := 8) hx hb dX4_findHeld_3 (by decide) ?_
          refine lv_icmp_ge (tgt := 29) hx hb dX4_findHeld_5 (by decide) (fun c_5 => ?_) (fun c_5 => absurd (lt_yes h_i (by decide)) c_5)
          subst hQ
          exact W.vret hx hb hr (fun t ht hW => ⟨⟨(), rfl, trivial, ⟨_, by have e := hP; rw [← ht] at e; exact e, hR⟩⟩, hS.F ht⟩) hS.2.2 dX4_findHeld_29
    exact L_2 (8 + 1) 0 (by omega) (by omega) _ (by rfl) _ _ _ hP hR hS ls (lv_sub hl [1, 2, 0] rfl)
  exact go _ _ _ hP hR hS

set_option maxHeartbeats 800000 in
set_option maxRecDepth 100000 in
theorem k_X4_mapWith (l : Launch) (D : va_G) (cI cZ cO : ClassId) {L : List Nat} {f : Nat → va_E} {tg : Nat → Nat} {AD : Nat → Nat → Nat} {mc : Nat → Int32} {F : Nat → Nat → Int32} {ik kp tu : Nat → Int32} {n : Nat} {he gv : Nat → Int32} {gp gb ob nm lo : Int32} (hR : Rep cI cO L f tg AD mc F ik kp tu n he gv gp gb ob nm lo) (A : Nat → Prop) (hL : L.Nodup) (hA : ∀ a, a ∈ L → A a) (y : Nat) (gi : Int32)  (hM : okC F n) (hE : okE F n) (hyn : y < n) (hhe : agr8 he (fun p => mRights F p y)) (hg : gi = -1 ∨ ∃ k, k < 6 ∧ gi = nI k) : Met l yX4_mapWith wsX4_mapWith (rmr 4 92) (va_Pc [.ref (AD 0 0), .ref (AD 1 y), .int gi] (rdP D ([(cI, .int), (cI, .int), (cO, .object "java/lang/Object")]) (va_pl L f))) (va_Qv (fun _ : Unit => True) (fun _ t => PB D cI cO L tg AD mc F ik kp tu n he (fillA gv (mV F o0 y gi) 8) gi (mGB F o0 y gi) (mOB F o0 y gi) (mN F o0 y gi) (mL F o0 y gi) t) A) 0 0 A := by
  refine Met.ofW (cc := cX4_mapWith) (maxL := 4) (ret := none) (by decide) rfl ?_
  intro p e s m args below meth c s₁ B hml hv
  obtain ⟨hargs, hP, hK, hN⟩ := hv
  have hx := B.exec
  have hb := B.bytes
  have hr := B.returns
  have hts := atoms_spec (ws := wsX4_mapWith) B.pre
  have hown : s.vm.findClass RX4 = some m.cls := findClass_of_methodNamed B.named
  have hlocks := B.notSynchronized
  have hen : entryFrame m args 4 = entryFrame m ([.ref (AD 0 0), .ref (AD 1 y), .int gi] : List Value).toArray 4 := by rw [hargs]
  rw [hen]
  have hl := lv_entry ([.ref (AD 0 0), .ref (AD 1 y), .int gi]) (n := 4) (Nat.le_of_ble_eq_true rfl)
  rw [lg_entry_eq]
  generalize (lg_sl ([.ref (AD 0 0), .ref (AD 1 y), .int gi]) ++ List.replicate (4 - (lg_sl ([.ref (AD 0 0), .ref (AD 1 y), .int gi])).length) Slot.unset).toArray = ls at hl ⊢
  have hl : lv_has ls 4 [(0, .ref (AD 0 0)), (1, .ref (AD 1 y)), (2, .int gi)] := hl
  have hS : va_S A s.heap s.heap [] := va_S.rf
  generalize hQ : MQ below (va_Qv (fun _ : Unit => True) (fun _ t => PB D cI cO L tg AD mc F ik kp tu n he (fillA gv (mV F o0 y gi) 8) gi (mGB F o0 y gi) (mOB F o0 y gi) (mN F o0 y gi) (mL F o0 y gi) t) A) args s 0 0 A = Q
  have go : ∀ (f : Nat → va_E) (H : Heap) (locs : List Loc), va_P D vwCl (va_pl L f) H → Rep cI cO L f tg AD mc F ik kp tu n he gv gp gb ob nm lo → va_S A s.heap H locs → W p l e (headSpec wsX4_mapWith (rmr 4 92)).room s m args below meth c H locs 0 0 Q (F0 m 0 ls []) := by
    intro f H locs hP hR hS
    refine lv_iload_n hx hb dX4_mapWith_0 rfl (lv_at hl 2 rfl) ?_
    refine lv_iconst (v := (-1)) hx hb dX4_mapWith_1 (by decide) ?_
    have J_17 : ∀ (z0 : Int32), z0 = (mmC F gi) → ∀ (f : Nat → va_E) (H : Heap) (locs : List Loc), va_P D vwCl (va_pl L f) H → Rep cI cO L f tg AD mc F ik kp tu n he gv gp gb ob nm lo → va_S A s.heap H locs → ∀ ls : Array Slot, lv_has ls 4 [(0, .ref (AD 0 0)), (1, .ref (AD 1 y)), (2, .int gi)] → W p l e (headSpec wsX4_mapWith (rmr 4 92)).room s m args below meth c H locs 0 0 Q (F0 m 17 ls [.int z0]) := by
      intro z0 ez0 f H locs hP hR hS ls hl
      subst ez0
      refine lv_istore_n (lv' := [(3, .int (mmC F gi)), (0, .ref (AD 0 0)), (1, .ref (AD 1 y)), (2, .int gi)]) hx hb dX4_mapWith_17 rfl hl (by decide) rfl (fun ls hl => ?_)
      refine lv_aload_n hx hb dX4_mapWith_18 rfl (lv_at hl 1 rfl) ?_
      obtain ⟨kp1, ep1⟩ := (hR.x).at
      refine va_get (D := D) (ci := 5) (v := .ref (AD 0 5)) (C := RX4) (T := TX4) (N := 3) hx hb hts (fun _ h => List.mem_cons_of_mem _ (List.mem_append_left _ (List.mem_append_left _ (List.mem_append_left _ (List.mem_append_right _ (h)))))) hown hK hP kp1 ep1 rfl 2 (by decide) (hts _ (List.mem_of_getElem? (i := 2) rfl)) (fun _ h9 => h9) rfl dX4_mapWith_19 ?_
      refine lv_aload_n hx hb dX4_mapWith_22 rfl (lv_at hl 2 rfl) ?_
      obtain ⟨kp2, ep2⟩ := (hR.fo (i := y) (by omega)).at
      refine va_get (D := D) (ci := 2) (v := .int (F 4 y)) (C := RX1) (T := TX1) (N := 7) hx hb hts (fun _ h => List.mem_cons_of_mem _ (List.mem_append_left _ (List.mem_append_left _ (List.mem_append_right _ (h))))) hown hK hP kp2 ep2 rfl 3 (by decide) (hts _ (List.mem_of_getElem? (i := 3) rfl)) (fun _ h9 => h9) rfl dX4_mapWith_23 ?_
      refine top_eq (y := nI (i2n (F 4 y))) (by exact (hM.own hyn).1) ?_
      refine lv_iload_n hx hb dX4_mapWith_26 rfl (lv_at hl 3 rfl) ?_
      refine lv_iload_n hx hb dX4_mapWith_27 rfl (lv_at hl 0 rfl) ?_
      have hPm := hR.mpP hP
      refine va_callv (va_runV (As := [.int (nI (i2n (F 4 y))), .int gi, .int (mmC F gi)]) (rest := []) ⟨hx, hb, hml, hown, hts⟩ (k_X3_make l D cI cZ cO (fun k => AD 0 (k + 5)) (mpA AD) he gv gp gb ob nm lo hR.mpAp (i2n (F 4 y)) gi (mmC F gi) (fun p hp => by rw [hhe p hp]; exact mR7 hM hE hyn)) (cwV 3 hts gX4_mapWith_X3_make rfl rfl rfl (by decide +kernel) ⟨Nat.le_of_ble_eq_true rfl, Nat.le_of_ble_eq_true rfl⟩) ⟨rd_blind, va_recv hK hPm (ci := 4) (q0 := 0) rfl rfl, rd_pre hPm hK hN⟩ rfl rfl hl.1 rfl (lv_room (Nat.le_of_ble_eq_true rfl)) dX4_mapWith_28 ⟨Nat.le_of_ble_eq_true rfl, Nat.le_of_ble_eq_true rfl⟩) hS (fun q _ h => hR.mpSub hA h) (fun q h => hR.mpSub hA h) (fun u t H locs ht hvm hw hB hz1 hk1 hS => ?_)
      have hP1 := hB
      rw [ht] at hP1
      obtain ⟨f, hP, hR⟩ := hR.call_mp hP hk1 hP1
      subst hQ
      have qgv : fillA gv (cV he (mmC F gi) (nI (i2n (F 4 y))) (cNm he (mmC F gi) (nI (i2n (F 4 y))) 3)) 8 = fillA gv (mV F o0 y gi) 8 := by rw [cN_is hhe (hM.own hyn).1 (hM.own hyn).2]; exact fillA_cg (cV_is hhe (hM.own hyn).1 (hM.own hyn).2)
      have qgb : cGB he (mmC F gi) (nI (i2n (F 4 y))) (cNm he (mmC F gi) (nI (i2n (F 4 y))) 3) = mGB F o0 y gi := by rw [cN_is hhe (hM.own hyn).1 (hM.own hyn).2]; exact cG_is hhe (hM.own hyn).1
      have qob : cOB he (mmC F gi) (nI (i2n (F 4 y))) (cNm he (mmC F gi) (nI (i2n (F 4 y))) 3) = mOB F o0 y gi := by rw [cN_is hhe (hM.own hyn).1 (hM.own hyn).2]; exact cO_is hhe (hM.own hyn).1
      have qnm : (cNm he (mmC F gi) (nI (i2n (F 4 y))) 3) = mN F o0 y gi := by exact cN_is hhe (hM.own hyn).1 (hM.own hyn).2
      have qlo : cLoss he (mmC F gi) (nI (i2n (F 4 y))) (cNm he (mmC F gi) (nI (i2n (F 4 y))) 3) = mL F o0 y gi := by rw [cN_is hhe (hM.own hyn).1 (hM.own hyn).2]; exact cL_is hhe (hM.own hyn).1 (hM.own hyn).2
      have hR := hR.cg rfl rfl rfl rfl rfl rfl rfl qgv rfl qgb qob qnm qlo
      exact W.vret hx hb hr (fun t ht hW => ⟨⟨(), rfl, trivial, ⟨_, by have e := hP; rw [← ht] at e; exact e, hR⟩⟩, hS.F ht⟩) hS.2.2 dX4_mapWith_31
    refine lv_icmp_ne (tgt := 9) hx hb dX4_mapWith_2 (by decide) (fun c_2 => ?_) (fun c_2 => ?_)
    ·
      refine lv_aload_n hx hb dX4_mapWith_9 rfl (lv_at hl 0 rfl) ?_
      obtain ⟨kp3, ep3⟩ := (hR.x).at
      refine va_get (D := D) (ci := 5) (v := .ref (AD 0 1)) (C := RX4) (T := TX4) (N := 3) hx hb hts (fun _ h => List.mem_cons_of_mem _ (List.mem_append_left _ (List.mem_append_left _ (List.mem_append_left _ (List.mem_append_right _ (h)))))) hown hK hP kp3 ep3 rfl 0 (by decide) (hts _ (List.mem_of_getElem? (i := 1) rfl)) (fun _ h9 => h9) rfl dX4_mapWith_10 ?_
      refine lv_iload_n hx hb dX4_mapWith_13 rfl (lv_at hl 2 rfl) ?_
      refine top_eq (y := nI (i2n gi)) (by exact grp_nat hg c_2) ?_
      obtain ⟨ev, hPg, hev⟩ := rp_gr hR hP
      refine vp_callSi (W.runV (As := [.int (nI (i2n gi))]) (rest := []) ⟨hx, hb, hml, hown, hts⟩ (k_X2_everyoneIn l D cI cZ cO (fun k => AD 0 (k + 1)) (F 1) (F 2) ev (i2n gi) (grp6 hg c_2)) (cwV 1 hts gX4_mapWith_X2_everyoneIn rfl rfl rfl (by decide +kernel) ⟨Nat.le_of_ble_eq_true rfl, Nat.le_of_ble_eq_true rfl⟩) ⟨rd_blind, va_recv hK hPg (ci := 3) (q0 := 0) rfl rfl, rd_pre hPg hK hN⟩ rfl rfl hl.1 rfl (lv_room (Nat.le_of_ble_eq_true rfl)) dX4_mapWith_14 ⟨Nat.le_of_ble_eq_true rfl, Nat.le_of_ble_eq_true rfl⟩) (fun r er => ?_)
      subst er
      refine top_eq (y := mMm F gi) (by exact hev _ (grp6 hg c_2)) ?_
      exact J_17 _ ((if_neg c_2).symm) _ _ _ hP hR hS ls (lv_sub hl [0, 1, 2] rfl)
    ·
      refine lv_iconst (v := 0) hx hb dX4_mapWith_5 (by decide) ?_
      refine lv_goto (tgt := 17) hx hb dX4_mapWith_6 (by decide) ?_
      exact J_17 _ ((if_pos c_2).symm) _ _ _ hP hR hS ls (lv_sub hl [0, 1, 2] rfl)
  exact go _ _ _ hP hR hS
