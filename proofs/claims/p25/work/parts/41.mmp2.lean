set_option maxHeartbeats 800000 in
set_option maxRecDepth 100000 in
theorem k_X4_mappingOf (l : Launch) (D : va_G) (cI cZ cO : ClassId) {L : List Nat} {f : Nat → va_E} {tg : Nat → Nat} {AD : Nat → Nat → Nat} {mc : Nat → Int32} {F : Nat → Nat → Int32} {ik kp tu : Nat → Int32} {n : Nat} {he gv : Nat → Int32} {gp gb ob nm lo : Int32} (hR : Rep cI cO L f tg AD mc F ik kp tu n he gv gp gb ob nm lo) (A : Nat → Prop) (hL : L.Nodup) (hA : ∀ a, a ∈ L → A a) (y : Nat)  (hM : okC F n) (hE : okE F n) (hyn : y < n)  : Met l yX4_mappingOf wsX4_mappingOf (rmr 5 115) (va_Pc [.ref (AD 0 0), .ref (AD 1 y)] (rdP D ([(cI, .int), (cI, .int), (cO, .object "java/lang/Object")]) (va_pl L f))) (va_Qq (fun (r : Option Nat) (_ : Unit) => r = some (AD 0 5)) (fun _ t => PB D cI cO L tg AD mc F ik kp tu n (fillA he (fun p => mRights F p y) 8) (fillA gv (mV F o0 y (mBest F o0 y)) 8) (mBest F o0 y) (mGB F o0 y (mBest F o0 y)) (mOB F o0 y (mBest F o0 y)) (mN F o0 y (mBest F o0 y)) (mL F o0 y (mBest F o0 y)) t) A) 0 0 A := by
  refine Met.ofW (cc := cX4_mappingOf) (maxL := 5) (ret := (some (.object "ShareMover$Mapping"))) (by decide) rfl ?_
  intro p e s m args below meth c s₁ B hml hv
  obtain ⟨hargs, hP, hK, hN⟩ := hv
  have hx := B.exec
  have hb := B.bytes
  have hr := B.returns
  have hts := atoms_spec (ws := wsX4_mappingOf) B.pre
  have hown : s.vm.findClass RX4 = some m.cls := findClass_of_methodNamed B.named
  have hlocks := B.notSynchronized
  have hen : entryFrame m args 5 = entryFrame m ([.ref (AD 0 0), .ref (AD 1 y)] : List Value).toArray 5 := by rw [hargs]
  rw [hen]
  have hl := lv_entry ([.ref (AD 0 0), .ref (AD 1 y)]) (n := 5) (Nat.le_of_ble_eq_true rfl)
  rw [lg_entry_eq]
  generalize (lg_sl ([.ref (AD 0 0), .ref (AD 1 y)]) ++ List.replicate (5 - (lg_sl ([.ref (AD 0 0), .ref (AD 1 y)])).length) Slot.unset).toArray = ls at hl ⊢
  have hl : lv_has ls 5 [(0, .ref (AD 0 0)), (1, .ref (AD 1 y))] := hl
  have hS : va_S A s.heap s.heap [] := va_S.rf
  generalize hQ : MQ below (va_Qq (fun (r : Option Nat) (_ : Unit) => r = some (AD 0 5)) (fun _ t => PB D cI cO L tg AD mc F ik kp tu n (fillA he (fun p => mRights F p y) 8) (fillA gv (mV F o0 y (mBest F o0 y)) 8) (mBest F o0 y) (mGB F o0 y (mBest F o0 y)) (mOB F o0 y (mBest F o0 y)) (mN F o0 y (mBest F o0 y)) (mL F o0 y (mBest F o0 y)) t) A) args s 0 0 A = Q
  have go : ∀ (f : Nat → va_E) (H : Heap) (locs : List Loc), va_P D vwCl (va_pl L f) H → Rep cI cO L f tg AD mc F ik kp tu n he gv gp gb ob nm lo → va_S A s.heap H locs → W p l e (headSpec wsX4_mappingOf (rmr 5 115)).room s m args below meth c H locs 0 0 Q (F0 m 0 ls []) := by
    intro f H locs hP hR hS
    refine lv_aload_n hx hb dX4_mappingOf_0 rfl (lv_at hl 0 rfl) ?_
    refine lv_aload_n hx hb dX4_mappingOf_1 rfl (lv_at hl 1 rfl) ?_
    obtain ⟨kp1, ep1⟩ := (hR.x).at
    refine va_callv (va_runV (As := [.ref (AD 1 y)]) (rest := []) ⟨hx, hb, hml, hown, hts⟩ (k_X4_findHeld l D cI cZ cO hR A hL hA y hM hE hyn) (cwV 1 hts gX4_mappingOf_X4_findHeld rfl rfl rfl (by decide +kernel) ⟨Nat.le_of_ble_eq_true rfl, Nat.le_of_ble_eq_true rfl⟩) ⟨rd_blind, va_recv hK hP (ci := 5) (q0 := kp1) rfl ep1, rd_pre hP hK hN⟩ rfl rfl hl.1 rfl (lv_room (Nat.le_of_ble_eq_true rfl)) dX4_mappingOf_2 ⟨Nat.le_of_ble_eq_true rfl, Nat.le_of_ble_eq_true rfl⟩) hS (fun q _ h => h) (fun q h => h) (fun u t H locs ht hvm hw hB hz1 hk1 hS => ?_)
    obtain ⟨f, hP, hR⟩ := hB
    rw [ht] at hP
    refine lv_aload_n hx hb dX4_mappingOf_5 rfl (lv_at hl 0 rfl) ?_
    refine lv_aload_n hx hb dX4_mappingOf_6 rfl (lv_at hl 1 rfl) ?_
    refine lv_iconst (v := (-1)) hx hb dX4_mappingOf_7 (by decide) ?_
    obtain ⟨kp2, ep2⟩ := (hR.x).at
    refine va_callv (va_runV (As := [.ref (AD 1 y), .int (-1)]) (rest := []) ⟨hx, hb, hml, hown, hts⟩ (k_X4_mapWith l D cI cZ cO hR A hL hA y (-1) hM hE hyn (agr_fill _ _) (Or.inl rfl)) (cwV 2 hts gX4_mappingOf_X4_mapWith rfl rfl rfl (by decide +kernel) ⟨Nat.le_of_ble_eq_true rfl, Nat.le_of_ble_eq_true rfl⟩) ⟨rd_blind, va_recv hK hP (ci := 5) (q0 := kp2) rfl ep2, rd_pre hP hK hN⟩ rfl rfl hl.1 rfl (lv_room (Nat.le_of_ble_eq_true rfl)) dX4_mappingOf_8 ⟨Nat.le_of_ble_eq_true rfl, Nat.le_of_ble_eq_true rfl⟩) hS (fun q _ h => h) (fun q h => h) (fun u t H locs ht hvm hw hB hz1 hk1 hS => ?_)
    obtain ⟨f, hP, hR⟩ := hB
    rw [ht] at hP
    refine lv_aload_n hx hb dX4_mappingOf_11 rfl (lv_at hl 0 rfl) ?_
    obtain ⟨kp3, ep3⟩ := (hR.x).at
    refine va_get (D := D) (ci := 5) (v := .ref (AD 0 5)) (C := RX4) (T := TX4) (N := 3) hx hb hts (fun _ h => List.mem_cons_of_mem _ (List.mem_append_left _ (List.mem_append_left _ (List.mem_append_left _ (List.mem_append_left _ (List.mem_append_left _ (List.mem_append_right _ (h)))))))) hown hK hP kp3 ep3 rfl 2 (by decide) (hts _ (List.mem_of_getElem? (i := 1) rfl)) (fun _ h9 => h9) rfl dX4_mappingOf_12 ?_
    obtain ⟨kp4, ep4⟩ := (hR.mo).at
    refine va_get (D := D) (ci := 4) (v := .int (mL F o0 y (-1))) (C := RX3) (T := TX3) (N := 7) hx hb hts (fun _ h => List.mem_cons_of_mem _ (List.mem_append_left _ (List.mem_append_left _ (List.mem_append_left _ (List.mem_append_left _ (List.mem_append_right _ (h))))))) hown hK hP kp4 ep4 rfl 6 (by decide) (hts _ (List.mem_of_getElem? (i := 2) rfl)) (fun _ h9 => h9) rfl dX4_mappingOf_15 ?_
    refine lv_istore_n (lv' := [(2, .int (mL F o0 y (-1))), (0, .ref (AD 0 0)), (1, .ref (AD 1 y))]) hx hb dX4_mappingOf_18 rfl hl (by decide) rfl (fun ls hl => ?_)
    refine lv_iconst (v := (-1)) hx hb dX4_mappingOf_19 (by decide) ?_
    refine lv_istore_n (lv' := [(3, .int (-1)), (2, .int (mL F o0 y (-1))), (0, .ref (AD 0 0)), (1, .ref (AD 1 y))]) hx hb dX4_mappingOf_20 rfl hl (by decide) rfl (fun ls hl => ?_)
    refine lv_iconst (v := 0) hx hb dX4_mappingOf_21 (by decide) ?_
    refine lv_istore (lv' := [(4, .int 0), (3, .int (-1)), (2, .int (mL F o0 y (-1))), (0, .ref (AD 0 0)), (1, .ref (AD 1 y))]) hx hb dX4_mappingOf_22 hl (by decide) rfl (fun ls hl => ?_)
    have L_24 : ∀ fz iz : Nat, iz ≤ 6 → 6 - iz < fz → ∀ (v2 : Int32), v2 = ((mB F o0 y iz).2) → ∀ (v3 : Int32), v3 = ((mB F o0 y iz).1) → ∀ (kgp : Int32), kgp = (lastG iz) → ∀ (knm : Int32), knm = (mN F o0 y (lastG iz)) → ∀ (kgb : Int32), kgb = (mGB F o0 y (lastG iz)) → ∀ (kob : Int32), kob = (mOB F o0 y (lastG iz)) → ∀ (klo : Int32), klo = (mL F o0 y (lastG iz)) → ∀ (kgv : Nat → Int32), kgv = (fillA gv (mV F o0 y (lastG iz)) 8) → ∀ (f : Nat → va_E) (H : Heap) (locs : List Loc), va_P D vwCl (va_pl L f) H → Rep cI cO L f tg AD mc F ik kp tu n (fillA he (fun p => mRights F p y) 8) kgv kgp kgb kob knm klo → va_S A s.heap H locs → ∀ ls : Array Slot, lv_has ls 5 [(0, .ref (AD 0 0)), (1, .ref (AD 1 y)), (4, .int (nI iz)), (2, .int v2), (3, .int v3)] → W p l e (headSpec wsX4_mappingOf (rmr 5 115)).room s m args below meth c H locs 0 0 Q (F0 m 24 ls []) := by
      intro fz
      induction fz with
      | zero => intro iz _ h; exact absurd h (Nat.not_lt_zero _)
      | succ fz ih_24 =>
        intro iz hi_24 hn_24 v2 ev2 v3 ev3 kgp ekgp knm eknm kgb ekgb kob ekob klo eklo kgv ekgv f H locs hP hR hS ls hl
        subst ev2
        subst ev3
        subst ekgp
        subst eknm
        subst ekgb
        subst ekob
        subst eklo
        subst ekgv
        rcases Nat.lt_or_ge iz 6 with h_iz | h_iz
        ·
          refine lv_iload hx hb dX4_mappingOf_24 (lv_at hl 2 rfl) ?_
          refine lv_bipush (v := 6) hx hb dX4_mappingOf_26 (by decide) ?_
          refine lv_icmp_ge (tgt := 66) hx hb dX4_mappingOf_28 (by decide) (fun c_28 => absurd c_28 (lt_no h_iz (by decide))) (fun c_28 => ?_)
          refine lv_aload_n hx hb dX4_mappingOf_31 rfl (lv_at hl 0 rfl) ?_
          refine lv_aload_n hx hb dX4_mappingOf_32 rfl (lv_at hl 1 rfl) ?_
          refine lv_iload hx hb dX4_mappingOf_33 (lv_at hl 2 rfl) ?_
          obtain ⟨kp5, ep5⟩ := (hR.x).at
          refine va_callv (va_runV (As := [.ref (AD 1 y), .int (nI iz)]) (rest := []) ⟨hx, hb, hml, hown, hts⟩ (k_X4_mapWith l D cI cZ cO hR A hL hA y (nI iz) hM hE hyn (agr_fill _ _) (Or.inr ⟨iz, h_iz, rfl⟩)) (cwV 2 hts gX4_mappingOf_X4_mapWith rfl rfl rfl (by decide +kernel) ⟨Nat.le_of_ble_eq_true rfl, Nat.le_of_ble_eq_true rfl⟩) ⟨rd_blind, va_recv hK hP (ci := 5) (q0 := kp5) rfl ep5, rd_pre hP hK hN⟩ rfl rfl hl.1 rfl (lv_room (Nat.le_of_ble_eq_true rfl)) dX4_mappingOf_35 ⟨Nat.le_of_ble_eq_true rfl, Nat.le_of_ble_eq_true rfl⟩) hS (fun q _ h => h) (fun q h => h) (fun u t H locs ht hvm hw hB hz1 hk1 hS => ?_)
          obtain ⟨f, hP, hR⟩ := hB
          rw [ht] at hP
          refine lv_aload_n hx hb dX4_mappingOf_38 rfl (lv_at hl 0 rfl) ?_
          obtain ⟨kp6, ep6⟩ := (hR.x).at
          refine va_get (D := D) (ci := 5) (v := .ref (AD 0 5)) (C := RX4) (T := TX4) (N := 3) hx hb hts (fun _ h => List.mem_cons_of_mem _ (List.mem_append_left _ (List.mem_append_left _ (List.mem_append_left _ (List.mem_append_left _ (List.mem_append_left _ (List.mem_append_right _ (h)))))))) hown hK hP kp6 ep6 rfl 2 (by decide) (hts _ (List.mem_of_getElem? (i := 1) rfl)) (fun _ h9 => h9) rfl dX4_mappingOf_39 ?_
          obtain ⟨kp7, ep7⟩ := (hR.mo).at
          refine va_get (D := D) (ci := 4) (v := .int (mL F o0 y (nI iz))) (C := RX3) (T := TX3) (N := 7) hx hb hts (fun _ h => List.mem_cons_of_mem _ (List.mem_append_left _ (List.mem_append_left _ (List.mem_append_left _ (List.mem_append_left _ (List.mem_append_right _ (h))))))) hown hK hP kp7 ep7 rfl 6 (by decide) (hts _ (List.mem_of_getElem? (i := 2) rfl)) (fun _ h9 => h9) rfl dX4_mappingOf_42 ?_
          refine lv_iload_n hx hb dX4_mappingOf_45 rfl (lv_at hl 3 rfl) ?_
          refine lv_icmp_ge (tgt := 60) hx hb dX4_mappingOf_46 (by decide) (fun c_46 => ?_) (fun c_46 => ?_)
          ·
            refine lv_iinc (v := nI (iz + 1)) (lv' := [(4, .int (nI (iz + 1))), (0, .ref (AD 0 0)), (1, .ref (AD 1 y)), (2, .int ((mB F o0 y iz).2)), (3, .int ((mB F o0 y iz).1))]) hx hb dX4_mappingOf_60 hl (k := 2) rfl (by exact iinc_n _) (by decide) rfl (fun ls hl => ?_)
            refine lv_goto (tgt := 24) hx hb dX4_mappingOf_63 (by decide) ?_
            exact ih_24 (iz + 1) (by omega) (by omega) _ (by first | rw [mB_t c_46] | rw [mB_f c_46]) _ (by first | rw [mB_t c_46] | rw [mB_f c_46]) _ (by rfl) _ (by rfl) _ (by rfl) _ (by rfl) _ (by rfl) _ (by exact fillA_fillA _ _ _ _) _ _ _ hP hR hS ls (lv_sub hl [1, 2, 0, 3, 4] rfl)
          ·
            refine lv_aload_n hx hb dX4_mappingOf_49 rfl (lv_at hl 0 rfl) ?_
            obtain ⟨kp8, ep8⟩ := (hR.x).at
            refine va_get (D := D) (ci := 5) (v := .ref (AD 0 5)) (C := RX4) (T := TX4) (N := 3) hx hb hts (fun _ h => List.mem_cons_of_mem _ (List.mem_append_left _ (List.mem_append_left _ (List.mem_append_left _ (List.mem_append_left _ (List.mem_append_left _ (List.mem_append_right _ (h)))))))) hown hK hP kp8 ep8 rfl 2 (by decide) (hts _ (List.mem_of_getElem? (i := 1) rfl)) (fun _ h9 => h9) rfl dX4_mappingOf_50 ?_
            obtain ⟨kp9, ep9⟩ := (hR.mo).at
            refine va_get (D := D) (ci := 4) (v := .int (mL F o0 y (nI iz))) (C := RX3) (T := TX3) (N := 7) hx hb hts (fun _ h => List.mem_cons_of_mem _ (List.mem_append_left _ (List.mem_append_left _ (List.mem_append_left _ (List.mem_append_left _ (List.mem_append_right _ (h))))))) hown hK hP kp9 ep9 rfl 6 (by decide) (hts _ (List.mem_of_getElem? (i := 2) rfl)) (fun _ h9 => h9) rfl dX4_mappingOf_53 ?_
            refine lv_istore_n (lv' := [(2, .int (mL F o0 y (nI iz))), (0, .ref (AD 0 0)), (1, .ref (AD 1 y)), (4, .int (nI iz)), (3, .int ((mB F o0 y iz).1))]) hx hb dX4_mappingOf_56 rfl hl (by decide) rfl (fun ls hl => ?_)
            refine lv_iload hx hb dX4_mappingOf_57 (lv_at hl 3 rfl) ?_
            refine lv_istore_n (lv' := [(3, .int (nI iz)), (2, .int (mL F o0 y (nI iz))), (0, .ref (AD 0 0)), (1, .ref (AD 1 y)), (4, .int (nI iz))]) hx hb dX4_mappingOf_59 rfl hl (by decide) rfl (fun ls hl => ?_)
            refine lv_iinc (v := nI (iz + 1)) (lv' := [(4, .int (nI (iz + 1))), (3, .int (nI iz)), (2, .int (mL F o0 y (nI iz))), (0, .ref (AD 0 0)), (1, .ref (AD 1 y))]) hx hb dX4_mappingOf_60 hl (k := 4) rfl (by exact iinc_n _) (by decide) rfl (fun ls hl => ?_)
            refine lv_goto (tgt := 24) hx hb dX4_mappingOf_63 (by decide) ?_
            exact ih_24 (iz + 1) (by omega) (by omega) _ (by first | rw [mB_t c_46] | rw [mB_f c_46]) _ (by first | rw [mB_t c_46] | rw [mB_f c_46]) _ (by rfl) _ (by rfl) _ (by rfl) _ (by rfl) _ (by rfl) _ (by exact fillA_fillA _ _ _ _) _ _ _ hP hR hS ls (lv_sub hl [3, 4, 0, 2, 1] rfl)
        ·
          obtain rfl : 6 = iz := by omega
          refine lv_iload hx hb dX4_mappingOf_24 (lv_at hl 2 rfl) ?_
          refine lv_bipush (v := 6) hx hb dX4_mappingOf_26 (by decide) ?_
          refine lv_icmp_ge (tgt := 66) hx hb dX4_mappingOf_28 (by decide) (fun c_28 => ?_) (fun c_28 => absurd (lt_yes h_iz (by decide)) c_28)
          refine lv_aload_n hx hb dX4_mappingOf_66 rfl (lv_at hl 0 rfl) ?_
          refine lv_aload_n hx hb dX4_mappingOf_67 rfl (lv_at hl 1 rfl) ?_
          refine lv_iload_n hx hb dX4_mappingOf_68 rfl (lv_at hl 4 rfl) ?_
          obtain ⟨kp10, ep10⟩ := (hR.x).at
          refine va_callv (va_runV (As := [.ref (AD 1 y), .int ((mB F o0 y 6).1)]) (rest := []) ⟨hx, hb, hml, hown, hts⟩ (k_X4_mapWith l D cI cZ cO hR A hL hA y ((mB F o0 y 6).1) hM hE hyn (agr_fill _ _) (mB_ok F o0 y 6 (by decide))) (cwV 2 hts gX4_mappingOf_X4_mapWith rfl rfl rfl (by decide +kernel) ⟨Nat.le_of_ble_eq_true rfl, Nat.le_of_ble_eq_true rfl⟩) ⟨rd_blind, va_recv hK hP (ci := 5) (q0 := kp10) rfl ep10, rd_pre hP hK hN⟩ rfl rfl hl.1 rfl (lv_room (Nat.le_of_ble_eq_true rfl)) dX4_mappingOf_69 ⟨Nat.le_of_ble_eq_true rfl, Nat.le_of_ble_eq_true rfl⟩) hS (fun q _ h => h) (fun q h => h) (fun u t H locs ht hvm hw hB hz1 hk1 hS => ?_)
          obtain ⟨f, hP, hR⟩ := hB
          rw [ht] at hP
          refine lv_aload_n hx hb dX4_mappingOf_72 rfl (lv_at hl 0 rfl) ?_
          obtain ⟨kp11, ep11⟩ := (hR.x).at
          refine va_get (D := D) (ci := 5) (v := .ref (AD 0 5)) (C := RX4) (T := TX4) (N := 3) hx hb hts (fun _ h => List.mem_cons_of_mem _ (List.mem_append_left _ (List.mem_append_left _ (List.mem_append_left _ (List.mem_append_left _ (List.mem_append_left _ (List.mem_append_right _ (h)))))))) hown hK hP kp11 ep11 rfl 2 (by decide) (hts _ (List.mem_of_getElem? (i := 1) rfl)) (fun _ h9 => h9) rfl dX4_mappingOf_73 ?_
          subst hQ
          have qgv : fillA (fillA gv (mV F o0 y (lastG 6)) 8) (mV F o0 y ((mB F o0 y 6).1)) 8 = fillA gv (mV F o0 y (mBest F o0 y)) 8 := by exact fillA_fillA _ _ _ _
          have qgp : ((mB F o0 y 6).1) = (mBest F o0 y) := by rfl
          have qgb : mGB F o0 y ((mB F o0 y 6).1) = mGB F o0 y (mBest F o0 y) := by rfl
          have qob : mOB F o0 y ((mB F o0 y 6).1) = mOB F o0 y (mBest F o0 y) := by rfl
          have qnm : mN F o0 y ((mB F o0 y 6).1) = mN F o0 y (mBest F o0 y) := by rfl
          have qlo : mL F o0 y ((mB F o0 y 6).1) = mL F o0 y (mBest F o0 y) := by rfl
          have hR := hR.cg rfl rfl rfl rfl rfl rfl rfl qgv qgp qgb qob qnm qlo
          exact W.aret (v := va_rf (some (AD 0 5))) hx hb hr (Or.inl ⟨_, rfl⟩) (va_rf_or _) (fun t ht hW => ⟨⟨some (AD 0 5), (), rfl, (by rfl), ⟨_, by have e := hP; rw [← ht] at e; exact e, hR⟩⟩, hS.F ht⟩) hS.2.2 dX4_mappingOf_76
    exact L_24 (6 + 1) 0 (by omega) (by omega) _ (by rfl) _ (by rfl) _ (by rfl) _ (by rfl) _ (by rfl) _ (by rfl) _ (by rfl) _ (by rfl) _ _ _ hP hR hS ls (lv_sub hl [3, 4, 0, 2, 1] rfl)
  exact go _ _ _ hP hR hS

set_option maxHeartbeats 800000 in
set_option maxRecDepth 100000 in
theorem k_X1_keeps (l : Launch) (D : va_G) (cI cZ cO : ClassId) {L : List Nat} {f : Nat → va_E} {tg : Nat → Nat} {AD : Nat → Nat → Nat} {mc : Nat → Int32} {F : Nat → Nat → Int32} {ik kp tu : Nat → Int32} {n : Nat} {he gv : Nat → Int32} {gp gb ob nm lo : Int32} (hR : Rep cI cO L f tg AD mc F ik kp tu n he gv gp gb ob nm lo) (y : Nat)  (hyn : y < n) : Met l yX1_keeps wsX1_keeps (rmr 0 0) (va_Pc [.ref (AD 1 y), .ref (AD 0 7)] (rdP D ([(cI, .int), (cI, .int), (cO, .object "java/lang/Object")]) (va_pl L f))) (vp_Si (fun r => r = b2i (frB ik kp gv y 8))) 0 0 (fun _ => False) := by
  refine Met.ofW (cc := cX1_keeps) (maxL := 3) (ret := (some .boolean)) (by decide) rfl ?_
  intro p e s m args below meth c s₁ B hml hv
  obtain ⟨hargs, hP, hK, hN⟩ := hv
  have hx := B.exec
  have hb := B.bytes
  have hr := B.returns
  have hts := atoms_spec (ws := wsX1_keeps) B.pre
  have hown : s.vm.findClass RX1 = some m.cls := findClass_of_methodNamed B.named
  have hlocks := B.notSynchronized
  have hen : entryFrame m args 3 = entryFrame m ([.ref (AD 1 y), .ref (AD 0 7)] : List Value).toArray 3 := by rw [hargs]
  rw [hen]
  have hl := lv_entry ([.ref (AD 1 y), .ref (AD 0 7)]) (n := 3) (Nat.le_of_ble_eq_true rfl)
  rw [lg_entry_eq]
  generalize (lg_sl ([.ref (AD 1 y), .ref (AD 0 7)]) ++ List.replicate (3 - (lg_sl ([.ref (AD 1 y), .ref (AD 0 7)])).length) Slot.unset).toArray = ls at hl ⊢
  have hl : lv_has ls 3 [(0, .ref (AD 1 y)), (1, .ref (AD 0 7))] := hl
  generalize hQ : MQ below (vp_Si (fun r => r = b2i (frB ik kp gv y 8))) args s 0 0 (fun _ => False) = Q
  refine lv_aload_n hx hb dX1_keeps_0 rfl (lv_at hl 0 rfl) ?_
  obtain ⟨kp1, ep1⟩ := (hR.fo (i := y) (by omega)).at
  refine va_get (D := D) (ci := 2) (v := .int (ik y)) (C := RX1) (T := TX1) (N := 7) hx hb hts (fun _ h => List.mem_cons_of_mem _ (List.mem_append_right _ (h))) hown hK hP kp1 ep1 rfl 5 (by decide) (hts _ (List.mem_of_getElem? (i := 1) rfl)) (fun _ h9 => h9) rfl dX1_keeps_1 ?_
  refine lv_if_ne (tgt := 9) hx hb dX1_keeps_4 (by decide) (fun c_4 => ?_) (fun c_4 => ?_)
  ·
    refine lv_iconst (v := 0) hx hb dX1_keeps_9 (by decide) ?_
    refine lv_istore_n (lv' := [(2, .int 0), (0, .ref (AD 1 y)), (1, .ref (AD 0 7))]) hx hb dX1_keeps_10 rfl hl (by decide) rfl (fun ls hl => ?_)
    have L_11 : ∀ fz iz : Nat, iz ≤ 8 → 8 - iz < fz → (frB ik kp gv y iz = true) → ∀ ls : Array Slot, lv_has ls 3 [(0, .ref (AD 1 y)), (1, .ref (AD 0 7)), (2, .int (nI iz))] → W p l e (headSpec wsX1_keeps (rmr 0 0)).room s m args below meth c s.heap [] 0 0 Q (F0 m 11 ls []) := by
      intro fz
      induction fz with
      | zero => intro iz _ h; exact absurd h (Nat.not_lt_zero _)
      | succ fz ih_11 =>
        intro iz hi_11 hn_11  hinv ls hl
        rcases Nat.lt_or_ge iz 8 with h_iz | h_iz
        ·
          refine lv_iload_n hx hb dX1_keeps_11 rfl (lv_at hl 2 rfl) ?_
          refine lv_bipush (v := 8) hx hb dX1_keeps_12 (by decide) ?_
          refine lv_icmp_ge (tgt := 37) hx hb dX1_keeps_14 (by decide) (fun c_14 => absurd c_14 (lt_no h_iz (by decide))) (fun c_14 => ?_)
          refine lv_aload_n hx hb dX1_keeps_17 rfl (lv_at hl 0 rfl) ?_
          obtain ⟨kp2, ep2⟩ := (hR.fo (i := y) (by omega)).at
          refine va_get (D := D) (ci := 2) (v := .ref (AD 3 y)) (C := RX1) (T := TX1) (N := 7) hx hb hts (fun _ h => List.mem_cons_of_mem _ (List.mem_append_right _ (h))) hown hK hP kp2 ep2 rfl 2 (by decide) (hts _ (List.mem_of_getElem? (i := 2) rfl)) (fun _ h9 => h9) rfl dX1_keeps_18 ?_
          refine lv_iload_n hx hb dX1_keeps_21 rfl (lv_at hl 2 rfl) ?_
          obtain ⟨qp3, hhp3, hvp3⟩ := hR.ke (i := y) (by omega)
          obtain ⟨kp3, ep3⟩ := (hhp3).at
          refine ld_i (k := iz) hx hb hK hP kp3 0 ep3 rfl (by omega) (by decide) dX1_keeps_22 ?_
          refine top_eq (y := kp (8 * y + iz)) (by exact hvp3 iz h_iz) ?_
          refine lv_aload_n hx hb dX1_keeps_23 rfl (lv_at hl 1 rfl) ?_
          refine lv_iload_n hx hb dX1_keeps_24 rfl (lv_at hl 2 rfl) ?_
          obtain ⟨kp4, ep4⟩ := (hR.mg).at
          refine ld_i (k := iz) hx hb hK hP kp4 0 ep4 rfl (by omega) (by decide) dX1_keeps_25 ?_
          refine lv_icmp_eq (tgt := 31) hx hb dX1_keeps_26 (by decide) (fun c_26 => ?_) (fun c_26 => ?_)
          ·
            refine lv_iinc (v := nI (iz + 1)) (lv' := [(2, .int (nI (iz + 1))), (0, .ref (AD 1 y)), (1, .ref (AD 0 7))]) hx hb dX1_keeps_31 hl (k := 2) rfl (by exact iinc_n _) (by decide) rfl (fun ls hl => ?_)
            refine lv_goto (tgt := 11) hx hb dX1_keeps_34 (by decide) ?_
            exact ih_11 (iz + 1) (by omega) (by omega) (by show (frB ik kp gv y iz && decide (kp (8 * y + iz) = gv iz)) = true; rw [hinv, decide_eq_true c_26]; rfl) ls (lv_sub hl [1, 2, 0] rfl)
          ·
            refine lv_iconst (v := 0) hx hb dX1_keeps_29 (by decide) ?_
            subst hQ
            have hrt : (0 : Int32) = b2i (frB ik kp gv y 8) := by rw [frB_f (k := iz + 1) (by show (frB ik kp gv y iz && decide (kp (8 * y + iz) = gv iz)) = false; rw [decide_eq_false c_26, Bool.and_false]) (by omega)]; rfl
            exact W.zret (v := 0) hx hb hr (by rw [hrt]; exact nar_b2i _) (fun t ht _ => ⟨_, rfl, hrt, ht⟩) (fun _ h => absurd h List.not_mem_nil) dX1_keeps_30
        ·
          obtain rfl : 8 = iz := by omega
          refine lv_iload_n hx hb dX1_keeps_11 rfl (lv_at hl 2 rfl) ?_
          refine lv_bipush (v := 8) hx hb dX1_keeps_12 (by decide) ?_
          refine lv_icmp_ge (tgt := 37) hx hb dX1_keeps_14 (by decide) (fun c_14 => ?_) (fun c_14 => absurd (lt_yes h_iz (by decide)) c_14)
          refine lv_iconst (v := 1) hx hb dX1_keeps_37 (by decide) ?_
          subst hQ
          have hrt : (1 : Int32) = b2i (frB ik kp gv y 8) := by rw [hinv]; rfl
          exact W.zret (v := 1) hx hb hr (by rw [hrt]; exact nar_b2i _) (fun t ht _ => ⟨_, rfl, hrt, ht⟩) (fun _ h => absurd h List.not_mem_nil) dX1_keeps_38
    exact L_11 (8 + 1) 0 (by omega) (by omega) (by exact toB_ne c_4) ls (lv_sub hl [1, 2, 0] rfl)
  ·
    refine lv_iconst (v := 0) hx hb dX1_keeps_7 (by decide) ?_
    subst hQ
    have hrt : (0 : Int32) = b2i (frB ik kp gv y 8) := by rw [frB_f (k := 0) (toB_eq c_4) (by decide)]; rfl
    exact W.zret (v := 0) hx hb hr (by rw [hrt]; exact nar_b2i _) (fun t ht _ => ⟨_, rfl, hrt, ht⟩) (fun _ h => absurd h List.not_mem_nil) dX1_keeps_8
