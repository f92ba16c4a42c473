set_option maxHeartbeats 800000 in
set_option maxRecDepth 100000 in
theorem k_X4_isFor (l : Launch) (D : va_G) (cI cZ cO : ClassId) {L : List Nat} {f : Nat → va_E} {tg : Nat → Nat} {AD : Nat → Nat → Nat} {mc : Nat → Int32} {F : Nat → Nat → Int32} {ik kp tu : Nat → Int32} {n : Nat} {he gv : Nat → Int32} {gp gb ob nm lo : Int32} (hR : Rep cI cO L f tg AD mc F ik kp tu n he gv gp gb ob nm lo) (x j : Nat) (y : Nat)  (hM : okC F n) (hxn : x < n) (hj : j < i2n (F 6 x)) : Met l yX4_isFor wsX4_isFor (rmr 1 21) (va_Pc [.ref (AD 0 0), .ref (AD 5 (6 * x + j)), .int (nI y)] (rdP D ([(cI, .int), (cI, .int), (cO, .object "java/lang/Object")]) (va_pl L f))) (vp_Si (fun r => r = b2i (mFor F (6 * x + j) y))) 0 0 (fun _ => False) := by
  refine Met.ofW (cc := cX4_isFor) (maxL := 3) (ret := (some .boolean)) (by decide) rfl ?_
  intro p e s m args below meth c s₁ B hml hv
  obtain ⟨hargs, hP, hK, hN⟩ := hv
  have hx := B.exec
  have hb := B.bytes
  have hr := B.returns
  have hts := atoms_spec (ws := wsX4_isFor) B.pre
  have hown : s.vm.findClass RX4 = some m.cls := findClass_of_methodNamed B.named
  have hlocks := B.notSynchronized
  have hen : entryFrame m args 3 = entryFrame m ([.ref (AD 0 0), .ref (AD 5 (6 * x + j)), .int (nI y)] : List Value).toArray 3 := by rw [hargs]
  rw [hen]
  have hl := lv_entry ([.ref (AD 0 0), .ref (AD 5 (6 * x + j)), .int (nI y)]) (n := 3) (Nat.le_of_ble_eq_true rfl)
  rw [lg_entry_eq]
  generalize (lg_sl ([.ref (AD 0 0), .ref (AD 5 (6 * x + j)), .int (nI y)]) ++ List.replicate (3 - (lg_sl ([.ref (AD 0 0), .ref (AD 5 (6 * x + j)), .int (nI y)])).length) Slot.unset).toArray = ls at hl ⊢
  have hl : lv_has ls 3 [(0, .ref (AD 0 0)), (1, .ref (AD 5 (6 * x + j))), (2, .int (nI y))] := hl
  generalize hQ : MQ below (vp_Si (fun r => r = b2i (mFor F (6 * x + j) y))) args s 0 0 (fun _ => False) = Q
  refine lv_aload_n hx hb dX4_isFor_0 rfl (lv_at hl 1 rfl) ?_
  obtain ⟨kp1, ep1⟩ := (hR.en (i := x) (j := j) (by omega) (by omega)).at
  refine va_get (D := D) (ci := 1) (v := .int (F 7 (6 * x + j))) (C := RX0) (T := TX0) (N := 4) hx hb hts (fun _ h => List.mem_cons_of_mem _ (List.mem_append_left _ (List.mem_append_left _ (List.mem_append_right _ (h))))) hown hK hP kp1 ep1 rfl 0 (by decide) (hts _ (List.mem_of_getElem? (i := 1) rfl)) (fun _ h9 => h9) rfl dX4_isFor_1 ?_
  refine lv_bipush (v := 8) hx hb dX4_isFor_4 (by decide) ?_
  refine lv_icmp_ge (tgt := 23) hx hb dX4_isFor_6 (by decide) (fun c_6 => ?_) (fun c_6 => ?_)
  ·
    refine lv_aload_n hx hb dX4_isFor_23 rfl (lv_at hl 0 rfl) ?_
    obtain ⟨kp2, ep2⟩ := (hR.x).at
    refine va_get (D := D) (ci := 5) (v := .ref (AD 0 1)) (C := RX4) (T := TX4) (N := 3) hx hb hts (fun _ h => List.mem_cons_of_mem _ (List.mem_append_left _ (List.mem_append_right _ (h)))) hown hK hP kp2 ep2 rfl 0 (by decide) (hts _ (List.mem_of_getElem? (i := 2) rfl)) (fun _ h9 => h9) rfl dX4_isFor_24 ?_
    refine lv_aload_n hx hb dX4_isFor_27 rfl (lv_at hl 1 rfl) ?_
    obtain ⟨kp3, ep3⟩ := (hR.en (i := x) (j := j) (by omega) (by omega)).at
    refine va_get (D := D) (ci := 1) (v := .int (F 7 (6 * x + j))) (C := RX0) (T := TX0) (N := 4) hx hb hts (fun _ h => List.mem_cons_of_mem _ (List.mem_append_left _ (List.mem_append_left _ (List.mem_append_right _ (h))))) hown hK hP kp3 ep3 rfl 0 (by decide) (hts _ (List.mem_of_getElem? (i := 1) rfl)) (fun _ h9 => h9) rfl dX4_isFor_28 ?_
    refine lv_bipush (v := 8) hx hb dX4_isFor_31 (by decide) ?_
    refine lv_isub hx hb dX4_isFor_33 ?_
    refine top_eq (y := nI (i2n (F 7 (6 * x + j)) - 8)) (by exact sub8 (hM.who hxn hj) c_6) ?_
    obtain ⟨ev, hPg, hev⟩ := rp_gr hR hP
    refine vp_callSi (W.runV (As := [.int (nI (i2n (F 7 (6 * x + j)) - 8))]) (rest := []) ⟨hx, hb, hml, hown, hts⟩ (k_X2_everyoneIn l D cI cZ cO (fun k => AD 0 (k + 1)) (F 1) (F 2) ev (i2n (F 7 (6 * x + j)) - 8) (who6 (hM.who hxn hj))) (cwV 1 hts gX4_isFor_X2_everyoneIn rfl rfl rfl (by decide +kernel) ⟨Nat.le_of_ble_eq_true rfl, Nat.le_of_ble_eq_true rfl⟩) ⟨rd_blind, va_recv hK hPg (ci := 3) (q0 := 0) rfl rfl, rd_pre hPg hK hN⟩ rfl rfl hl.1 rfl (lv_room (Nat.le_of_ble_eq_true rfl)) dX4_isFor_34 ⟨Nat.le_of_ble_eq_true rfl, Nat.le_of_ble_eq_true rfl⟩) (fun r er => ?_)
    subst er
    refine top_eq (y := mMem F (i2n (F 7 (6 * x + j)) - 8)) (by exact hev _ (who6 (hM.who hxn hj))) ?_
    refine lv_iload_n hx hb dX4_isFor_37 rfl (lv_at hl 2 rfl) ?_
    refine vp_callSi (W.runS (As := [.int (mMem F (i2n (F 7 (6 * x + j)) - 8)), .int (nI y)]) (rest := []) ⟨hx, hb, hml, hown, hts⟩ (k_X4_contains l (mMem F (i2n (F 7 (6 * x + j)) - 8)) (nI y)) (va_cwS 2 hts gX4_isFor_X4_contains rfl rfl rfl (by decide +kernel) ⟨Nat.le_of_ble_eq_true rfl, Nat.le_of_ble_eq_true rfl⟩) ⟨nf_blind, fun U hU hW => ⟨rfl, trivial⟩⟩ rfl rfl hl.1 rfl (lv_room (Nat.le_of_ble_eq_true rfl)) dX4_isFor_38 ⟨Nat.le_of_ble_eq_true rfl, Nat.le_of_ble_eq_true rfl⟩) (fun r er => ?_)
    subst er
    subst hQ
    have hrt : (b2i (hasB (mMem F (i2n (F 7 (6 * x + j)) - 8)) (nI y)) : Int32) = b2i (mFor F (6 * x + j) y) := by rw [← mFor_if, if_pos c_6]
    exact W.zret (v := b2i (hasB (mMem F (i2n (F 7 (6 * x + j)) - 8)) (nI y))) hx hb hr (by rw [hrt]; exact nar_b2i _) (fun t ht _ => ⟨_, rfl, hrt, ht⟩) (fun _ h => absurd h List.not_mem_nil) dX4_isFor_41
  ·
    refine lv_aload_n hx hb dX4_isFor_9 rfl (lv_at hl 1 rfl) ?_
    obtain ⟨kp4, ep4⟩ := (hR.en (i := x) (j := j) (by omega) (by omega)).at
    refine va_get (D := D) (ci := 1) (v := .int (F 7 (6 * x + j))) (C := RX0) (T := TX0) (N := 4) hx hb hts (fun _ h => List.mem_cons_of_mem _ (List.mem_append_left _ (List.mem_append_left _ (List.mem_append_right _ (h))))) hown hK hP kp4 ep4 rfl 0 (by decide) (hts _ (List.mem_of_getElem? (i := 1) rfl)) (fun _ h9 => h9) rfl dX4_isFor_10 ?_
    refine lv_iload_n hx hb dX4_isFor_13 rfl (lv_at hl 2 rfl) ?_
    have J_22 : ∀ (z0 : Int32), z0 = (if (F 7 (6 * x + j)) = (nI y) then 1 else 0) → ∀ ls : Array Slot, lv_has ls 3 [(0, .ref (AD 0 0)), (1, .ref (AD 5 (6 * x + j))), (2, .int (nI y))] → W p l e (headSpec wsX4_isFor (rmr 1 21)).room s m args below meth c s.heap [] 0 0 Q (F0 m 22 ls [.int z0]) := by
      intro z0 ez0 ls hl
      subst ez0
      subst hQ
      have hrt : (if (F 7 (6 * x + j)) = (nI y) then 1 else 0 : Int32) = b2i (mFor F (6 * x + j) y) := by rw [← mFor_if, if_neg c_6]
      exact W.zret (v := if (F 7 (6 * x + j)) = (nI y) then 1 else 0) hx hb hr (by rw [hrt]; exact nar_b2i _) (fun t ht _ => ⟨_, rfl, hrt, ht⟩) (fun _ h => absurd h List.not_mem_nil) dX4_isFor_22
    refine lv_icmp_ne (tgt := 21) hx hb dX4_isFor_14 (by decide) (fun c_14 => ?_) (fun c_14 => ?_)
    ·
      refine lv_iconst (v := 0) hx hb dX4_isFor_21 (by decide) ?_
      exact J_22 _ ((if_neg c_14).symm) ls (lv_sub hl [0, 1, 2] rfl)
    ·
      refine lv_iconst (v := 1) hx hb dX4_isFor_17 (by decide) ?_
      refine lv_goto (tgt := 22) hx hb dX4_isFor_18 (by decide) ?_
      exact J_22 _ ((if_pos c_14).symm) ls (lv_sub hl [0, 1, 2] rfl)

set_option maxHeartbeats 800000 in
set_option maxRecDepth 100000 in
theorem k_X1_inheritsFrom (l : Launch) (D : va_G) (cI cZ cO : ClassId) {L : List Nat} {f : Nat → va_E} {tg : Nat → Nat} {AD : Nat → Nat → Nat} {mc : Nat → Int32} {F : Nat → Nat → Int32} {ik kp tu : Nat → Int32} {n : Nat} {he gv : Nat → Int32} {gp gb ob nm lo : Int32} (hR : Rep cI cO L f tg AD mc F ik kp tu n he gv gp gb ob nm lo) (x : Nat)  (hxn : x < n) : Met l yX1_inheritsFrom wsX1_inheritsFrom (rmr 0 0) (va_Pc [.ref (AD 1 x)] (rdP D ([(cI, .int), (cI, .int), (cO, .object "java/lang/Object")]) (va_pl L f))) (va_Sq (fun r => r = upR AD F x)) 0 0 (fun _ => False) := by
  refine Met.ofW (cc := cX1_inheritsFrom) (maxL := 1) (ret := (some (.object "ShareMover$Folder"))) (by decide) rfl ?_
  intro p e s m args below meth c s₁ B hml hv
  obtain ⟨hargs, hP, hK, hN⟩ := hv
  have hx := B.exec
  have hb := B.bytes
  have hr := B.returns
  have hts := atoms_spec (ws := wsX1_inheritsFrom) B.pre
  have hown : s.vm.findClass RX1 = some m.cls := findClass_of_methodNamed B.named
  have hlocks := B.notSynchronized
  have hen : entryFrame m args 1 = entryFrame m ([.ref (AD 1 x)] : List Value).toArray 1 := by rw [hargs]
  rw [hen]
  have hl := lv_entry ([.ref (AD 1 x)]) (n := 1) (Nat.le_of_ble_eq_true rfl)
  rw [lg_entry_eq]
  generalize (lg_sl ([.ref (AD 1 x)]) ++ List.replicate (1 - (lg_sl ([.ref (AD 1 x)])).length) Slot.unset).toArray = ls at hl ⊢
  have hl : lv_has ls 1 [(0, .ref (AD 1 x))] := hl
  generalize hQ : MQ below (va_Sq (fun r => r = upR AD F x)) args s 0 0 (fun _ => False) = Q
  refine lv_aload_n hx hb dX1_inheritsFrom_0 rfl (lv_at hl 0 rfl) ?_
  obtain ⟨kp1, ep1⟩ := (hR.fo (i := x) (by omega)).at
  refine va_get (D := D) (ci := 2) (v := .int (F 5 x)) (C := RX1) (T := TX1) (N := 7) hx hb hts (fun _ h => List.mem_cons_of_mem _ (List.mem_append_right _ (h))) hown hK hP kp1 ep1 rfl 4 (by decide) (hts _ (List.mem_of_getElem? (i := 1) rfl)) (fun _ h9 => h9) rfl dX1_inheritsFrom_1 ?_
  refine lv_if_eq (tgt := 14) hx hb dX1_inheritsFrom_4 (by decide) (fun c_4 => ?_) (fun c_4 => ?_)
  ·
    refine lv_null hx hb dX1_inheritsFrom_14 ?_
    subst hQ
    exact W.aret (v := va_rf none) hx hb hr (Or.inl ⟨_, rfl⟩) (va_rf_or _) (fun t ht _ => ⟨none, rfl, (by first | exact (if_pos c_4).symm | exact (if_neg c_4).symm), ht⟩) (fun _ h => absurd h List.not_mem_nil) dX1_inheritsFrom_15
  ·
    refine lv_aload_n hx hb dX1_inheritsFrom_7 rfl (lv_at hl 0 rfl) ?_
    obtain ⟨kp2, ep2⟩ := (hR.fo (i := x) (by omega)).at
    refine va_get (D := D) (ci := 2) (v := va_rf (parR AD F x)) (C := RX1) (T := TX1) (N := 7) hx hb hts (fun _ h => List.mem_cons_of_mem _ (List.mem_append_right _ (h))) hown hK hP kp2 ep2 rfl 0 (by decide) (hts _ (List.mem_of_getElem? (i := 2) rfl)) (fun _ h9 => h9) rfl dX1_inheritsFrom_8 ?_
    refine lv_goto (tgt := 15) hx hb dX1_inheritsFrom_11 (by decide) ?_
    subst hQ
    exact W.aret (v := va_rf (parR AD F x)) hx hb hr (Or.inl ⟨_, rfl⟩) (va_rf_or _) (fun t ht _ => ⟨parR AD F x, rfl, (by first | exact (if_pos c_4).symm | exact (if_neg c_4).symm), ht⟩) (fun _ h => absurd h List.not_mem_nil) dX1_inheritsFrom_15

set_option maxHeartbeats 800000 in
set_option maxRecDepth 100000 in
theorem k_X4_rightsByEntries (l : Launch) (D : va_G) (cI cZ cO : ClassId) {L : List Nat} {f : Nat → va_E} {tg : Nat → Nat} {AD : Nat → Nat → Nat} {mc : Nat → Int32} {F : Nat → Nat → Int32} {ik kp tu : Nat → Int32} {n : Nat} {he gv : Nat → Int32} {gp gb ob nm lo : Int32} (hR : Rep cI cO L f tg AD mc F ik kp tu n he gv gp gb ob nm lo) (x : Nat) (y : Nat)  (hM : okC F n) (hE : okE F n) (hyn : y < n) : Met l yX4_rightsByEntries wsX4_rightsByEntries (rmr 3 64) (va_Pc [.ref (AD 0 0), .int (nI x), .ref (AD 1 y)] (rdP D ([(cI, .int), (cI, .int), (cO, .object "java/lang/Object")]) (va_pl L f))) (vp_Si (fun r => r = mRights F x y)) 0 0 (fun _ => False) := by
  refine Met.ofW (cc := cX4_rightsByEntries) (maxL := 8) (ret := (some .int)) (by decide) rfl ?_
  intro p e s m args below meth c s₁ B hml hv
  obtain ⟨hargs, hP, hK, hN⟩ := hv
  have hx := B.exec
  have hb := B.bytes
  have hr := B.returns
  have hts := atoms_spec (ws := wsX4_rightsByEntries) B.pre
  have hown : s.vm.findClass RX4 = some m.cls := findClass_of_methodNamed B.named
  have hlocks := B.notSynchronized
  have hen : entryFrame m args 8 = entryFrame m ([.ref (AD 0 0), .int (nI x), .ref (AD 1 y)] : List Value).toArray 8 := by rw [hargs]
  rw [hen]
  have hl := lv_entry ([.ref (AD 0 0), .int (nI x), .ref (AD 1 y)]) (n := 8) (Nat.le_of_ble_eq_true rfl)
  rw [lg_entry_eq]
  generalize (lg_sl ([.ref (AD 0 0), .int (nI x), .ref (AD 1 y)]) ++ List.replicate (8 - (lg_sl ([.ref (AD 0 0), .int (nI x), .ref (AD 1 y)])).length) Slot.unset).toArray = ls at hl ⊢
  have hl : lv_has ls 8 [(0, .ref (AD 0 0)), (1, .int (nI x)), (2, .ref (AD 1 y))] := hl
  generalize hQ : MQ below (vp_Si (fun r => r = mRights F x y)) args s 0 0 (fun _ => False) = Q
  have hnn := hM.2.1.2
  refine lv_iload_n hx hb dX4_rightsByEntries_0 rfl (lv_at hl 1 rfl) ?_
  refine lv_aload_n hx hb dX4_rightsByEntries_1 rfl (lv_at hl 2 rfl) ?_
  obtain ⟨kp1, ep1⟩ := (hR.fo (i := y) (by omega)).at
  refine va_get (D := D) (ci := 2) (v := .int (F 4 y)) (C := RX1) (T := TX1) (N := 7) hx hb hts (fun _ h => List.mem_cons_of_mem _ (List.mem_append_left _ (List.mem_append_left _ (List.mem_append_left _ (List.mem_append_left _ (List.mem_append_right _ (h))))))) hown hK hP kp1 ep1 rfl 3 (by decide) (hts _ (List.mem_of_getElem? (i := 1) rfl)) (fun _ h9 => h9) rfl dX4_rightsByEntries_2 ?_
  refine lv_icmp_ne (tgt := 11) hx hb dX4_rightsByEntries_5 (by decide) (fun c_5 => ?_) (fun c_5 => ?_)
  ·
    have eR : mRights F x y = mChain F x y (y + 1) y (0, 0) := if_neg (fun h => c_5 h.symm)
    refine lv_bipush (v := 7) hx hb dX4_rightsByEntries_11 (by decide) ?_
    refine lv_istore_n (lv' := [(3, .int 7), (0, .ref (AD 0 0)), (1, .int (nI x)), (2, .ref (AD 1 y))]) hx hb dX4_rightsByEntries_13 rfl hl (by decide) rfl (fun ls hl => ?_)
    refine lv_iconst (v := 0) hx hb dX4_rightsByEntries_14 (by decide) ?_
    refine lv_istore (lv' := [(4, .int 0), (3, .int 7), (0, .ref (AD 0 0)), (1, .int (nI x)), (2, .ref (AD 1 y))]) hx hb dX4_rightsByEntries_15 hl (by decide) rfl (fun ls hl => ?_)
    refine lv_aload_n hx hb dX4_rightsByEntries_17 rfl (lv_at hl 4 rfl) ?_
    refine lv_astore (lv' := [(5, .ref (AD 1 y)), (4, .int 0), (3, .int 7), (0, .ref (AD 0 0)), (1, .int (nI x)), (2, .ref (AD 1 y))]) hx hb dX4_rightsByEntries_18 hl (by decide) rfl (fun ls hl => ?_)
    have E_20 : ∀ (v : Int32 × Int32), (v.1 = mChain F x y (y + 1) y (0, 0)) → ∀ ls : Array Slot, lv_has ls 8 [(0, .ref (AD 0 0)), (1, .int (nI x)), (2, .ref (AD 1 y)), (3, .int (undI v.2)), (4, .int v.1), (5, .null)] → W p l e (headSpec wsX4_rightsByEntries (rmr 3 64)).room s m args below meth c s.heap [] 0 0 Q (F0 m 20 ls []) := by
      intro v hq ls hl
      refine lv_aloadN hx hb dX4_rightsByEntries_20 (lv_at hl 5 rfl) ?_
      refine lv_ifnullN (tgt := 131) hx hb dX4_rightsByEntries_22 (by decide) ?_
      refine lv_iload hx hb dX4_rightsByEntries_131 (lv_at hl 4 rfl) ?_
      subst hQ
      exact W.iret (v := v.1) hx hb hr (fun t ht _ => ⟨_, rfl, (by rw [eR]; exact hq), ht⟩) (fun _ h => absurd h List.not_mem_nil) dX4_rightsByEntries_133
    have L_20 : ∀ fz : Nat, ∀ (a : Nat) (v : Int32 × Int32), (a < n) → (a < fz) → (mChain F x y fz a v = mChain F x y (y + 1) y (0, 0)) → ∀ ls : Array Slot, lv_has ls 8 [(0, .ref (AD 0 0)), (1, .int (nI x)), (2, .ref (AD 1 y)), (3, .int (undI v.2)), (4, .int v.1), (5, .ref (AD 1 a))] → W p l e (headSpec wsX4_rightsByEntries (rmr 3 64)).room s m args below meth c s.heap [] 0 0 Q (F0 m 20 ls []) := by
      intro fz
      induction fz with
      | zero => intro a v ha hf hq ls hl; exact absurd hf (Nat.not_lt_zero _)
      | succ fz ih_20 =>
        intro a v ha hf hq ls hl
        have hlen := (hM.len ha).2
        refine lv_aload hx hb dX4_rightsByEntries_20 (lv_at hl 5 rfl) ?_
        refine lv_ifnull hx hb dX4_rightsByEntries_22 ?_
        refine lv_iconst (v := 0) hx hb dX4_rightsByEntries_25 (by decide) ?_
        refine lv_istore (lv' := [(6, .int 0), (0, .ref (AD 0 0)), (1, .int (nI x)), (2, .ref (AD 1 y)), (3, .int (undI v.2)), (4, .int v.1), (5, .ref (AD 1 a))]) hx hb dX4_rightsByEntries_26 hl (by decide) rfl (fun ls hl => ?_)
        have L_28 : ∀ fz i : Nat, i ≤ (i2n (F 6 a)) → (i2n (F 6 a)) - i < fz → ∀ (v3 : Int32), v3 = (undI (mRow F x y a i v).2) → ∀ (v4 : Int32), v4 = ((mRow F x y a i v).1) → ∀ ls : Array Slot, lv_has ls 8 [(0, .ref (AD 0 0)), (1, .int (nI x)), (2, .ref (AD 1 y)), (5, .ref (AD 1 a)), (6, .int (nI i)), (3, .int v3), (4, .int v4)] → W p l e (headSpec wsX4_rightsByEntries (rmr 3 64)).room s m args below meth c s.heap [] 0 0 Q (F0 m 28 ls []) := by
          intro fz
          induction fz with
          | zero => intro i _ h; exact absurd h (Nat.not_lt_zero _)
          | succ fz ih_28 =>
            intro i hi_28 hn_28 v3 ev3 v4 ev4 ls hl
            subst ev3
            subst ev4
            rcases Nat.lt_or_ge i (i2n (F 6 a)) with h_i | h_i
            ·
              refine lv_iload hx hb dX4_rightsByEntries_28 (lv_at hl 4 rfl) ?_
              refine lv_aload hx hb dX4_rightsByEntries_30 (lv_at hl 3 rfl) ?_
              obtain ⟨kp2, ep2⟩ := (hR.fo (i := a) (by omega)).at
              refine va_get (D := D) (ci := 2) (v := .ref (AD 2 a)) (C := RX1) (T := TX1) (N := 7) hx hb hts (fun _ h => List.mem_cons_of_mem _ (List.mem_append_left _ (List.mem_append_left _ (List.mem_append_left _ (List.mem_append_left _ (List.mem_append_right _ (h))))))) hown hK hP kp2 ep2 rfl 1 (by decide) (hts _ (List.mem_of_getElem? (i := 2) rfl)) (fun _ h9 => h9) rfl dX4_rightsByEntries_32 ?_
              obtain ⟨kp3, ep3⟩ := (hR.ro (i := a) (by omega)).at
              obtain ⟨kp4, ep4⟩ := (hR.ro (i := a) (by omega)).at
              refine vp_callSi (W.runV (As := []) (rest := [.int (nI i)]) ⟨hx, hb, hml, hown, hts⟩ (k_Jx4a65c_size_8abf5 l D cI cZ cO ep3 ) (cwV 0 hts gX4_rightsByEntries_Jx4a65c_size_8abf5 rfl rfl rfl (by decide +kernel) ⟨Nat.le_of_ble_eq_true rfl, Nat.le_of_ble_eq_true rfl⟩) ⟨rd_blind, va_recv hK hP (ci := 0) (q0 := kp4) rfl ep4, rd_pre hP hK hN⟩ rfl rfl hl.1 rfl (lv_room (Nat.le_of_ble_eq_true rfl)) dX4_rightsByEntries_35 ⟨Nat.le_of_ble_eq_true rfl, Nat.le_of_ble_eq_true rfl⟩) (fun r er => ?_)
              subst er
              refine top_eq (y := nI (i2n (F 6 a))) (by exact (hM.len ha).1) ?_
              refine lv_icmp_ge (tgt := 121) hx hb dX4_rightsByEntries_38 (by decide) (fun c_38 => absurd c_38 (nI_ge h_i (by omega))) (fun c_38 => ?_)
              refine lv_aload hx hb dX4_rightsByEntries_41 (lv_at hl 3 rfl) ?_
              obtain ⟨kp5, ep5⟩ := (hR.fo (i := a) (by omega)).at
              refine va_get (D := D) (ci := 2) (v := .ref (AD 2 a)) (C := RX1) (T := TX1) (N := 7) hx hb hts (fun _ h => List.mem_cons_of_mem _ (List.mem_append_left _ (List.mem_append_left _ (List.mem_append_left _ (List.mem_append_left _ (List.mem_append_right _ (h))))))) hown hK hP kp5 ep5 rfl 1 (by decide) (hts _ (List.mem_of_getElem? (i := 2) rfl)) (fun _ h9 => h9) rfl dX4_rightsByEntries_43 ?_
              refine lv_iload hx hb dX4_rightsByEntries_46 (lv_at hl 4 rfl) ?_
              obtain ⟨kp6, ep6⟩ := (hR.ro (i := a) (by omega)).at
              obtain ⟨qp7, hhp7, hvp7⟩ := hR.da (i := a) (by omega) (by omega)
              obtain ⟨kp7, ep7⟩ := (hhp7).at
              obtain ⟨kp8, ep8⟩ := (hR.ro (i := a) (by omega)).at
              refine va_csq (W.runV (As := [.int (nI i)]) (rest := []) ⟨hx, hb, hml, hown, hts⟩ (k_Jx4a65c_get_915e3 l D cI cZ cO ep6 ep7 i (i2n (F 6 a)) (hM.len ha).1 h_i (Nat.le_trans (hM.len ha).2 (by decide)) (by decide)) (cwV 1 hts gX4_rightsByEntries_Jx4a65c_get_915e3 rfl rfl rfl (by decide +kernel) ⟨Nat.le_of_ble_eq_true rfl, Nat.le_of_ble_eq_true rfl⟩) ⟨rd_blind, va_recv hK hP (ci := 0) (q0 := kp8) rfl ep8, rd_pre hP hK hN⟩ rfl rfl hl.1 rfl (lv_room (Nat.le_of_ble_eq_true rfl)) dX4_rightsByEntries_48 ⟨Nat.le_of_ble_eq_true rfl, Nat.le_of_ble_eq_true rfl⟩) (fun r er => ?_)
              subst er
              refine top_rf (q := AD 5 (6 * a + i)) (by exact hvp7 i h_i) ?_
              obtain ⟨kp9, ep9⟩ := (hR.en (i := a) (j := i) (by omega) (by omega)).at
              refine va_castS (nm := RX0) (cC := D.1 1) hx hb hown (hts _ (List.mem_of_getElem? (i := 3) rfl)) (hK.1 1 _ rfl).2 (va_recv hK hP (ci := 1) (q0 := kp9) rfl ep9) dX4_rightsByEntries_51 ?_
              refine lv_astore (lv' := [(7, .ref (AD 5 (6 * a + i))), (0, .ref (AD 0 0)), (1, .int (nI x)), (2, .ref (AD 1 y)), (5, .ref (AD 1 a)), (6, .int (nI i)), (3, .int (undI (mRow F x y a i v).2)), (4, .int ((mRow F x y a i v).1))]) hx hb dX4_rightsByEntries_54 hl (by decide) rfl (fun ls hl => ?_)
              refine lv_aload hx hb dX4_rightsByEntries_56 (lv_at hl 0 rfl) ?_
              refine lv_aload hx hb dX4_rightsByEntries_58 (lv_at hl 4 rfl) ?_
              refine lv_aload_n hx hb dX4_rightsByEntries_60 rfl (lv_at hl 3 rfl) ?_
              have J_69 : ∀ (z0 : Int32), z0 = (if some (AD 1 a) = some (AD 1 y) then 1 else 0) → ∀ ls : Array Slot, lv_has ls 8 [(0, .ref (AD 0 0)), (1, .int (nI x)), (2, .ref (AD 1 y)), (3, .int (undI (mRow F x y a i v).2)), (4, .int ((mRow F x y a i v).1)), (5, .ref (AD 1 a)), (6, .int (nI i)), (7, .ref (AD 5 (6 * a + i)))] → W p l e (headSpec wsX4_rightsByEntries (rmr 3 64)).room s m args below meth c s.heap [] 0 0 Q (F0 m 69 ls [.int z0, .ref (AD 5 (6 * a + i))]) := by
                intro z0 ez0 ls hl
                subst ez0
                refine top_eq (y := b2i (decide (a = y))) (by exact acmp_eq (hR.inj ha hyn)) ?_
                obtain ⟨kp10, ep10⟩ := (hR.en (i := a) (j := i) (by omega) (by omega)).at
                obtain ⟨kp11, ep11⟩ := (hR.en (i := a) (j := i) (by omega) (by omega)).at
                refine vp_callSi (W.runV (As := [.int (b2i (decide (a = y)))]) (rest := []) ⟨hx, hb, hml, hown, hts⟩ (k_X0_counts l D cI cZ cO ep10 (decide (a = y))) (cwV 1 hts gX4_rightsByEntries_X0_counts rfl rfl rfl (by decide +kernel) ⟨Nat.le_of_ble_eq_true rfl, Nat.le_of_ble_eq_true rfl⟩) ⟨rd_blind, va_recv hK hP (ci := 1) (q0 := kp11) rfl ep11, rd_pre hP hK hN⟩ rfl rfl hl.1 rfl (lv_room (Nat.le_of_ble_eq_true rfl)) dX4_rightsByEntries_69 ⟨Nat.le_of_ble_eq_true rfl, Nat.le_of_ble_eq_true rfl⟩) (fun r er => ?_)
                subst er
                refine top_eq (y := b2i (toB (mCnt F a y (6 * a + i)))) (by exact cnt_eq (by omega) (by omega)) ?_
                refine lv_if_eq (tgt := 115) hx hb dX4_rightsByEntries_72 (by decide) (fun c_72 => ?_) (fun c_72 => ?_)
                ·
                  have c_72 := b2i_0 c_72
                  refine lv_iinc (v := nI (i + 1)) (lv' := [(6, .int (nI (i + 1))), (0, .ref (AD 0 0)), (1, .int (nI x)), (2, .ref (AD 1 y)), (3, .int (undI (mRow F x y a i v).2)), (4, .int ((mRow F x y a i v).1)), (5, .ref (AD 1 a)), (7, .ref (AD 5 (6 * a + i)))]) hx hb dX4_rightsByEntries_115 hl (k := 6) rfl (by exact iinc_n _) (by decide) rfl (fun ls hl => ?_)
                  refine lv_goto (tgt := 28) hx hb dX4_rightsByEntries_118 (by decide) ?_
                  exact ih_28 (i + 1) (by omega) (by omega) _ (by first | (rw [cs_0 c_72]) | (rw [cs_1 c_72 c_82]) | (rw [cs_2 c_72 c_82]; exact undI_or _ _)) _ (by first | (rw [cs_0 c_72]) | (rw [cs_1 c_72 c_82]) | (rw [cs_2 c_72 c_82, if_pos c_90]; exact (i_or0 _).symm) | (rw [cs_2 c_72 c_82, if_neg c_90, and_undI (hE a i ha h_i)])) ls (lv_sub hl [1, 2, 3, 6, 0, 4, 5] rfl)
                ·
                  have c_72 := b2i_1 c_72
                  refine lv_aload_n hx hb dX4_rightsByEntries_75 rfl (lv_at hl 0 rfl) ?_
                  refine lv_aload hx hb dX4_rightsByEntries_76 (lv_at hl 7 rfl) ?_
                  refine lv_iload_n hx hb dX4_rightsByEntries_78 rfl (lv_at hl 1 rfl) ?_
                  obtain ⟨kp12, ep12⟩ := (hR.x).at
                  refine vp_callSi (W.runV (As := [.ref (AD 5 (6 * a + i)), .int (nI x)]) (rest := []) ⟨hx, hb, hml, hown, hts⟩ (k_X4_isFor l D cI cZ cO hR a i x hM ha h_i) (cwV 2 hts gX4_rightsByEntries_X4_isFor rfl rfl rfl (by decide +kernel) ⟨Nat.le_of_ble_eq_true rfl, Nat.le_of_ble_eq_true rfl⟩) ⟨rd_blind, va_recv hK hP (ci := 5) (q0 := kp12) rfl ep12, rd_pre hP hK hN⟩ rfl rfl hl.1 rfl (lv_room (Nat.le_of_ble_eq_true rfl)) dX4_rightsByEntries_79 ⟨Nat.le_of_ble_eq_true rfl, Nat.le_of_ble_eq_true rfl⟩) (fun r er => ?_)
                  subst er
                  refine lv_if_eq (tgt := 115) hx hb dX4_rightsByEntries_82 (by decide) (fun c_82 => ?_) (fun c_82 => ?_)
                  ·
                    have c_82 := b2i_0 c_82
                    refine lv_iinc (v := nI (i + 1)) (lv' := [(6, .int (nI (i + 1))), (0, .ref (AD 0 0)), (1, .int (nI x)), (2, .ref (AD 1 y)), (3, .int (undI (mRow F x y a i v).2)), (4, .int ((mRow F x y a i v).1)), (5, .ref (AD 1 a)), (7, .ref (AD 5 (6 * a + i)))]) hx hb dX4_rightsByEntries_115 hl (k := 6) rfl (by exact iinc_n _) (by decide) rfl (fun ls hl => ?_)
                    refine lv_goto (tgt := 28) hx hb dX4_rightsByEntries_118 (by decide) ?_
                    exact ih_28 (i + 1) (by omega) (by omega) _ (by first | (rw [cs_0 c_72]) | (rw [cs_1 c_72 c_82]) | (rw [cs_2 c_72 c_82]; exact undI_or _ _)) _ (by first | (rw [cs_0 c_72]) | (rw [cs_1 c_72 c_82]) | (rw [cs_2 c_72 c_82, if_pos c_90]; exact (i_or0 _).symm) | (rw [cs_2 c_72 c_82, if_neg c_90, and_undI (hE a i ha h_i)])) ls (lv_sub hl [1, 2, 3, 6, 0, 4, 5] rfl)
                  ·
                    have c_82 := b2i_1 c_82
                    refine lv_aload hx hb dX4_rightsByEntries_85 (lv_at hl 7 rfl) ?_
                    obtain ⟨kp13, ep13⟩ := (hR.en (i := a) (j := i) (by omega) (by omega)).at
                    refine va_get (D := D) (ci := 1) (v := .int (F 8 (6 * a + i))) (C := RX0) (T := TX0) (N := 4) hx hb hts (fun _ h => List.mem_cons_of_mem _ (List.mem_append_left _ (List.mem_append_left _ (List.mem_append_left _ (List.mem_append_right _ (h)))))) hown hK hP kp13 ep13 rfl 1 (by decide) (hts _ (List.mem_of_getElem? (i := 4) rfl)) (fun _ h9 => h9) rfl dX4_rightsByEntries_87 ?_
                    refine lv_if_eq (tgt := 105) hx hb dX4_rightsByEntries_90 (by decide) (fun c_90 => ?_) (fun c_90 => ?_)
                    ·
                      refine lv_iload_n hx hb dX4_rightsByEntries_105 rfl (lv_at hl 3 rfl) ?_
                      refine lv_aload hx hb dX4_rightsByEntries_106 (lv_at hl 7 rfl) ?_
                      obtain ⟨kp14, ep14⟩ := (hR.en (i := a) (j := i) (by omega) (by omega)).at
                      refine va_get (D := D) (ci := 1) (v := .int (F 9 (6 * a + i))) (C := RX0) (T := TX0) (N := 4) hx hb hts (fun _ h => List.mem_cons_of_mem _ (List.mem_append_left _ (List.mem_append_left _ (List.mem_append_left _ (List.mem_append_right _ (h)))))) hown hK hP kp14 ep14 rfl 2 (by decide) (hts _ (List.mem_of_getElem? (i := 5) rfl)) (fun _ h9 => h9) rfl dX4_rightsByEntries_108 ?_
                      refine lv_iconst (v := (-1)) hx hb dX4_rightsByEntries_111 (by decide) ?_
                      refine lv_ixor hx hb dX4_rightsByEntries_112 ?_
                      refine lv_iand hx hb dX4_rightsByEntries_113 ?_
                      refine lv_istore_n (lv' := [(3, .int ((undI (mRow F x y a i v).2) &&& ((F 9 (6 * a + i)) ^^^ (-1)))), (0, .ref (AD 0 0)), (1, .int (nI x)), (2, .ref (AD 1 y)), (4, .int ((mRow F x y a i v).1)), (5, .ref (AD 1 a)), (6, .int (nI i)), (7, .ref (AD 5 (6 * a + i)))]) hx hb dX4_rightsByEntries_114 rfl hl (by decide) rfl (fun ls hl => ?_)
                      refine lv_iinc (v := nI (i + 1)) (lv' := [(6, .int (nI (i + 1))), (3, .int ((undI (mRow F x y a i v).2) &&& ((F 9 (6 * a + i)) ^^^ (-1)))), (0, .ref (AD 0 0)), (1, .int (nI x)), (2, .ref (AD 1 y)), (4, .int ((mRow F x y a i v).1)), (5, .ref (AD 1 a)), (7, .ref (AD 5 (6 * a + i)))]) hx hb dX4_rightsByEntries_115 hl (k := 6) rfl (by exact iinc_n _) (by decide) rfl (fun ls hl => ?_)
                      refine lv_goto (tgt := 28) hx hb dX4_rightsByEntries_118 (by decide) ?_
                      exact ih_28 (i + 1) (by omega) (by omega) _ (by first | (rw [cs_0 c_72]) | (rw [cs_1 c_72 c_82]) | (rw [cs_2 c_72 c_82]; exact undI_or _ _)) _ (by first | (rw [cs_0 c_72]) | (rw [cs_1 c_72 c_82]) | (rw [cs_2 c_72 c_82, if_pos c_90]; exact (i_or0 _).symm) | (rw [cs_2 c_72 c_82, if_neg c_90, and_undI (hE a i ha h_i)])) ls (lv_sub hl [2, 3, 4, 6, 0, 1, 5] rfl)
                    ·
                      refine lv_iload hx hb dX4_rightsByEntries_93 (lv_at hl 4 rfl) ?_
                      refine lv_aload hx hb dX4_rightsByEntries_95 (lv_at hl 7 rfl) ?_
                      obtain ⟨kp15, ep15⟩ := (hR.en (i := a) (j := i) (by omega) (by omega)).at
                      refine va_get (D := D) (ci := 1) (v := .int (F 9 (6 * a + i))) (C := RX0) (T := TX0) (N := 4) hx hb hts (fun _ h => List.mem_cons_of_mem _ (List.mem_append_left _ (List.mem_append_left _ (List.mem_append_left _ (List.mem_append_right _ (h)))))) hown hK hP kp15 ep15 rfl 2 (by decide) (hts _ (List.mem_of_getElem? (i := 5) rfl)) (fun _ h9 => h9) rfl dX4_rightsByEntries_97 ?_
                      refine lv_iload_n hx hb dX4_rightsByEntries_100 rfl (lv_at hl 3 rfl) ?_
                      refine lv_iand hx hb dX4_rightsByEntries_101 ?_
                      refine lv_ior hx hb dX4_rightsByEntries_102 ?_
                      refine lv_istore (lv' := [(4, .int (((mRow F x y a i v).1) ||| ((F 9 (6 * a + i)) &&& (undI (mRow F x y a i v).2)))), (0, .ref (AD 0 0)), (1, .int (nI x)), (2, .ref (AD 1 y)), (3, .int (undI (mRow F x y a i v).2)), (5, .ref (AD 1 a)), (6, .int (nI i)), (7, .ref (AD 5 (6 * a + i)))]) hx hb dX4_rightsByEntries_103 hl (by decide) rfl (fun ls hl => ?_)
                      refine lv_iload_n hx hb dX4_rightsByEntries_105 rfl (lv_at hl 4 rfl) ?_
                      refine lv_aload hx hb dX4_rightsByEntries_106 (lv_at hl 7 rfl) ?_
                      obtain ⟨kp16, ep16⟩ := (hR.en (i := a) (j := i) (by omega) (by omega)).at
                      refine va_get (D := D) (ci := 1) (v := .int (F 9 (6 * a + i))) (C := RX0) (T := TX0) (N := 4) hx hb hts (fun _ h => List.mem_cons_of_mem _ (List.mem_append_left _ (List.mem_append_left _ (List.mem_append_left _ (List.mem_append_right _ (h)))))) hown hK hP kp16 ep16 rfl 2 (by decide) (hts _ (List.mem_of_getElem? (i := 5) rfl)) (fun _ h9 => h9) rfl dX4_rightsByEntries_108 ?_
                      refine lv_iconst (v := (-1)) hx hb dX4_rightsByEntries_111 (by decide) ?_
                      refine lv_ixor hx hb dX4_rightsByEntries_112 ?_
                      refine lv_iand hx hb dX4_rightsByEntries_113 ?_
                      refine lv_istore_n (lv' := [(3, .int ((undI (mRow F x y a i v).2) &&& ((F 9 (6 * a + i)) ^^^ (-1)))), (4, .int (((mRow F x y a i v).1) ||| ((F 9 (6 * a + i)) &&& (undI (mRow F x y a i v).2)))), (0, .ref (AD 0 0)), (1, .int (nI x)), (2, .ref (AD 1 y)), (5, .ref (AD 1 a)), (6, .int (nI i)), (7, .ref (AD 5 (6 * a + i)))]) hx hb dX4_rightsByEntries_114 rfl hl (by decide) rfl (fun ls hl => ?_)
                      refine lv_iinc (v := nI (i + 1)) (lv' := [(6, .int (nI (i + 1))), (3, .int ((undI (mRow F x y a i v).2) &&& ((F 9 (6 * a + i)) ^^^ (-1)))), (4, .int (((mRow F x y a i v).1) ||| ((F 9 (6 * a + i)) &&& (undI (mRow F x y a i v).2)))), (0, .ref (AD 0 0)), (1, .int (nI x)), (2, .ref (AD 1 y)), (5, .ref (AD 1 a)), (7, .ref (AD 5 (6 * a + i)))]) hx hb dX4_rightsByEntries_115 hl (k := 6) rfl (by exact iinc_n _) (by decide) rfl (fun ls hl => ?_)
                      refine lv_goto (tgt := 28) hx hb dX4_rightsByEntries_118 (by decide) ?_
                      exact ih_28 (i + 1) (by omega) (by omega) _ (by first | (rw [cs_0 c_72]) | (rw [cs_1 c_72 c_82]) | (rw [cs_2 c_72 c_82]; exact undI_or _ _)) _ (by first | (rw [cs_0 c_72]) | (rw [cs_1 c_72 c_82]) | (rw [cs_2 c_72 c_82, if_pos c_90]; exact (i_or0 _).symm) | (rw [cs_2 c_72 c_82, if_neg c_90, and_undI (hE a i ha h_i)])) ls (lv_sub hl [3, 4, 5, 6, 0, 1, 2] rfl)
              refine lv_acmp_ne (rx := some (AD 1 a)) (ry := some (AD 1 y)) (tgt := 68) hx hb dX4_rightsByEntries_61 (by decide) (fun c_61 => ?_) (fun c_61 => ?_)
              ·
                refine lv_iconst (v := 0) hx hb dX4_rightsByEntries_68 (by decide) ?_
                exact J_69 _ ((if_neg c_61).symm) ls (lv_sub hl [1, 2, 3, 6, 7, 4, 5, 0] rfl)
              ·
                refine lv_iconst (v := 1) hx hb dX4_rightsByEntries_64 (by decide) ?_
                refine lv_goto (tgt := 69) hx hb dX4_rightsByEntries_65 (by decide) ?_
                exact J_69 _ ((if_pos c_61).symm) ls (lv_sub hl [1, 2, 3, 6, 7, 4, 5, 0] rfl)
            ·
              obtain rfl : i2n (F 6 a) = i := by omega
              refine lv_iload hx hb dX4_rightsByEntries_28 (lv_at hl 4 rfl) ?_
              refine lv_aload hx hb dX4_rightsByEntries_30 (lv_at hl 3 rfl) ?_
              obtain ⟨kp17, ep17⟩ := (hR.fo (i := a) (by omega)).at
              refine va_get (D := D) (ci := 2) (v := .ref (AD 2 a)) (C := RX1) (T := TX1) (N := 7) hx hb hts (fun _ h => List.mem_cons_of_mem _ (List.mem_append_left _ (List.mem_append_left _ (List.mem_append_left _ (List.mem_append_left _ (List.mem_append_right _ (h))))))) hown hK hP kp17 ep17 rfl 1 (by decide) (hts _ (List.mem_of_getElem? (i := 2) rfl)) (fun _ h9 => h9) rfl dX4_rightsByEntries_32 ?_
              obtain ⟨kp18, ep18⟩ := (hR.ro (i := a) (by omega)).at
              obtain ⟨kp19, ep19⟩ := (hR.ro (i := a) (by omega)).at
              refine vp_callSi (W.runV (As := []) (rest := [.int (nI (i2n (F 6 a)))]) ⟨hx, hb, hml, hown, hts⟩ (k_Jx4a65c_size_8abf5 l D cI cZ cO ep18 ) (cwV 0 hts gX4_rightsByEntries_Jx4a65c_size_8abf5 rfl rfl rfl (by decide +kernel) ⟨Nat.le_of_ble_eq_true rfl, Nat.le_of_ble_eq_true rfl⟩) ⟨rd_blind, va_recv hK hP (ci := 0) (q0 := kp19) rfl ep19, rd_pre hP hK hN⟩ rfl rfl hl.1 rfl (lv_room (Nat.le_of_ble_eq_true rfl)) dX4_rightsByEntries_35 ⟨Nat.le_of_ble_eq_true rfl, Nat.le_of_ble_eq_true rfl⟩) (fun r er => ?_)
              subst er
              refine top_eq (y := nI (i2n (F 6 a))) (by exact (hM.len ha).1) ?_
              refine lv_icmp_ge (tgt := 121) hx hb dX4_rightsByEntries_38 (by decide) (fun c_38 => ?_) (fun c_38 => absurd (nI_le h_i (by omega)) c_38)
              refine lv_aload hx hb dX4_rightsByEntries_121 (lv_at hl 3 rfl) ?_
              obtain ⟨kp20, ep20⟩ := (hR.fo (i := a) (by omega)).at
              refine va_csq (W.runV (As := []) (rest := []) ⟨hx, hb, hml, hown, hts⟩ (k_X1_inheritsFrom l D cI cZ cO hR a ha) (cwV 0 hts gX4_rightsByEntries_X1_inheritsFrom rfl rfl rfl (by decide +kernel) ⟨Nat.le_of_ble_eq_true rfl, Nat.le_of_ble_eq_true rfl⟩) ⟨rd_blind, va_recv hK hP (ci := 2) (q0 := kp20) rfl ep20, rd_pre hP hK hN⟩ rfl rfl hl.1 rfl (lv_room (Nat.le_of_ble_eq_true rfl)) dX4_rightsByEntries_123 ⟨Nat.le_of_ble_eq_true rfl, Nat.le_of_ble_eq_true rfl⟩) (fun r er => ?_)
              subst er
              by_cases d1 : F 5 a = 0
              ·
                refine top_rn (by exact if_pos d1) ?_
                refine lv_astoreN (lv' := [(5, .null), (0, .ref (AD 0 0)), (1, .int (nI x)), (2, .ref (AD 1 y)), (6, .int (nI (i2n (F 6 a)))), (3, .int (undI (mRow F x y a (i2n (F 6 a)) v).2)), (4, .int ((mRow F x y a (i2n (F 6 a)) v).1))]) hx hb dX4_rightsByEntries_126 hl (by decide) rfl (fun ls hl => ?_)
                refine lv_goto (tgt := 20) hx hb dX4_rightsByEntries_128 (by decide) ?_
                exact E_20 (mRow F x y a (i2n (F 6 a)) v) (by rw [← hq]; show _ = (if _ then _ else _); first | rw [if_pos d1] | rw [if_neg d1, if_pos d2]) ls (lv_sub hl [1, 2, 3, 5, 6, 0] rfl)
              ·
                by_cases d2 : F 3 a = -1
                ·
                  refine top_rn (by exact (if_neg d1).trans (if_pos d2)) ?_
                  refine lv_astoreN (lv' := [(5, .null), (0, .ref (AD 0 0)), (1, .int (nI x)), (2, .ref (AD 1 y)), (6, .int (nI (i2n (F 6 a)))), (3, .int (undI (mRow F x y a (i2n (F 6 a)) v).2)), (4, .int ((mRow F x y a (i2n (F 6 a)) v).1))]) hx hb dX4_rightsByEntries_126 hl (by decide) rfl (fun ls hl => ?_)
                  refine lv_goto (tgt := 20) hx hb dX4_rightsByEntries_128 (by decide) ?_
                  exact E_20 (mRow F x y a (i2n (F 6 a)) v) (by rw [← hq]; show _ = (if _ then _ else _); first | rw [if_pos d1] | rw [if_neg d1, if_pos d2]) ls (lv_sub hl [1, 2, 3, 5, 6, 0] rfl)
                ·
                  refine top_rf (q := AD 1 (i2n (F 3 a))) (by exact (if_neg d1).trans (if_neg d2)) ?_
                  refine lv_astore (lv' := [(5, .ref (AD 1 (i2n (F 3 a)))), (0, .ref (AD 0 0)), (1, .int (nI x)), (2, .ref (AD 1 y)), (6, .int (nI (i2n (F 6 a)))), (3, .int (undI (mRow F x y a (i2n (F 6 a)) v).2)), (4, .int ((mRow F x y a (i2n (F 6 a)) v).1))]) hx hb dX4_rightsByEntries_126 hl (by decide) rfl (fun ls hl => ?_)
                  refine lv_goto (tgt := 20) hx hb dX4_rightsByEntries_128 (by decide) ?_
                  exact ih_20 (i2n (F 3 a)) (mRow F x y a (i2n (F 6 a)) v) (by have := (hM.par ha d2).2; omega) (by have := (hM.par ha d2).2; omega) (by rw [← hq]; show _ = (if _ then _ else _); rw [if_neg d1, if_neg d2]) ls (lv_sub hl [1, 2, 3, 5, 6, 0] rfl)
        exact L_28 (i2n (F 6 a) + 1) 0 (by omega) (by omega) _ (by rfl) _ (by rfl) ls (lv_sub hl [1, 2, 3, 6, 0, 4, 5] rfl)
    exact L_20 (y + 1) y ((0 : Int32), (0 : Int32)) (by exact hyn) (by omega) (by rfl) ls (lv_sub hl [3, 4, 5, 2, 1, 0] rfl)
  ·
    have eR : mRights F x y = 7 := if_pos c_5.symm
    refine lv_bipush (v := 7) hx hb dX4_rightsByEntries_8 (by decide) ?_
    subst hQ
    exact W.iret (v := 7) hx hb hr (fun t ht _ => ⟨_, rfl, (by exact eR.symm), ht⟩) (fun _ h => absurd h List.not_mem_nil) dX4_rightsByEntries_10

set_option maxHeartbeats 800000 in
set_option maxRecDepth 100000 in
theorem k_X4_currentRights (l : Launch) (D : va_G) (cI cZ cO : ClassId) {L : List Nat} {f : Nat → va_E} {tg : Nat → Nat} {AD : Nat → Nat → Nat} {mc : Nat → Int32} {F : Nat → Nat → Int32} {ik kp tu : Nat → Int32} {n : Nat} {he gv : Nat → Int32} {gp gb ob nm lo : Int32} (hR : Rep cI cO L f tg AD mc F ik kp tu n he gv gp gb ob nm lo) (x : Nat) (y : Nat)  (hM : okC F n) (hE : okE F n) (hyn : y < n) (hx8 : x < 8) : Met l yX4_currentRights wsX4_currentRights (rmr 4 91) (va_Pc [.ref (AD 0 0), .int (nI x), .ref (AD 1 y)] (rdP D ([(cI, .int), (cI, .int), (cO, .object "java/lang/Object")]) (va_pl L f))) (vp_Si (fun r => r = mNow F kp tu x y)) 0 0 (fun _ => False) := by
  refine Met.ofW (cc := cX4_currentRights) (maxL := 3) (ret := (some .int)) (by decide) rfl ?_
  intro p e s m args below meth c s₁ B hml hv
  obtain ⟨hargs, hP, hK, hN⟩ := hv
  have hx := B.exec
  have hb := B.bytes
  have hr := B.returns
  have hts := atoms_spec (ws := wsX4_currentRights) B.pre
  have hown : s.vm.findClass RX4 = some m.cls := findClass_of_methodNamed B.named
  have hlocks := B.notSynchronized
  have hen : entryFrame m args 3 = entryFrame m ([.ref (AD 0 0), .int (nI x), .ref (AD 1 y)] : List Value).toArray 3 := by rw [hargs]
  rw [hen]
  have hl := lv_entry ([.ref (AD 0 0), .int (nI x), .ref (AD 1 y)]) (n := 3) (Nat.le_of_ble_eq_true rfl)
  rw [lg_entry_eq]
  generalize (lg_sl ([.ref (AD 0 0), .int (nI x), .ref (AD 1 y)]) ++ List.replicate (3 - (lg_sl ([.ref (AD 0 0), .int (nI x), .ref (AD 1 y)])).length) Slot.unset).toArray = ls at hl ⊢
  have hl : lv_has ls 3 [(0, .ref (AD 0 0)), (1, .int (nI x)), (2, .ref (AD 1 y))] := hl
  generalize hQ : MQ below (vp_Si (fun r => r = mNow F kp tu x y)) args s 0 0 (fun _ => False) = Q
  refine lv_aload_n hx hb dX4_currentRights_0 rfl (lv_at hl 2 rfl) ?_
  obtain ⟨kp1, ep1⟩ := (hR.fo (i := y) (by omega)).at
  refine va_get (D := D) (ci := 2) (v := .int (tu y)) (C := RX1) (T := TX1) (N := 7) hx hb hts (fun _ h => List.mem_cons_of_mem _ (List.mem_append_left _ (List.mem_append_left _ (List.mem_append_left _ (List.mem_append_left _ (List.mem_append_right _ (h))))))) hown hK hP kp1 ep1 rfl 6 (by decide) (hts _ (List.mem_of_getElem? (i := 1) rfl)) (fun _ h9 => h9) rfl dX4_currentRights_1 ?_
  have J_22 : ∀ (z0 : Int32), z0 = (if (tu y) = 0 then mRights F x y else kp (8 * y + x)) → ∀ ls : Array Slot, lv_has ls 3 [(0, .ref (AD 0 0)), (1, .int (nI x)), (2, .ref (AD 1 y))] → W p l e (headSpec wsX4_currentRights (rmr 4 91)).room s m args below meth c s.heap [] 0 0 Q (F0 m 22 ls [.int z0]) := by
    intro z0 ez0 ls hl
    subst ez0
    subst hQ
    exact W.iret (v := if (tu y) = 0 then mRights F x y else kp (8 * y + x)) hx hb hr (fun t ht _ => ⟨_, rfl, (by rfl), ht⟩) (fun _ h => absurd h List.not_mem_nil) dX4_currentRights_22
  refine lv_if_eq (tgt := 16) hx hb dX4_currentRights_4 (by decide) (fun c_4 => ?_) (fun c_4 => ?_)
  ·
    refine lv_aload_n hx hb dX4_currentRights_16 rfl (lv_at hl 0 rfl) ?_
    refine lv_iload_n hx hb dX4_currentRights_17 rfl (lv_at hl 1 rfl) ?_
    refine lv_aload_n hx hb dX4_currentRights_18 rfl (lv_at hl 2 rfl) ?_
    obtain ⟨kp2, ep2⟩ := (hR.x).at
    refine vp_callSi (W.runV (As := [.int (nI x), .ref (AD 1 y)]) (rest := []) ⟨hx, hb, hml, hown, hts⟩ (k_X4_rightsByEntries l D cI cZ cO hR x y hM hE hyn) (cwV 2 hts gX4_currentRights_X4_rightsByEntries rfl rfl rfl (by decide +kernel) ⟨Nat.le_of_ble_eq_true rfl, Nat.le_of_ble_eq_true rfl⟩) ⟨rd_blind, va_recv hK hP (ci := 5) (q0 := kp2) rfl ep2, rd_pre hP hK hN⟩ rfl rfl hl.1 rfl (lv_room (Nat.le_of_ble_eq_true rfl)) dX4_currentRights_19 ⟨Nat.le_of_ble_eq_true rfl, Nat.le_of_ble_eq_true rfl⟩) (fun r er => ?_)
    subst er
    exact J_22 _ ((if_pos c_4).symm) ls (lv_sub hl [0, 1, 2] rfl)
  ·
    refine lv_aload_n hx hb dX4_currentRights_7 rfl (lv_at hl 2 rfl) ?_
    obtain ⟨kp3, ep3⟩ := (hR.fo (i := y) (by omega)).at
    refine va_get (D := D) (ci := 2) (v := .ref (AD 3 y)) (C := RX1) (T := TX1) (N := 7) hx hb hts (fun _ h => List.mem_cons_of_mem _ (List.mem_append_left _ (List.mem_append_left _ (List.mem_append_left _ (List.mem_append_left _ (List.mem_append_right _ (h))))))) hown hK hP kp3 ep3 rfl 2 (by decide) (hts _ (List.mem_of_getElem? (i := 2) rfl)) (fun _ h9 => h9) rfl dX4_currentRights_8 ?_
    refine lv_iload_n hx hb dX4_currentRights_11 rfl (lv_at hl 1 rfl) ?_
    obtain ⟨qp4, hhp4, hvp4⟩ := hR.ke (i := y) (by omega)
    obtain ⟨kp4, ep4⟩ := (hhp4).at
    refine ld_i (k := x) hx hb hK hP kp4 0 ep4 rfl (by omega) (by decide) dX4_currentRights_12 ?_
    refine top_eq (y := kp (8 * y + x)) (by exact hvp4 x hx8) ?_
    refine lv_goto (tgt := 22) hx hb dX4_currentRights_13 (by decide) ?_
    exact J_22 _ ((if_neg c_4).symm) ls (lv_sub hl [0, 1, 2] rfl)
