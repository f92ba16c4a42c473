set_option maxHeartbeats 800000 in
set_option maxRecDepth 100000 in
theorem k_X5_isFor (l : Launch) (D : va_G) (cI cZ : ClassId) (ad : Nat → Nat) (F : Nat → Nat → Int32) (ow : Nat → Int32) (mp : Nat → Int32) (nm : Int32) (gb : Int32) (ob : Int32) (ik : Nat → Int32) (kp : Nat → Int32) (tu : Nat → Int32) (g : Nat → Int32) (x : Nat) (y : Nat)  (hk : x < 120) (hw : ∃ w, w < 14 ∧ F 7 x = nI w) : Met l yX5_isFor wsX5_isFor (rmr 3 69) (va_Pc [.ref (ad 0), .int (nI x), .int (nI y)] (rdP D ([(cI, .int), (cZ, .boolean)]) (mdW cI cZ ad F ow mp nm gb ob ik kp tu g))) (vp_Si (fun r => r = b2i (mFor F x y))) 0 0 (fun _ => False) := by
  refine Met.ofW (cc := cX5_isFor) (maxL := 3) (ret := (some .boolean)) (by decide) rfl ?_
  intro p e s m args below meth c s₁ B hml hv
  obtain ⟨hargs, hP, hK, hN⟩ := hv
  have hx := B.exec
  have hb := B.bytes
  have hr := B.returns
  have hts := atoms_spec (ws := wsX5_isFor) B.pre
  have hown : s.vm.findClass RX5 = some m.cls := findClass_of_methodNamed B.named
  have hlocks := B.notSynchronized
  have hen : entryFrame m args 3 = entryFrame m ([.ref (ad 0), .int (nI x), .int (nI y)] : List Value).toArray 3 := by rw [hargs]
  rw [hen]
  have hl := lv_entry ([.ref (ad 0), .int (nI x), .int (nI y)]) (n := 3) (Nat.le_of_ble_eq_true rfl)
  rw [lg_entry_eq]
  generalize (lg_sl ([.ref (ad 0), .int (nI x), .int (nI y)]) ++ List.replicate (3 - (lg_sl ([.ref (ad 0), .int (nI x), .int (nI y)])).length) Slot.unset).toArray = ls at hl ⊢
  have hl : lv_has ls 3 [(0, .ref (ad 0)), (1, .int (nI x)), (2, .int (nI y))] := hl
  generalize hQ : MQ below (vp_Si (fun r => r = b2i (mFor F x y))) args s 0 0 (fun _ => False) = Q
  refine lv_aload_n hx hb dX5_isFor_0 rfl (lv_at hl 0 rfl) ?_
  refine va_get (D := D) (ci := 6) (v := .ref (ad 7)) (C := RX5) (T := TX5) (N := 20) hx hb hts (fun _ h => List.mem_cons_of_mem _ (List.mem_append_right _ (h))) hown hK hP 0 rfl rfl 7 (by decide) (hts _ (List.mem_of_getElem? (i := 1) rfl)) (fun _ h9 => h9) rfl dX5_isFor_1 ?_
  refine lv_iload_n hx hb dX5_isFor_4 rfl (lv_at hl 1 rfl) ?_
  refine ld_i (k := x) hx hb hK hP 7 0 rfl rfl (by omega) (by decide) dX5_isFor_5 ?_
  refine lv_bipush (v := 8) hx hb dX5_isFor_6 (by decide) ?_
  have J_46 : ∀ (z0 : Int32), z0 = (if 8 ≤ ((F 7) x) then b2i (hasB (mMem F (i2n (F 7 x) - 8)) (nI y)) else if ((F 7) x) = (nI y) then 1 else 0) → ∀ ls : Array Slot, lv_has ls 3 [(0, .ref (ad 0)), (1, .int (nI x)), (2, .int (nI y))] → W p l e (headSpec wsX5_isFor (rmr 3 69)).room s m args below meth c s.heap [] 0 0 Q (F0 m 46 ls [.int z0]) := by
    intro z0 ez0 ls hl
    subst ez0
    subst hQ
    have hrt : (if 8 ≤ ((F 7) x) then b2i (hasB (mMem F (i2n (F 7 x) - 8)) (nI y)) else if ((F 7) x) = (nI y) then 1 else 0 : Int32) = b2i (mFor F x y) := by exact mFor_if F x y
    exact W.zret (v := if 8 ≤ ((F 7) x) then b2i (hasB (mMem F (i2n (F 7 x) - 8)) (nI y)) else if ((F 7) x) = (nI y) then 1 else 0) hx hb hr (by rw [hrt]; exact nar_b2i _) (fun t ht _ => ⟨_, rfl, hrt, ht⟩) (fun _ h => absurd h List.not_mem_nil) dX5_isFor_46
  refine lv_icmp_ge (tgt := 29) hx hb dX5_isFor_8 (by decide) (fun c_8 => ?_) (fun c_8 => ?_)
  ·
    refine lv_aload_n hx hb dX5_isFor_29 rfl (lv_at hl 0 rfl) ?_
    refine lv_aload_n hx hb dX5_isFor_30 rfl (lv_at hl 0 rfl) ?_
    refine va_get (D := D) (ci := 6) (v := .ref (ad 7)) (C := RX5) (T := TX5) (N := 20) hx hb hts (fun _ h => List.mem_cons_of_mem _ (List.mem_append_right _ (h))) hown hK hP 0 rfl rfl 7 (by decide) (hts _ (List.mem_of_getElem? (i := 1) rfl)) (fun _ h9 => h9) rfl dX5_isFor_31 ?_
    refine lv_iload_n hx hb dX5_isFor_34 rfl (lv_at hl 1 rfl) ?_
    refine ld_i (k := x) hx hb hK hP 7 0 rfl rfl (by omega) (by decide) dX5_isFor_35 ?_
    refine lv_bipush (v := 8) hx hb dX5_isFor_36 (by decide) ?_
    refine lv_isub hx hb dX5_isFor_38 ?_
    refine top_eq (y := nI (i2n (F 7 x) - 8)) (by exact sub8 hw c_8) ?_
    refine vp_callSi (W.runV (As := [.int (nI (i2n (F 7 x) - 8))]) (rest := []) ⟨hx, hb, hml, hown, hts⟩ (k_X5_membersOf l D cI cZ ad F ow mp nm gb ob ik kp tu g (i2n (F 7 x) - 8)) (cwV 1 hts gX5_isFor_X5_membersOf rfl rfl rfl (by decide +kernel) ⟨Nat.le_of_ble_eq_true rfl, Nat.le_of_ble_eq_true rfl⟩) ⟨rd_blind, va_recv hK hP (ci := 6) (q0 := 0) rfl rfl, rd_pre hP hK hN⟩ rfl rfl hl.1 rfl (lv_room (Nat.le_of_ble_eq_true rfl)) dX5_isFor_39 ⟨Nat.le_of_ble_eq_true rfl, Nat.le_of_ble_eq_true rfl⟩) (fun r er => ?_)
    subst er
    refine lv_iload_n hx hb dX5_isFor_42 rfl (lv_at hl 2 rfl) ?_
    refine vp_callSi (W.runS (As := [.int (mMem F (i2n (F 7 x) - 8)), .int (nI y)]) (rest := []) ⟨hx, hb, hml, hown, hts⟩ (k_X5_has l (mMem F (i2n (F 7 x) - 8)) (nI y)) (va_cwS 2 hts gX5_isFor_X5_has rfl rfl rfl (by decide +kernel) ⟨Nat.le_of_ble_eq_true rfl, Nat.le_of_ble_eq_true rfl⟩) ⟨nf_blind, fun U hU hW => ⟨rfl, trivial⟩⟩ rfl rfl hl.1 rfl (lv_room (Nat.le_of_ble_eq_true rfl)) dX5_isFor_43 ⟨Nat.le_of_ble_eq_true rfl, Nat.le_of_ble_eq_true rfl⟩) (fun r er => ?_)
    subst er
    exact J_46 _ ((if_pos c_8).symm) ls (lv_sub hl [0, 1, 2] rfl)
  ·
    refine lv_aload_n hx hb dX5_isFor_11 rfl (lv_at hl 0 rfl) ?_
    refine va_get (D := D) (ci := 6) (v := .ref (ad 7)) (C := RX5) (T := TX5) (N := 20) hx hb hts (fun _ h => List.mem_cons_of_mem _ (List.mem_append_right _ (h))) hown hK hP 0 rfl rfl 7 (by decide) (hts _ (List.mem_of_getElem? (i := 1) rfl)) (fun _ h9 => h9) rfl dX5_isFor_12 ?_
    refine lv_iload_n hx hb dX5_isFor_15 rfl (lv_at hl 1 rfl) ?_
    refine ld_i (k := x) hx hb hK hP 7 0 rfl rfl (by omega) (by decide) dX5_isFor_16 ?_
    refine lv_iload_n hx hb dX5_isFor_17 rfl (lv_at hl 2 rfl) ?_
    refine lv_icmp_ne (tgt := 25) hx hb dX5_isFor_18 (by decide) (fun c_18 => ?_) (fun c_18 => ?_)
    ·
      refine lv_iconst (v := 0) hx hb dX5_isFor_25 (by decide) ?_
      refine lv_goto (tgt := 46) hx hb dX5_isFor_26 (by decide) ?_
      exact J_46 _ (((if_neg c_8).trans (if_neg c_18)).symm) ls (lv_sub hl [0, 1, 2] rfl)
    ·
      refine lv_iconst (v := 1) hx hb dX5_isFor_21 (by decide) ?_
      refine lv_goto (tgt := 46) hx hb dX5_isFor_22 (by decide) ?_
      exact J_46 _ (((if_neg c_8).trans (if_pos c_18)).symm) ls (lv_sub hl [0, 1, 2] rfl)

set_option maxHeartbeats 800000 in
set_option maxRecDepth 100000 in
theorem k_X5_rightsOf (l : Launch) (D : va_G) (cI cZ : ClassId) (ad : Nat → Nat) (F : Nat → Nat → Int32) (ow : Nat → Int32) (mp : Nat → Int32) (nm : Int32) (gb : Int32) (ob : Int32) (ik : Nat → Int32) (kp : Nat → Int32) (tu : Nat → Int32) (g : Nat → Int32) (x : Nat) (y : Nat)  (nn : Nat) (hM : okM F g nn) (hy : y < nn) : Met l yX5_rightsOf wsX5_rightsOf (rmr 4 91) (va_Pc [.ref (ad 0), .int (nI x), .int (nI y)] (rdP D ([(cI, .int), (cZ, .boolean)]) (mdW cI cZ ad F ow mp nm gb ob ik kp tu g))) (vp_Si (fun r => r = mRights F x y)) 0 0 (fun _ => False) := by
  refine Met.ofW (cc := cX5_rightsOf) (maxL := 9) (ret := (some .int)) (by decide) rfl ?_
  intro p e s m args below meth c s₁ B hml hv
  obtain ⟨hargs, hP, hK, hN⟩ := hv
  have hx := B.exec
  have hb := B.bytes
  have hr := B.returns
  have hts := atoms_spec (ws := wsX5_rightsOf) B.pre
  have hown : s.vm.findClass RX5 = some m.cls := findClass_of_methodNamed B.named
  have hlocks := B.notSynchronized
  have hen : entryFrame m args 9 = entryFrame m ([.ref (ad 0), .int (nI x), .int (nI y)] : List Value).toArray 9 := by rw [hargs]
  rw [hen]
  have hl := lv_entry ([.ref (ad 0), .int (nI x), .int (nI y)]) (n := 9) (Nat.le_of_ble_eq_true rfl)
  rw [lg_entry_eq]
  generalize (lg_sl ([.ref (ad 0), .int (nI x), .int (nI y)]) ++ List.replicate (9 - (lg_sl ([.ref (ad 0), .int (nI x), .int (nI y)])).length) Slot.unset).toArray = ls at hl ⊢
  have hl : lv_has ls 9 [(0, .ref (ad 0)), (1, .int (nI x)), (2, .int (nI y))] := hl
  generalize hQ : MQ below (vp_Si (fun r => r = mRights F x y)) args s 0 0 (fun _ => False) = Q
  have hnn := hM.2.1.2
  refine lv_aload_n hx hb dX5_rightsOf_0 rfl (lv_at hl 0 rfl) ?_
  refine va_get (D := D) (ci := 6) (v := .ref (ad 4)) (C := RX5) (T := TX5) (N := 20) hx hb hts (fun _ h => List.mem_cons_of_mem _ (List.mem_append_right _ (h))) hown hK hP 0 rfl rfl 3 (by decide) (hts _ (List.mem_of_getElem? (i := 1) rfl)) (fun _ h9 => h9) rfl dX5_rightsOf_1 ?_
  refine lv_iload_n hx hb dX5_rightsOf_4 rfl (lv_at hl 2 rfl) ?_
  refine ld_i (k := y) hx hb hK hP 4 0 rfl rfl (by omega) (by decide) dX5_rightsOf_5 ?_
  refine lv_iload_n hx hb dX5_rightsOf_6 rfl (lv_at hl 1 rfl) ?_
  refine lv_icmp_ne (tgt := 13) hx hb dX5_rightsOf_7 (by decide) (fun c_7 => ?_) (fun c_7 => ?_)
  ·
    have eR : mRights F x y = mChain F x y (y + 1) y (0, 0) := if_neg c_7
    refine lv_iconst (v := 0) hx hb dX5_rightsOf_13 (by decide) ?_
    refine lv_istore_n (lv' := [(3, .int 0), (0, .ref (ad 0)), (1, .int (nI x)), (2, .int (nI y))]) hx hb dX5_rightsOf_14 rfl hl (by decide) rfl (fun ls hl => ?_)
    refine lv_iconst (v := 0) hx hb dX5_rightsOf_15 (by decide) ?_
    refine lv_istore (lv' := [(4, .int 0), (3, .int 0), (0, .ref (ad 0)), (1, .int (nI x)), (2, .int (nI y))]) hx hb dX5_rightsOf_16 hl (by decide) rfl (fun ls hl => ?_)
    refine lv_iload_n hx hb dX5_rightsOf_18 rfl (lv_at hl 4 rfl) ?_
    refine lv_istore (lv' := [(5, .int (nI y)), (4, .int 0), (3, .int 0), (0, .ref (ad 0)), (1, .int (nI x)), (2, .int (nI y))]) hx hb dX5_rightsOf_19 hl (by decide) rfl (fun ls hl => ?_)
    refine lv_iconst (v := 1) hx hb dX5_rightsOf_21 (by decide) ?_
    refine lv_istore (lv' := [(6, .int 1), (5, .int (nI y)), (4, .int 0), (3, .int 0), (0, .ref (ad 0)), (1, .int (nI x)), (2, .int (nI y))]) hx hb dX5_rightsOf_22 hl (by decide) rfl (fun ls hl => ?_)
    have E_24 : ∀ (a : Nat) (s3 s4 : Int32), (s3 = mChain F x y (y + 1) y (0, 0)) → ∀ ls : Array Slot, lv_has ls 9 [(0, .ref (ad 0)), (1, .int (nI x)), (2, .int (nI y)), (3, .int s3), (4, .int s4), (5, .int (nI a)), (6, .int 0)] → W p l e (headSpec wsX5_rightsOf (rmr 4 91)).room s m args below meth c s.heap [] 0 0 Q (F0 m 24 ls []) := by
      intro a s3 s4 hq ls hl
      refine lv_iload hx hb dX5_rightsOf_24 (lv_at hl 6 rfl) ?_
      refine lv_if_eq (tgt := 208) hx hb dX5_rightsOf_26 (by decide) (fun c_26 => ?_) (fun c_26 => absurd (by decide) c_26)
      refine lv_iload_n hx hb dX5_rightsOf_208 rfl (lv_at hl 3 rfl) ?_
      subst hQ
      exact W.iret (v := s3) hx hb hr (fun t ht _ => ⟨_, rfl, (by rw [eR]; exact hq), ht⟩) (fun _ h => absurd h List.not_mem_nil) dX5_rightsOf_209
    have L_24 : ∀ n : Nat, ∀ (a : Nat) (s3 s4 : Int32), (a < nn) → (a < n) → (mChain F x y n a (s3, s4) = mChain F x y (y + 1) y (0, 0)) → ∀ ls : Array Slot, lv_has ls 9 [(0, .ref (ad 0)), (1, .int (nI x)), (2, .int (nI y)), (3, .int s3), (4, .int s4), (5, .int (nI a)), (6, .int 1)] → W p l e (headSpec wsX5_rightsOf (rmr 4 91)).room s m args below meth c s.heap [] 0 0 Q (F0 m 24 ls []) := by
      intro n
      induction n with
      | zero => intro a s3 s4 ha hf hq ls hl; exact absurd hf (Nat.not_lt_zero _)
      | succ n ih_24 =>
        intro a s3 s4 ha hf hq ls hl
        have hlen := (hM.len ha).2
        refine lv_iload hx hb dX5_rightsOf_24 (lv_at hl 6 rfl) ?_
        refine lv_if_eq (tgt := 208) hx hb dX5_rightsOf_26 (by decide) (fun c_26 => absurd c_26 (by decide)) (fun c_26 => ?_)
        refine lv_bipush (v := 6) hx hb dX5_rightsOf_29 (by decide) ?_
        refine lv_iload hx hb dX5_rightsOf_31 (lv_at hl 5 rfl) ?_
        refine imul_n (x := 6) (y := a) hx hb dX5_rightsOf_33 ?_
        refine lv_istore (lv' := [(7, .int (nI (6 * a))), (0, .ref (ad 0)), (1, .int (nI x)), (2, .int (nI y)), (3, .int s3), (4, .int s4), (5, .int (nI a)), (6, .int 1)]) hx hb dX5_rightsOf_34 hl (by decide) rfl (fun ls hl => ?_)
        have L_36 : ∀ fz i : Nat, i ≤ (i2n (F 6 a)) → (i2n (F 6 a)) - i < fz → ∀ (v3 : Int32), v3 = ((mRow F x y a i (s3, s4)).1) → ∀ (v4 : Int32), v4 = ((mRow F x y a i (s3, s4)).2) → ∀ ls : Array Slot, lv_has ls 9 [(0, .ref (ad 0)), (1, .int (nI x)), (2, .int (nI y)), (5, .int (nI a)), (6, .int 1), (7, .int (nI (6 * a + i))), (3, .int v3), (4, .int v4)] → W p l e (headSpec wsX5_rightsOf (rmr 4 91)).room s m args below meth c s.heap [] 0 0 Q (F0 m 36 ls []) := by
          intro fz
          induction fz with
          | zero => intro i _ h; exact absurd h (Nat.not_lt_zero _)
          | succ fz ih_36 =>
            intro i hi_36 hn_36 v3 ev3 v4 ev4 ls hl
            subst ev3
            subst ev4
            rcases Nat.lt_or_ge i (i2n (F 6 a)) with h_i | h_i
            ·
              refine lv_iload hx hb dX5_rightsOf_36 (lv_at hl 5 rfl) ?_
              refine lv_bipush (v := 6) hx hb dX5_rightsOf_38 (by decide) ?_
              refine lv_iload hx hb dX5_rightsOf_40 (lv_at hl 3 rfl) ?_
              refine imul_n (x := 6) (y := a) hx hb dX5_rightsOf_42 ?_
              refine lv_aload_n hx hb dX5_rightsOf_43 rfl (lv_at hl 0 rfl) ?_
              refine va_get (D := D) (ci := 6) (v := .ref (ad 6)) (C := RX5) (T := TX5) (N := 20) hx hb hts (fun _ h => List.mem_cons_of_mem _ (List.mem_append_right _ (h))) hown hK hP 0 rfl rfl 5 (by decide) (hts _ (List.mem_of_getElem? (i := 2) rfl)) (fun _ h9 => h9) rfl dX5_rightsOf_44 ?_
              refine lv_iload hx hb dX5_rightsOf_47 (lv_at hl 3 rfl) ?_
              refine ld_i (k := a) hx hb hK hP 6 0 rfl rfl (by omega) (by decide) dX5_rightsOf_49 ?_
              refine top_eq (y := nI (i2n (F 6 a))) (by exact (hM.len ha).1) ?_
              refine iadd_n (x := 6 * a) (y := i2n (F 6 a)) hx hb dX5_rightsOf_50 ?_
              refine lv_icmp_ge (tgt := 158) hx hb dX5_rightsOf_51 (by decide) (fun c_51 => absurd c_51 (nI_ge (by omega) (by omega))) (fun c_51 => ?_)
              refine lv_iload hx hb dX5_rightsOf_54 (lv_at hl 3 rfl) ?_
              refine lv_iload_n hx hb dX5_rightsOf_56 rfl (lv_at hl 2 rfl) ?_
              have J_94 : ∀ (z0 : Int32), z0 = (mCnt F a y (6 * a + i)) → ∀ ls : Array Slot, lv_has ls 9 [(0, .ref (ad 0)), (1, .int (nI x)), (2, .int (nI y)), (3, .int ((mRow F x y a i (s3, s4)).1)), (4, .int ((mRow F x y a i (s3, s4)).2)), (5, .int (nI a)), (6, .int 1), (7, .int (nI (6 * a + i)))] → W p l e (headSpec wsX5_rightsOf (rmr 4 91)).room s m args below meth c s.heap [] 0 0 Q (F0 m 94 ls [.int z0]) := by
                intro z0 ez0 ls hl
                subst ez0
                refine lv_istore (lv' := [(8, .int (mCnt F a y (6 * a + i))), (0, .ref (ad 0)), (1, .int (nI x)), (2, .int (nI y)), (3, .int ((mRow F x y a i (s3, s4)).1)), (4, .int ((mRow F x y a i (s3, s4)).2)), (5, .int (nI a)), (6, .int 1), (7, .int (nI (6 * a + i)))]) hx hb dX5_rightsOf_94 hl (by decide) rfl (fun ls hl => ?_)
                refine lv_iload hx hb dX5_rightsOf_96 (lv_at hl 0 rfl) ?_
                have J_152 : ∀ (y3 : Int32), y3 = (if (mCnt F a y (6 * a + i)) = 0 then (mRow F x y a i (s3, s4)).1 else if (mFor F (6 * a + i) x) = true then ((mRow F x y a i (s3, s4)).1) ||| (if ((F 8) (6 * a + i)) = 0 then 0 else ((F 9) (6 * a + i)) &&& (((mRow F x y a i (s3, s4)).2) ^^^ (-1))) else (mRow F x y a i (s3, s4)).1) → ∀ (y4 : Int32), y4 = (if (mCnt F a y (6 * a + i)) = 0 then (mRow F x y a i (s3, s4)).2 else if (mFor F (6 * a + i) x) = true then ((mRow F x y a i (s3, s4)).2) ||| ((F 9) (6 * a + i)) else (mRow F x y a i (s3, s4)).2) → ∀ ls : Array Slot, lv_has ls 9 [(0, .ref (ad 0)), (1, .int (nI x)), (2, .int (nI y)), (3, .int y3), (4, .int y4), (5, .int (nI a)), (6, .int 1), (7, .int (nI (6 * a + i))), (8, .int (mCnt F a y (6 * a + i)))] → W p l e (headSpec wsX5_rightsOf (rmr 4 91)).room s m args below meth c s.heap [] 0 0 Q (F0 m 152 ls []) := by
                  intro y3 ey3 y4 ey4 ls hl
                  subst ey3
                  subst ey4
                  refine lv_iinc (v := nI (6 * a + i + 1)) (lv' := [(7, .int (nI (6 * a + i + 1))), (0, .ref (ad 0)), (1, .int (nI x)), (2, .int (nI y)), (3, .int (if (mCnt F a y (6 * a + i)) = 0 then (mRow F x y a i (s3, s4)).1 else if (mFor F (6 * a + i) x) = true then ((mRow F x y a i (s3, s4)).1) ||| (if ((F 8) (6 * a + i)) = 0 then 0 else ((F 9) (6 * a + i)) &&& (((mRow F x y a i (s3, s4)).2) ^^^ (-1))) else (mRow F x y a i (s3, s4)).1)), (4, .int (if (mCnt F a y (6 * a + i)) = 0 then (mRow F x y a i (s3, s4)).2 else if (mFor F (6 * a + i) x) = true then ((mRow F x y a i (s3, s4)).2) ||| ((F 9) (6 * a + i)) else (mRow F x y a i (s3, s4)).2)), (5, .int (nI a)), (6, .int 1), (8, .int (mCnt F a y (6 * a + i)))]) hx hb dX5_rightsOf_152 hl (k := 7) rfl (by exact iinc_n _) (by decide) rfl (fun ls hl => ?_)
                  refine lv_goto (tgt := 36) hx hb dX5_rightsOf_155 (by decide) ?_
                  exact ih_36 (i + 1) (by omega) (by omega) _ (by exact mRow_1 F x y a i (s3, s4)) _ (by exact mRow_2 F x y a i (s3, s4)) ls (lv_sub hl [1, 2, 3, 6, 7, 0, 4, 5] rfl)
                refine lv_if_eq (tgt := 152) hx hb dX5_rightsOf_98 (by decide) (fun c_98 => ?_) (fun c_98 => ?_)
                ·
                  exact J_152 _ ((if_pos c_98).symm) _ ((if_pos c_98).symm) ls (lv_sub hl [1, 2, 3, 4, 5, 6, 7, 8, 0] rfl)
                ·
                  refine lv_aload_n hx hb dX5_rightsOf_101 rfl (lv_at hl 1 rfl) ?_
                  refine lv_iload hx hb dX5_rightsOf_102 (lv_at hl 8 rfl) ?_
                  refine lv_iload_n hx hb dX5_rightsOf_104 rfl (lv_at hl 2 rfl) ?_
                  refine vp_callSi (W.runV (As := [.int (nI (6 * a + i)), .int (nI x)]) (rest := []) ⟨hx, hb, hml, hown, hts⟩ (k_X5_isFor l D cI cZ ad F ow mp nm gb ob ik kp tu g (6 * a + i) x (by omega) (hM.who ha (by omega))) (cwV 2 hts gX5_rightsOf_X5_isFor rfl rfl rfl (by decide +kernel) ⟨Nat.le_of_ble_eq_true rfl, Nat.le_of_ble_eq_true rfl⟩) ⟨rd_blind, va_recv hK hP (ci := 6) (q0 := 0) rfl rfl, rd_pre hP hK hN⟩ rfl rfl hl.1 rfl (lv_room (Nat.le_of_ble_eq_true rfl)) dX5_rightsOf_105 ⟨Nat.le_of_ble_eq_true rfl, Nat.le_of_ble_eq_true rfl⟩) (fun r er => ?_)
                  subst er
                  refine lv_if_eq (tgt := 152) hx hb dX5_rightsOf_108 (by decide) (fun c_108 => ?_) (fun c_108 => ?_)
                  ·
                    have c_108 := b2i_0 c_108
                    exact J_152 _ (((if_neg c_98).trans (if_neg (b2i_bf c_108))).symm) _ (((if_neg c_98).trans (if_neg (b2i_bf c_108))).symm) ls (lv_sub hl [1, 2, 3, 4, 5, 6, 7, 8, 0] rfl)
                  ·
                    have c_108 := b2i_1 c_108
                    refine lv_iload_n hx hb dX5_rightsOf_111 rfl (lv_at hl 4 rfl) ?_
                    refine lv_aload_n hx hb dX5_rightsOf_112 rfl (lv_at hl 1 rfl) ?_
                    refine va_get (D := D) (ci := 6) (v := .ref (ad 8)) (C := RX5) (T := TX5) (N := 20) hx hb hts (fun _ h => List.mem_cons_of_mem _ (List.mem_append_right _ (h))) hown hK hP 0 rfl rfl 8 (by decide) (hts _ (List.mem_of_getElem? (i := 4) rfl)) (fun _ h9 => h9) rfl dX5_rightsOf_113 ?_
                    refine lv_iload hx hb dX5_rightsOf_116 (lv_at hl 8 rfl) ?_
                    refine ld_z (k := 6 * a + i) hx hb hK hP 8 1 rfl rfl (by omega) (by decide) dX5_rightsOf_118 ?_
                    have J_138 : ∀ (z0 : Int32), z0 = (if ((F 8) (6 * a + i)) = 0 then 0 else ((F 9) (6 * a + i)) &&& (((mRow F x y a i (s3, s4)).2) ^^^ (-1))) → ∀ ls : Array Slot, lv_has ls 9 [(0, .ref (ad 0)), (1, .int (nI x)), (2, .int (nI y)), (3, .int ((mRow F x y a i (s3, s4)).1)), (4, .int ((mRow F x y a i (s3, s4)).2)), (5, .int (nI a)), (6, .int 1), (7, .int (nI (6 * a + i))), (8, .int (mCnt F a y (6 * a + i)))] → W p l e (headSpec wsX5_rightsOf (rmr 4 91)).room s m args below meth c s.heap [] 0 0 Q (F0 m 138 ls [.int z0, .int ((mRow F x y a i (s3, s4)).1)]) := by
                      intro z0 ez0 ls hl
                      subst ez0
                      refine lv_ior hx hb dX5_rightsOf_138 ?_
                      refine lv_istore_n (lv' := [(3, .int (((mRow F x y a i (s3, s4)).1) ||| (if ((F 8) (6 * a + i)) = 0 then 0 else ((F 9) (6 * a + i)) &&& (((mRow F x y a i (s3, s4)).2) ^^^ (-1))))), (0, .ref (ad 0)), (1, .int (nI x)), (2, .int (nI y)), (4, .int ((mRow F x y a i (s3, s4)).2)), (5, .int (nI a)), (6, .int 1), (7, .int (nI (6 * a + i))), (8, .int (mCnt F a y (6 * a + i)))]) hx hb dX5_rightsOf_139 rfl hl (by decide) rfl (fun ls hl => ?_)
                      refine lv_iload hx hb dX5_rightsOf_140 (lv_at hl 4 rfl) ?_
                      refine lv_aload_n hx hb dX5_rightsOf_142 rfl (lv_at hl 1 rfl) ?_
                      refine va_get (D := D) (ci := 6) (v := .ref (ad 9)) (C := RX5) (T := TX5) (N := 20) hx hb hts (fun _ h => List.mem_cons_of_mem _ (List.mem_append_right _ (h))) hown hK hP 0 rfl rfl 9 (by decide) (hts _ (List.mem_of_getElem? (i := 5) rfl)) (fun _ h9 => h9) rfl dX5_rightsOf_143 ?_
                      refine lv_iload hx hb dX5_rightsOf_146 (lv_at hl 7 rfl) ?_
                      refine ld_i (k := 6 * a + i) hx hb hK hP 9 0 rfl rfl (by omega) (by decide) dX5_rightsOf_148 ?_
                      refine lv_ior hx hb dX5_rightsOf_149 ?_
                      refine lv_istore (lv' := [(4, .int (((mRow F x y a i (s3, s4)).2) ||| ((F 9) (6 * a + i)))), (3, .int (((mRow F x y a i (s3, s4)).1) ||| (if ((F 8) (6 * a + i)) = 0 then 0 else ((F 9) (6 * a + i)) &&& (((mRow F x y a i (s3, s4)).2) ^^^ (-1))))), (0, .ref (ad 0)), (1, .int (nI x)), (2, .int (nI y)), (5, .int (nI a)), (6, .int 1), (7, .int (nI (6 * a + i))), (8, .int (mCnt F a y (6 * a + i)))]) hx hb dX5_rightsOf_150 hl (by decide) rfl (fun ls hl => ?_)
                      exact J_152 _ (((if_neg c_98).trans (if_pos c_108)).symm) _ (((if_neg c_98).trans (if_pos c_108)).symm) ls (lv_sub hl [2, 3, 4, 1, 0, 5, 6, 7, 8] rfl)
                    refine lv_if_eq (tgt := 137) hx hb dX5_rightsOf_119 (by decide) (fun c_119 => ?_) (fun c_119 => ?_)
                    ·
                      refine lv_iconst (v := 0) hx hb dX5_rightsOf_137 (by decide) ?_
                      exact J_138 _ ((if_pos c_119).symm) ls (lv_sub hl [1, 2, 3, 4, 5, 6, 7, 8, 0] rfl)
                    ·
                      refine lv_aload_n hx hb dX5_rightsOf_122 rfl (lv_at hl 1 rfl) ?_
                      refine va_get (D := D) (ci := 6) (v := .ref (ad 9)) (C := RX5) (T := TX5) (N := 20) hx hb hts (fun _ h => List.mem_cons_of_mem _ (List.mem_append_right _ (h))) hown hK hP 0 rfl rfl 9 (by decide) (hts _ (List.mem_of_getElem? (i := 5) rfl)) (fun _ h9 => h9) rfl dX5_rightsOf_123 ?_
                      refine lv_iload hx hb dX5_rightsOf_126 (lv_at hl 8 rfl) ?_
                      refine ld_i (k := 6 * a + i) hx hb hK hP 9 0 rfl rfl (by omega) (by decide) dX5_rightsOf_128 ?_
                      refine lv_iload hx hb dX5_rightsOf_129 (lv_at hl 5 rfl) ?_
                      refine lv_iconst (v := (-1)) hx hb dX5_rightsOf_131 (by decide) ?_
                      refine lv_ixor hx hb dX5_rightsOf_132 ?_
                      refine lv_iand hx hb dX5_rightsOf_133 ?_
                      refine lv_goto (tgt := 138) hx hb dX5_rightsOf_134 (by decide) ?_
                      exact J_138 _ ((if_neg c_119).symm) ls (lv_sub hl [1, 2, 3, 4, 5, 6, 7, 8, 0] rfl)
              refine lv_icmp_ne (tgt := 79) hx hb dX5_rightsOf_57 (by decide) (fun c_57 => ?_) (fun c_57 => ?_)
              ·
                refine lv_aload_n hx hb dX5_rightsOf_79 rfl (lv_at hl 0 rfl) ?_
                refine va_get (D := D) (ci := 6) (v := .ref (ad 10)) (C := RX5) (T := TX5) (N := 20) hx hb hts (fun _ h => List.mem_cons_of_mem _ (List.mem_append_right _ (h))) hown hK hP 0 rfl rfl 10 (by decide) (hts _ (List.mem_of_getElem? (i := 3) rfl)) (fun _ h9 => h9) rfl dX5_rightsOf_80 ?_
                refine lv_iload hx hb dX5_rightsOf_83 (lv_at hl 5 rfl) ?_
                refine ld_i (k := 6 * a + i) hx hb hK hP 10 0 rfl rfl (by omega) (by decide) dX5_rightsOf_85 ?_
                refine lv_if_eq (tgt := 93) hx hb dX5_rightsOf_86 (by decide) (fun c_86 => ?_) (fun c_86 => ?_)
                ·
                  refine lv_iconst (v := 0) hx hb dX5_rightsOf_93 (by decide) ?_
                  exact J_94 _ (((if_neg c_57).trans (if_pos c_86)).symm) ls (lv_sub hl [0, 1, 2, 6, 7, 3, 4, 5] rfl)
                ·
                  refine lv_iconst (v := 1) hx hb dX5_rightsOf_89 (by decide) ?_
                  refine lv_goto (tgt := 94) hx hb dX5_rightsOf_90 (by decide) ?_
                  exact J_94 _ (((if_neg c_57).trans (if_neg c_86)).symm) ls (lv_sub hl [0, 1, 2, 6, 7, 3, 4, 5] rfl)
              ·
                refine lv_aload_n hx hb dX5_rightsOf_60 rfl (lv_at hl 0 rfl) ?_
                refine va_get (D := D) (ci := 6) (v := .ref (ad 10)) (C := RX5) (T := TX5) (N := 20) hx hb hts (fun _ h => List.mem_cons_of_mem _ (List.mem_append_right _ (h))) hown hK hP 0 rfl rfl 10 (by decide) (hts _ (List.mem_of_getElem? (i := 3) rfl)) (fun _ h9 => h9) rfl dX5_rightsOf_61 ?_
                refine lv_iload hx hb dX5_rightsOf_64 (lv_at hl 5 rfl) ?_
                refine ld_i (k := 6 * a + i) hx hb hK hP 10 0 rfl rfl (by omega) (by decide) dX5_rightsOf_66 ?_
                refine lv_iconst (v := 1) hx hb dX5_rightsOf_67 (by decide) ?_
                refine lv_icmp_eq (tgt := 75) hx hb dX5_rightsOf_68 (by decide) (fun c_68 => ?_) (fun c_68 => ?_)
                ·
                  refine lv_iconst (v := 0) hx hb dX5_rightsOf_75 (by decide) ?_
                  refine lv_goto (tgt := 94) hx hb dX5_rightsOf_76 (by decide) ?_
                  exact J_94 _ (((if_pos c_57).trans (if_pos c_68)).symm) ls (lv_sub hl [0, 1, 2, 6, 7, 3, 4, 5] rfl)
                ·
                  refine lv_iconst (v := 1) hx hb dX5_rightsOf_71 (by decide) ?_
                  refine lv_goto (tgt := 94) hx hb dX5_rightsOf_72 (by decide) ?_
                  exact J_94 _ (((if_pos c_57).trans (if_neg c_68)).symm) ls (lv_sub hl [0, 1, 2, 6, 7, 3, 4, 5] rfl)
            ·
              obtain rfl : i2n (F 6 a) = i := by omega
              refine lv_iload hx hb dX5_rightsOf_36 (lv_at hl 5 rfl) ?_
              refine lv_bipush (v := 6) hx hb dX5_rightsOf_38 (by decide) ?_
              refine lv_iload hx hb dX5_rightsOf_40 (lv_at hl 3 rfl) ?_
              refine imul_n (x := 6) (y := a) hx hb dX5_rightsOf_42 ?_
              refine lv_aload_n hx hb dX5_rightsOf_43 rfl (lv_at hl 0 rfl) ?_
              refine va_get (D := D) (ci := 6) (v := .ref (ad 6)) (C := RX5) (T := TX5) (N := 20) hx hb hts (fun _ h => List.mem_cons_of_mem _ (List.mem_append_right _ (h))) hown hK hP 0 rfl rfl 5 (by decide) (hts _ (List.mem_of_getElem? (i := 2) rfl)) (fun _ h9 => h9) rfl dX5_rightsOf_44 ?_
              refine lv_iload hx hb dX5_rightsOf_47 (lv_at hl 3 rfl) ?_
              refine ld_i (k := a) hx hb hK hP 6 0 rfl rfl (by omega) (by decide) dX5_rightsOf_49 ?_
              refine top_eq (y := nI (i2n (F 6 a))) (by exact (hM.len ha).1) ?_
              refine iadd_n (x := 6 * a) (y := i2n (F 6 a)) hx hb dX5_rightsOf_50 ?_
              refine lv_icmp_ge (tgt := 158) hx hb dX5_rightsOf_51 (by decide) (fun c_51 => ?_) (fun c_51 => absurd (nI_le (by omega) (by omega)) c_51)
              refine lv_aload_n hx hb dX5_rightsOf_158 rfl (lv_at hl 0 rfl) ?_
              refine va_get (D := D) (ci := 6) (v := .ref (ad 5)) (C := RX5) (T := TX5) (N := 20) hx hb hts (fun _ h => List.mem_cons_of_mem _ (List.mem_append_right _ (h))) hown hK hP 0 rfl rfl 4 (by decide) (hts _ (List.mem_of_getElem? (i := 6) rfl)) (fun _ h9 => h9) rfl dX5_rightsOf_159 ?_
              refine lv_iload hx hb dX5_rightsOf_162 (lv_at hl 3 rfl) ?_
              refine ld_z (k := a) hx hb hK hP 5 1 rfl rfl (by omega) (by decide) dX5_rightsOf_164 ?_
              refine lv_if_eq (tgt := 183) hx hb dX5_rightsOf_165 (by decide) (fun c_165 => ?_) (fun c_165 => ?_)
              ·
                refine lv_iconst (v := 0) hx hb dX5_rightsOf_183 (by decide) ?_
                refine lv_istore (lv' := [(6, .int 0), (0, .ref (ad 0)), (1, .int (nI x)), (2, .int (nI y)), (5, .int (nI a)), (7, .int (nI (6 * a + (i2n (F 6 a))))), (3, .int ((mRow F x y a (i2n (F 6 a)) (s3, s4)).1)), (4, .int ((mRow F x y a (i2n (F 6 a)) (s3, s4)).2))]) hx hb dX5_rightsOf_184 hl (by decide) rfl (fun ls hl => ?_)
                refine lv_iload hx hb dX5_rightsOf_186 (lv_at hl 0 rfl) ?_
                refine lv_if_eq (tgt := 201) hx hb dX5_rightsOf_188 (by decide) (fun c_188 => ?_) (fun c_188 => absurd (by decide) c_188)
                refine lv_iload hx hb dX5_rightsOf_201 (lv_at hl 4 rfl) ?_
                refine lv_istore (lv' := [(5, .int (nI a)), (6, .int 0), (0, .ref (ad 0)), (1, .int (nI x)), (2, .int (nI y)), (7, .int (nI (6 * a + (i2n (F 6 a))))), (3, .int ((mRow F x y a (i2n (F 6 a)) (s3, s4)).1)), (4, .int ((mRow F x y a (i2n (F 6 a)) (s3, s4)).2))]) hx hb dX5_rightsOf_203 hl (by decide) rfl (fun ls hl => ?_)
                refine lv_goto (tgt := 24) hx hb dX5_rightsOf_205 (by decide) ?_
                exact E_24 a ((mRow F x y a (i2n (F 6 a)) (s3, s4)).1) ((mRow F x y a (i2n (F 6 a)) (s3, s4)).2) (by rw [← hq]; show _ = (if _ then _ else _); first | rw [if_pos c_165] | rw [if_neg c_165, if_pos c_176]) ls (lv_sub hl [2, 3, 4, 6, 7, 0, 1] rfl)
              ·
                refine lv_aload_n hx hb dX5_rightsOf_168 rfl (lv_at hl 0 rfl) ?_
                refine va_get (D := D) (ci := 6) (v := .ref (ad 3)) (C := RX5) (T := TX5) (N := 20) hx hb hts (fun _ h => List.mem_cons_of_mem _ (List.mem_append_right _ (h))) hown hK hP 0 rfl rfl 2 (by decide) (hts _ (List.mem_of_getElem? (i := 7) rfl)) (fun _ h9 => h9) rfl dX5_rightsOf_169 ?_
                refine lv_iload hx hb dX5_rightsOf_172 (lv_at hl 3 rfl) ?_
                refine ld_i (k := a) hx hb hK hP 3 0 rfl rfl (by omega) (by decide) dX5_rightsOf_174 ?_
                refine lv_iconst (v := (-1)) hx hb dX5_rightsOf_175 (by decide) ?_
                refine lv_icmp_eq (tgt := 183) hx hb dX5_rightsOf_176 (by decide) (fun c_176 => ?_) (fun c_176 => ?_)
                ·
                  refine lv_iconst (v := 0) hx hb dX5_rightsOf_183 (by decide) ?_
                  refine lv_istore (lv' := [(6, .int 0), (0, .ref (ad 0)), (1, .int (nI x)), (2, .int (nI y)), (5, .int (nI a)), (7, .int (nI (6 * a + (i2n (F 6 a))))), (3, .int ((mRow F x y a (i2n (F 6 a)) (s3, s4)).1)), (4, .int ((mRow F x y a (i2n (F 6 a)) (s3, s4)).2))]) hx hb dX5_rightsOf_184 hl (by decide) rfl (fun ls hl => ?_)
                  refine lv_iload hx hb dX5_rightsOf_186 (lv_at hl 0 rfl) ?_
                  refine lv_if_eq (tgt := 201) hx hb dX5_rightsOf_188 (by decide) (fun c_188 => ?_) (fun c_188 => absurd (by decide) c_188)
                  refine lv_iload hx hb dX5_rightsOf_201 (lv_at hl 4 rfl) ?_
                  refine lv_istore (lv' := [(5, .int (nI a)), (6, .int 0), (0, .ref (ad 0)), (1, .int (nI x)), (2, .int (nI y)), (7, .int (nI (6 * a + (i2n (F 6 a))))), (3, .int ((mRow F x y a (i2n (F 6 a)) (s3, s4)).1)), (4, .int ((mRow F x y a (i2n (F 6 a)) (s3, s4)).2))]) hx hb dX5_rightsOf_203 hl (by decide) rfl (fun ls hl => ?_)
                  refine lv_goto (tgt := 24) hx hb dX5_rightsOf_205 (by decide) ?_
                  exact E_24 a ((mRow F x y a (i2n (F 6 a)) (s3, s4)).1) ((mRow F x y a (i2n (F 6 a)) (s3, s4)).2) (by rw [← hq]; show _ = (if _ then _ else _); first | rw [if_pos c_165] | rw [if_neg c_165, if_pos c_176]) ls (lv_sub hl [2, 3, 4, 6, 7, 0, 1] rfl)
                ·
                  refine lv_iconst (v := 1) hx hb dX5_rightsOf_179 (by decide) ?_
                  refine lv_goto (tgt := 184) hx hb dX5_rightsOf_180 (by decide) ?_
                  refine lv_istore (lv' := [(6, .int 1), (0, .ref (ad 0)), (1, .int (nI x)), (2, .int (nI y)), (5, .int (nI a)), (7, .int (nI (6 * a + (i2n (F 6 a))))), (3, .int ((mRow F x y a (i2n (F 6 a)) (s3, s4)).1)), (4, .int ((mRow F x y a (i2n (F 6 a)) (s3, s4)).2))]) hx hb dX5_rightsOf_184 hl (by decide) rfl (fun ls hl => ?_)
                  refine lv_iload hx hb dX5_rightsOf_186 (lv_at hl 0 rfl) ?_
                  refine lv_if_eq (tgt := 201) hx hb dX5_rightsOf_188 (by decide) (fun c_188 => absurd c_188 (by decide)) (fun c_188 => ?_)
                  refine lv_aload_n hx hb dX5_rightsOf_191 rfl (lv_at hl 1 rfl) ?_
                  refine va_get (D := D) (ci := 6) (v := .ref (ad 3)) (C := RX5) (T := TX5) (N := 20) hx hb hts (fun _ h => List.mem_cons_of_mem _ (List.mem_append_right _ (h))) hown hK hP 0 rfl rfl 2 (by decide) (hts _ (List.mem_of_getElem? (i := 7) rfl)) (fun _ h9 => h9) rfl dX5_rightsOf_192 ?_
                  refine lv_iload hx hb dX5_rightsOf_195 (lv_at hl 4 rfl) ?_
                  refine ld_i (k := a) hx hb hK hP 3 0 rfl rfl (by omega) (by decide) dX5_rightsOf_197 ?_
                  refine top_eq (y := nI (i2n (F 3 a))) (by exact (hM.par ha c_176).1) ?_
                  refine lv_goto (tgt := 203) hx hb dX5_rightsOf_198 (by decide) ?_
                  refine lv_istore (lv' := [(5, .int (nI (i2n (F 3 a)))), (6, .int 1), (0, .ref (ad 0)), (1, .int (nI x)), (2, .int (nI y)), (7, .int (nI (6 * a + (i2n (F 6 a))))), (3, .int ((mRow F x y a (i2n (F 6 a)) (s3, s4)).1)), (4, .int ((mRow F x y a (i2n (F 6 a)) (s3, s4)).2))]) hx hb dX5_rightsOf_203 hl (by decide) rfl (fun ls hl => ?_)
                  refine lv_goto (tgt := 24) hx hb dX5_rightsOf_205 (by decide) ?_
                  exact ih_24 (i2n (F 3 a)) ((mRow F x y a (i2n (F 6 a)) (s3, s4)).1) ((mRow F x y a (i2n (F 6 a)) (s3, s4)).2) (by have := (hM.par ha c_176).2; omega) (by have := (hM.par ha c_176).2; omega) (by rw [← hq]; show _ = (if _ then _ else _); rw [if_neg c_165, if_neg c_176]) ls (lv_sub hl [2, 3, 4, 6, 7, 0, 1] rfl)
        exact L_36 (i2n (F 6 a) + 1) 0 (by omega) (by omega) _ (by rfl) _ (by rfl) ls (lv_sub hl [1, 2, 3, 6, 7, 0, 4, 5] rfl)
    exact L_24 (y + 1) y 0 0 (by exact hy) (by omega) (by rfl) ls (lv_sub hl [4, 5, 6, 3, 2, 1, 0] rfl)
  ·
    have eR : mRights F x y = 7 := if_pos c_7
    refine lv_bipush (v := 7) hx hb dX5_rightsOf_10 (by decide) ?_
    subst hQ
    exact W.iret (v := 7) hx hb hr (fun t ht _ => ⟨_, rfl, (by exact eR.symm), ht⟩) (fun _ h => absurd h List.not_mem_nil) dX5_rightsOf_12
