set_option maxHeartbeats 800000 in
set_option maxRecDepth 100000 in
theorem k_X1_levelsInherited (l : Launch) (D : va_G) (cI cZ cO : ClassId) {L : List Nat} {f : Nat → va_E} {tg : Nat → Nat} {AD : Nat → Nat → Nat} {mc : Nat → Int32} {F : Nat → Nat → Int32} {ik kp tu : Nat → Int32} {n : Nat} {he gv : Nat → Int32} {gp gb ob nm lo : Int32} (hR : Rep cI cO L f tg AD mc F ik kp tu n he gv gp gb ob nm lo) (x : Nat)  (hM : okC F n) (hxn : x < n) : Met l yX1_levelsInherited wsX1_levelsInherited (rmr 1 20) (va_Pc [.ref (AD 1 x)] (rdP D ([(cI, .int), (cI, .int), (cO, .object "java/lang/Object")]) (va_pl L f))) (vp_Si (fun r => r = nI (mLev F (x + 1) x))) 0 0 (fun _ => False) := by
  refine Met.ofW (cc := cX1_levelsInherited) (maxL := 3) (ret := (some .int)) (by decide) rfl ?_
  intro p e s m args below meth c s₁ B hml hv
  obtain ⟨hargs, hP, hK, hN⟩ := hv
  have hx := B.exec
  have hb := B.bytes
  have hr := B.returns
  have hts := atoms_spec (ws := wsX1_levelsInherited) B.pre
  have hown : s.vm.findClass RX1 = some m.cls := findClass_of_methodNamed B.named
  have hlocks := B.notSynchronized
  have hen : entryFrame m args 3 = entryFrame m ([.ref (AD 1 x)] : List Value).toArray 3 := by rw [hargs]
  rw [hen]
  have hl := lv_entry ([.ref (AD 1 x)]) (n := 3) (Nat.le_of_ble_eq_true rfl)
  rw [lg_entry_eq]
  generalize (lg_sl ([.ref (AD 1 x)]) ++ List.replicate (3 - (lg_sl ([.ref (AD 1 x)])).length) Slot.unset).toArray = ls at hl ⊢
  have hl : lv_has ls 3 [(0, .ref (AD 1 x))] := hl
  generalize hQ : MQ below (vp_Si (fun r => r = nI (mLev F (x + 1) x))) args s 0 0 (fun _ => False) = Q
  refine lv_iconst (v := 0) hx hb dX1_levelsInherited_0 (by decide) ?_
  refine lv_istore_n (lv' := [(1, .int 0), (0, .ref (AD 1 x))]) hx hb dX1_levelsInherited_1 rfl hl (by decide) rfl (fun ls hl => ?_)
  refine lv_aload_n hx hb dX1_levelsInherited_2 rfl (lv_at hl 1 rfl) ?_
  obtain ⟨kp1, ep1⟩ := (hR.fo (i := x) (by omega)).at
  refine va_csq (W.runV (As := []) (rest := []) ⟨hx, hb, hml, hown, hts⟩ (k_X1_inheritsFrom l D cI cZ cO hR x hxn) (cwV 0 hts gX1_levelsInherited_X1_inheritsFrom rfl rfl rfl (by decide +kernel) ⟨Nat.le_of_ble_eq_true rfl, Nat.le_of_ble_eq_true rfl⟩) ⟨rd_blind, va_recv hK hP (ci := 2) (q0 := kp1) rfl ep1, rd_pre hP hK hN⟩ rfl rfl hl.1 rfl (lv_room (Nat.le_of_ble_eq_true rfl)) dX1_levelsInherited_3 ⟨Nat.le_of_ble_eq_true rfl, Nat.le_of_ble_eq_true rfl⟩) (fun r er => ?_)
  subst er
  by_cases d1 : F 5 x = 0
  ·
    refine top_rn (by exact if_pos d1) ?_
    refine lv_astore_nN (lv' := [(2, .null), (1, .int 0), (0, .ref (AD 1 x))]) hx hb dX1_levelsInherited_6 rfl hl (by decide) rfl (fun ls hl => ?_)
    have E_7 : ∀ (c0 : Nat), (nI c0 = nI (mLev F (x + 1) x)) → ∀ ls : Array Slot, lv_has ls 3 [(0, .ref (AD 1 x)), (1, .int (nI c0)), (2, .null)] → W p l e (headSpec wsX1_levelsInherited (rmr 1 20)).room s m args below meth c s.heap [] 0 0 Q (F0 m 7 ls []) := by
      intro c0 hq ls hl
      refine lv_aload_nN hx hb dX1_levelsInherited_7 rfl (lv_at hl 2 rfl) ?_
      refine lv_ifnullN (tgt := 22) hx hb dX1_levelsInherited_8 (by decide) ?_
      refine lv_iload_n hx hb dX1_levelsInherited_22 rfl (lv_at hl 1 rfl) ?_
      subst hQ
      exact W.iret (v := nI c0) hx hb hr (fun t ht _ => ⟨_, rfl, (by exact hq), ht⟩) (fun _ h => absurd h List.not_mem_nil) dX1_levelsInherited_23
    exact E_7 0 (by first | rw [show mLev F (x + 1) x = 0 from if_pos d1] | rw [show mLev F (x + 1) x = 0 from (if_neg d1).trans (if_pos d2)]) ls (lv_sub hl [2, 1, 0] rfl)
  ·
    by_cases d2 : F 3 x = -1
    ·
      refine top_rn (by exact (if_neg d1).trans (if_pos d2)) ?_
      refine lv_astore_nN (lv' := [(2, .null), (1, .int 0), (0, .ref (AD 1 x))]) hx hb dX1_levelsInherited_6 rfl hl (by decide) rfl (fun ls hl => ?_)
      have E_7 : ∀ (c0 : Nat), (nI c0 = nI (mLev F (x + 1) x)) → ∀ ls : Array Slot, lv_has ls 3 [(0, .ref (AD 1 x)), (1, .int (nI c0)), (2, .null)] → W p l e (headSpec wsX1_levelsInherited (rmr 1 20)).room s m args below meth c s.heap [] 0 0 Q (F0 m 7 ls []) := by
        intro c0 hq ls hl
        refine lv_aload_nN hx hb dX1_levelsInherited_7 rfl (lv_at hl 2 rfl) ?_
        refine lv_ifnullN (tgt := 22) hx hb dX1_levelsInherited_8 (by decide) ?_
        refine lv_iload_n hx hb dX1_levelsInherited_22 rfl (lv_at hl 1 rfl) ?_
        subst hQ
        exact W.iret (v := nI c0) hx hb hr (fun t ht _ => ⟨_, rfl, (by exact hq), ht⟩) (fun _ h => absurd h List.not_mem_nil) dX1_levelsInherited_23
      exact E_7 0 (by first | rw [show mLev F (x + 1) x = 0 from if_pos d1] | rw [show mLev F (x + 1) x = 0 from (if_neg d1).trans (if_pos d2)]) ls (lv_sub hl [2, 1, 0] rfl)
    ·
      refine top_rf (q := AD 1 (i2n (F 3 x))) (by exact (if_neg d1).trans (if_neg d2)) ?_
      refine lv_astore_n (lv' := [(2, .ref (AD 1 (i2n (F 3 x)))), (1, .int 0), (0, .ref (AD 1 x))]) hx hb dX1_levelsInherited_6 rfl hl (by decide) rfl (fun ls hl => ?_)
      have E_7 : ∀ (c0 : Nat), (nI c0 = nI (mLev F (x + 1) x)) → ∀ ls : Array Slot, lv_has ls 3 [(0, .ref (AD 1 x)), (1, .int (nI c0)), (2, .null)] → W p l e (headSpec wsX1_levelsInherited (rmr 1 20)).room s m args below meth c s.heap [] 0 0 Q (F0 m 7 ls []) := by
        intro c0 hq ls hl
        refine lv_aload_nN hx hb dX1_levelsInherited_7 rfl (lv_at hl 2 rfl) ?_
        refine lv_ifnullN (tgt := 22) hx hb dX1_levelsInherited_8 (by decide) ?_
        refine lv_iload_n hx hb dX1_levelsInherited_22 rfl (lv_at hl 1 rfl) ?_
        subst hQ
        exact W.iret (v := nI c0) hx hb hr (fun t ht _ => ⟨_, rfl, (by exact hq), ht⟩) (fun _ h => absurd h List.not_mem_nil) dX1_levelsInherited_23
      have L_7 : ∀ fz : Nat, ∀ (a c0 : Nat), (a < n) → (a < fz) → (nI (c0 + 1 + mLev F fz a) = nI (mLev F (x + 1) x)) → ∀ ls : Array Slot, lv_has ls 3 [(0, .ref (AD 1 x)), (1, .int (nI c0)), (2, .ref (AD 1 a))] → W p l e (headSpec wsX1_levelsInherited (rmr 1 20)).room s m args below meth c s.heap [] 0 0 Q (F0 m 7 ls []) := by
        intro fz
        induction fz with
        | zero => intro a c0 ha hf hq ls hl; exact absurd hf (Nat.not_lt_zero _)
        | succ fz ih_7 =>
          intro a c0 ha hf hq ls hl
          refine lv_aload_n hx hb dX1_levelsInherited_7 rfl (lv_at hl 2 rfl) ?_
          refine lv_ifnull hx hb dX1_levelsInherited_8 ?_
          refine lv_iinc (v := nI (c0 + 1)) (lv' := [(1, .int (nI (c0 + 1))), (0, .ref (AD 1 x)), (2, .ref (AD 1 a))]) hx hb dX1_levelsInherited_11 hl (k := 1) rfl (by exact iinc_n _) (by decide) rfl (fun ls hl => ?_)
          refine lv_aload_n hx hb dX1_levelsInherited_14 rfl (lv_at hl 2 rfl) ?_
          obtain ⟨kp2, ep2⟩ := (hR.fo (i := a) (by omega)).at
          refine va_csq (W.runV (As := []) (rest := []) ⟨hx, hb, hml, hown, hts⟩ (k_X1_inheritsFrom l D cI cZ cO hR a ha) (cwV 0 hts gX1_levelsInherited_X1_inheritsFrom rfl rfl rfl (by decide +kernel) ⟨Nat.le_of_ble_eq_true rfl, Nat.le_of_ble_eq_true rfl⟩) ⟨rd_blind, va_recv hK hP (ci := 2) (q0 := kp2) rfl ep2, rd_pre hP hK hN⟩ rfl rfl hl.1 rfl (lv_room (Nat.le_of_ble_eq_true rfl)) dX1_levelsInherited_15 ⟨Nat.le_of_ble_eq_true rfl, Nat.le_of_ble_eq_true rfl⟩) (fun r er => ?_)
          subst er
          by_cases d1 : F 5 a = 0
          ·
            refine top_rn (by exact if_pos d1) ?_
            refine lv_astore_nN (lv' := [(2, .null), (1, .int (nI (c0 + 1))), (0, .ref (AD 1 x))]) hx hb dX1_levelsInherited_18 rfl hl (by decide) rfl (fun ls hl => ?_)
            refine lv_goto (tgt := 7) hx hb dX1_levelsInherited_19 (by decide) ?_
            exact E_7 (c0 + 1) (by rw [← hq]; first | rw [show mLev F (fz + 1) a = 0 from if_pos d1] | rw [show mLev F (fz + 1) a = 0 from (if_neg d1).trans (if_pos d2)]) ls (lv_sub hl [2, 1, 0] rfl)
          ·
            by_cases d2 : F 3 a = -1
            ·
              refine top_rn (by exact (if_neg d1).trans (if_pos d2)) ?_
              refine lv_astore_nN (lv' := [(2, .null), (1, .int (nI (c0 + 1))), (0, .ref (AD 1 x))]) hx hb dX1_levelsInherited_18 rfl hl (by decide) rfl (fun ls hl => ?_)
              refine lv_goto (tgt := 7) hx hb dX1_levelsInherited_19 (by decide) ?_
              exact E_7 (c0 + 1) (by rw [← hq]; first | rw [show mLev F (fz + 1) a = 0 from if_pos d1] | rw [show mLev F (fz + 1) a = 0 from (if_neg d1).trans (if_pos d2)]) ls (lv_sub hl [2, 1, 0] rfl)
            ·
              refine top_rf (q := AD 1 (i2n (F 3 a))) (by exact (if_neg d1).trans (if_neg d2)) ?_
              refine lv_astore_n (lv' := [(2, .ref (AD 1 (i2n (F 3 a)))), (1, .int (nI (c0 + 1))), (0, .ref (AD 1 x))]) hx hb dX1_levelsInherited_18 rfl hl (by decide) rfl (fun ls hl => ?_)
              refine lv_goto (tgt := 7) hx hb dX1_levelsInherited_19 (by decide) ?_
              exact ih_7 (i2n (F 3 a)) (c0 + 1) (by have := (hM.par ha d2).2; omega) (by have := (hM.par ha d2).2; omega) (by rw [← hq, show mLev F (fz + 1) a = mLev F fz (i2n (F 3 a)) + 1 from (if_neg d1).trans (if_neg d2)]; congr 1; omega) ls (lv_sub hl [2, 1, 0] rfl)
      exact L_7 x (i2n (F 3 x)) 0 (by have := (hM.par hxn d2).2; omega) (by exact (hM.par hxn d2).2) (by rw [show mLev F (x + 1) x = mLev F x (i2n (F 3 x)) + 1 from (if_neg d1).trans (if_neg d2), Nat.zero_add, Nat.add_comm]) ls (lv_sub hl [2, 1, 0] rfl)

set_option maxHeartbeats 800000 in
set_option maxRecDepth 100000 in
theorem k_X1_above (l : Launch) (D : va_G) (cI cZ cO : ClassId) {L : List Nat} {f : Nat → va_E} {tg : Nat → Nat} {AD : Nat → Nat → Nat} {mc : Nat → Int32} {F : Nat → Nat → Int32} {ik kp tu : Nat → Int32} {n : Nat} {he gv : Nat → Int32} {gp gb ob nm lo : Int32} (hR : Rep cI cO L f tg AD mc F ik kp tu n he gv gp gb ob nm lo) (x : Nat) (y : Nat)  (hM : okC F n) (hxn : x < n) (hyl : y ≤ mLev F (x + 1) x) : Met l yX1_above wsX1_above (rmr 0 0) (va_Pc [.ref (AD 1 x), .int (nI y)] (rdP D ([(cI, .int), (cI, .int), (cO, .object "java/lang/Object")]) (va_pl L f))) (va_Sq (fun r => r = some (AD 1 (anc F x y)))) 0 0 (fun _ => False) := by
  refine Met.ofW (cc := cX1_above) (maxL := 4) (ret := (some (.object "ShareMover$Folder"))) (by decide) rfl ?_
  intro p e s m args below meth c s₁ B hml hv
  obtain ⟨hargs, hP, hK, hN⟩ := hv
  have hx := B.exec
  have hb := B.bytes
  have hr := B.returns
  have hts := atoms_spec (ws := wsX1_above) B.pre
  have hown : s.vm.findClass RX1 = some m.cls := findClass_of_methodNamed B.named
  have hlocks := B.notSynchronized
  have hen : entryFrame m args 4 = entryFrame m ([.ref (AD 1 x), .int (nI y)] : List Value).toArray 4 := by rw [hargs]
  rw [hen]
  have hl := lv_entry ([.ref (AD 1 x), .int (nI y)]) (n := 4) (Nat.le_of_ble_eq_true rfl)
  rw [lg_entry_eq]
  generalize (lg_sl ([.ref (AD 1 x), .int (nI y)]) ++ List.replicate (4 - (lg_sl ([.ref (AD 1 x), .int (nI y)])).length) Slot.unset).toArray = ls at hl ⊢
  have hl : lv_has ls 4 [(0, .ref (AD 1 x)), (1, .int (nI y))] := hl
  generalize hQ : MQ below (va_Sq (fun r => r = some (AD 1 (anc F x y)))) args s 0 0 (fun _ => False) = Q
  have hnn := hM.2.1.2
  have hlx := mLev_le hM (x + 1) x hxn
  refine lv_aload_n hx hb dX1_above_0 rfl (lv_at hl 0 rfl) ?_
  refine lv_astore_n (lv' := [(2, .ref (AD 1 x)), (0, .ref (AD 1 x)), (1, .int (nI y))]) hx hb dX1_above_1 rfl hl (by decide) rfl (fun ls hl => ?_)
  refine lv_iconst (v := 0) hx hb dX1_above_2 (by decide) ?_
  refine lv_istore_n (lv' := [(3, .int 0), (2, .ref (AD 1 x)), (0, .ref (AD 1 x)), (1, .int (nI y))]) hx hb dX1_above_3 rfl hl (by decide) rfl (fun ls hl => ?_)
  have L_4 : ∀ fz : Nat, ∀ (i : Nat), (i ≤ y) → (y - i < fz) → ∀ ls : Array Slot, lv_has ls 4 [(0, .ref (AD 1 x)), (1, .int (nI y)), (2, .ref (AD 1 (anc F x i))), (3, .int (nI i))] → W p l e (headSpec wsX1_above (rmr 0 0)).room s m args below meth c s.heap [] 0 0 Q (F0 m 4 ls []) := by
    intro fz
    induction fz with
    | zero => intro i hi hf ls hl; exact absurd hf (Nat.not_lt_zero _)
    | succ fz ih_4 =>
      intro i hi hf ls hl
      refine lv_iload_n hx hb dX1_above_4 rfl (lv_at hl 3 rfl) ?_
      refine lv_iload_n hx hb dX1_above_5 rfl (lv_at hl 1 rfl) ?_
      refine lv_icmp_ge (tgt := 27) hx hb dX1_above_6 (by decide) (fun c_6 => ?_) (fun c_6 => ?_)
      ·
        refine lv_aload_n hx hb dX1_above_27 rfl (lv_at hl 2 rfl) ?_
        subst hQ
        exact W.aret (v := va_rf (some (AD 1 (anc F x i)))) hx hb hr (Or.inl ⟨_, rfl⟩) (va_rf_or _) (fun t ht _ => ⟨some (AD 1 (anc F x i)), rfl, (by show some (AD 1 (anc F x i)) = some (AD 1 (anc F x y)); rw [show i = y from Nat.le_antisymm hi ((nI_leI (by omega) (by omega)).mp c_6)]), ht⟩) (fun _ h => absurd h List.not_mem_nil) dX1_above_28
      ·
        have h_i : i < y := by
          rcases Nat.lt_or_ge i y with q | q
          · exact q
          · exact absurd (nI_le q (by omega)) c_6
        have han := anc_lt hM hxn (show i ≤ mLev F (x + 1) x by omega)
        refine lv_aload_n hx hb dX1_above_9 rfl (lv_at hl 2 rfl) ?_
        obtain ⟨kp1, ep1⟩ := (hR.fo (i := anc F x i) (by omega)).at
        refine va_get (D := D) (ci := 2) (v := va_rf (parR AD F (anc F x i))) (C := RX1) (T := TX1) (N := 7) hx hb hts (fun _ h => List.mem_cons_of_mem _ (List.mem_append_right _ (h))) hown hK hP kp1 ep1 rfl 0 (by decide) (hts _ (List.mem_of_getElem? (i := 1) rfl)) (fun _ h9 => h9) rfl dX1_above_10 ?_
        refine top_rf (q := AD 1 (anc F x (i + 1))) (by exact anc_par hM hxn (by omega)) ?_
        refine lv_ifnull hx hb dX1_above_13 ?_
        refine lv_aload_n hx hb dX1_above_16 rfl (lv_at hl 2 rfl) ?_
        obtain ⟨kp2, ep2⟩ := (hR.fo (i := anc F x i) (by omega)).at
        refine va_get (D := D) (ci := 2) (v := va_rf (parR AD F (anc F x i))) (C := RX1) (T := TX1) (N := 7) hx hb hts (fun _ h => List.mem_cons_of_mem _ (List.mem_append_right _ (h))) hown hK hP kp2 ep2 rfl 0 (by decide) (hts _ (List.mem_of_getElem? (i := 1) rfl)) (fun _ h9 => h9) rfl dX1_above_17 ?_
        refine top_rf (q := AD 1 (anc F x (i + 1))) (by exact anc_par hM hxn (by omega)) ?_
        refine lv_astore_n (lv' := [(2, .ref (AD 1 (anc F x (i + 1)))), (0, .ref (AD 1 x)), (1, .int (nI y)), (3, .int (nI i))]) hx hb dX1_above_20 rfl hl (by decide) rfl (fun ls hl => ?_)
        refine lv_iinc (v := nI (i + 1)) (lv' := [(3, .int (nI (i + 1))), (2, .ref (AD 1 (anc F x (i + 1)))), (0, .ref (AD 1 x)), (1, .int (nI y))]) hx hb dX1_above_21 hl (k := 3) rfl (by exact iinc_n _) (by decide) rfl (fun ls hl => ?_)
        refine lv_goto (tgt := 4) hx hb dX1_above_24 (by decide) ?_
        exact ih_4 (i + 1) (by omega) (by omega) ls (lv_sub hl [2, 3, 1, 0] rfl)
  exact L_4 (y + 1) 0 (by omega) (by omega) ls (lv_sub hl [2, 3, 1, 0] rfl)

set_option maxHeartbeats 800000 in
set_option maxRecDepth 100000 in
theorem k_X4_rightsByOverruling (l : Launch) (D : va_G) (cI cZ cO : ClassId) {L : List Nat} {f : Nat → va_E} {tg : Nat → Nat} {AD : Nat → Nat → Nat} {mc : Nat → Int32} {F : Nat → Nat → Int32} {ik kp tu : Nat → Int32} {n : Nat} {he gv : Nat → Int32} {gp gb ob nm lo : Int32} (hR : Rep cI cO L f tg AD mc F ik kp tu n he gv gp gb ob nm lo) (x : Nat) (y : Nat)  (hM : okC F n) (hyn : y < n) : Met l yX4_rightsByOverruling wsX4_rightsByOverruling (rmr 3 64) (va_Pc [.ref (AD 0 0), .int (nI x), .ref (AD 1 y)] (rdP D ([(cI, .int), (cI, .int), (cO, .object "java/lang/Object")]) (va_pl L f))) (vp_Si (fun r => r = mRights F x y)) 0 0 (fun _ => False) := by
  refine Met.ofW (cc := cX4_rightsByOverruling) (maxL := 8) (ret := (some .int)) (by decide) rfl ?_
  intro p e s m args below meth c s₁ B hml hv
  obtain ⟨hargs, hP, hK, hN⟩ := hv
  have hx := B.exec
  have hb := B.bytes
  have hr := B.returns
  have hts := atoms_spec (ws := wsX4_rightsByOverruling) B.pre
  have hown : s.vm.findClass RX4 = some m.cls := findClass_of_methodNamed B.named
  have hlocks := B.notSynchronized
  have hen : entryFrame m args 8 = entryFrame m ([.ref (AD 0 0), .int (nI x), .ref (AD 1 y)] : List Value).toArray 8 := by rw [hargs]
  rw [hen]
  have hl := lv_entry ([.ref (AD 0 0), .int (nI x), .ref (AD 1 y)]) (n := 8) (Nat.le_of_ble_eq_true rfl)
  rw [lg_entry_eq]
  generalize (lg_sl ([.ref (AD 0 0), .int (nI x), .ref (AD 1 y)]) ++ List.replicate (8 - (lg_sl ([.ref (AD 0 0), .int (nI x), .ref (AD 1 y)])).length) Slot.unset).toArray = ls at hl ⊢
  have hl : lv_has ls 8 [(0, .ref (AD 0 0)), (1, .int (nI x)), (2, .ref (AD 1 y))] := hl
  generalize hQ : MQ below (vp_Si (fun r => r = mRights F x y)) args s 0 0 (fun _ => False) = Q
  have hnn := hM.2.1.2
  have hly := mLev_le hM (y + 1) y hyn
  refine lv_iload_n hx hb dX4_rightsByOverruling_0 rfl (lv_at hl 1 rfl) ?_
  refine lv_aload_n hx hb dX4_rightsByOverruling_1 rfl (lv_at hl 2 rfl) ?_
  obtain ⟨kp1, ep1⟩ := (hR.fo (i := y) (by omega)).at
  refine va_get (D := D) (ci := 2) (v := .int (F 4 y)) (C := RX1) (T := TX1) (N := 7) hx hb hts (fun _ h => List.mem_cons_of_mem _ (List.mem_append_left _ (List.mem_append_left _ (List.mem_append_left _ (List.mem_append_left _ (List.mem_append_right _ (h))))))) hown hK hP kp1 ep1 rfl 3 (by decide) (hts _ (List.mem_of_getElem? (i := 1) rfl)) (fun _ h9 => h9) rfl dX4_rightsByOverruling_2 ?_
  refine lv_icmp_ne (tgt := 11) hx hb dX4_rightsByOverruling_5 (by decide) (fun c_5 => ?_) (fun c_5 => ?_)
  ·
    have eR := mRights_back hM (p := x) hyn (fun h => c_5 h.symm)
    refine lv_iconst (v := 0) hx hb dX4_rightsByOverruling_11 (by decide) ?_
    refine lv_istore_n (lv' := [(3, .int 0), (0, .ref (AD 0 0)), (1, .int (nI x)), (2, .ref (AD 1 y))]) hx hb dX4_rightsByOverruling_12 rfl hl (by decide) rfl (fun ls hl => ?_)
    refine lv_aload_n hx hb dX4_rightsByOverruling_13 rfl (lv_at hl 3 rfl) ?_
    obtain ⟨kp2, ep2⟩ := (hR.fo (i := y) (by omega)).at
    refine vp_callSi (W.runV (As := []) (rest := []) ⟨hx, hb, hml, hown, hts⟩ (k_X1_levelsInherited l D cI cZ cO hR y hM hyn) (cwV 0 hts gX4_rightsByOverruling_X1_levelsInherited rfl rfl rfl (by decide +kernel) ⟨Nat.le_of_ble_eq_true rfl, Nat.le_of_ble_eq_true rfl⟩) ⟨rd_blind, va_recv hK hP (ci := 2) (q0 := kp2) rfl ep2, rd_pre hP hK hN⟩ rfl rfl hl.1 rfl (lv_room (Nat.le_of_ble_eq_true rfl)) dX4_rightsByOverruling_14 ⟨Nat.le_of_ble_eq_true rfl, Nat.le_of_ble_eq_true rfl⟩) (fun r er => ?_)
    subst er
    refine lv_istore (lv' := [(4, .int (nI (mLev F (y + 1) y))), (3, .int 0), (0, .ref (AD 0 0)), (1, .int (nI x)), (2, .ref (AD 1 y))]) hx hb dX4_rightsByOverruling_17 hl (by decide) rfl (fun ls hl => ?_)
    have L_19 : ∀ k : Nat, ∀ w : Int32, w = nI k + (-1) → ∀ (v : Int32), (k ≤ mLev F (y + 1) y + 1) → (bSeg F x y 0 k v = bSeg F x y 0 (mLev F (y + 1) y + 1) 0) → ∀ ls : Array Slot, lv_has ls 8 [(0, .ref (AD 0 0)), (1, .int (nI x)), (2, .ref (AD 1 y)), (3, .int v), (4, .int w)] → W p l e (headSpec wsX4_rightsByOverruling (rmr 3 64)).room s m args below meth c s.heap [] 0 0 Q (F0 m 19 ls []) := by
      intro k
      induction k with
      | zero =>
        intro w hw v hkl1 hq ls hl
        subst hw
        refine lv_iload hx hb dX4_rightsByOverruling_19 (lv_at hl 4 rfl) ?_
        refine lv_if_lt (tgt := 132) hx hb dX4_rightsByOverruling_21 (by decide) (fun c_21 => ?_) (fun c_21 => absurd (by decide) c_21)
        refine lv_iload_n hx hb dX4_rightsByOverruling_132 rfl (lv_at hl 3 rfl) ?_
        subst hQ
        exact W.iret (v := v) hx hb hr (fun t ht _ => ⟨_, rfl, (by rw [eR, ← hq]; rfl), ht⟩) (fun _ h => absurd h List.not_mem_nil) dX4_rightsByOverruling_133
      | succ k ih_19 =>
        intro w hw v hkl1 hq ls hl
        subst hw
        have hwk : nI (k + 1) + (-1) = nI k := pk_m1 k
        rw [hwk] at hl
        have hkl : k ≤ mLev F (y + 1) y := by omega
        have han := anc_lt hM hyn hkl
        have hlen := (hM.len han).2
        have hz : bSeg F x y 0 k (bRow F x y (anc F y k) (i2n (F 6 (anc F y k))) v) = bSeg F x y 0 (mLev F (y + 1) y + 1) 0 := by rw [← hq]; show _ = bSeg F x y 0 k (bRow F x y (anc F y (0 + k)) (i2n (F 6 (anc F y (0 + k)))) v); rw [Nat.zero_add]
        refine lv_iload hx hb dX4_rightsByOverruling_19 (lv_at hl 4 rfl) ?_
        refine lv_if_lt (tgt := 132) hx hb dX4_rightsByOverruling_21 (by decide) (fun c_21 => absurd c_21 (nI_pos (by omega))) (fun c_21 => ?_)
        refine lv_aload_n hx hb dX4_rightsByOverruling_24 rfl (lv_at hl 2 rfl) ?_
        refine lv_iload hx hb dX4_rightsByOverruling_25 (lv_at hl 4 rfl) ?_
        obtain ⟨kp3, ep3⟩ := (hR.fo (i := y) (by omega)).at
        refine va_csq (W.runV (As := [.int (nI k)]) (rest := []) ⟨hx, hb, hml, hown, hts⟩ (k_X1_above l D cI cZ cO hR y k hM hyn hkl) (cwV 1 hts gX4_rightsByOverruling_X1_above rfl rfl rfl (by decide +kernel) ⟨Nat.le_of_ble_eq_true rfl, Nat.le_of_ble_eq_true rfl⟩) ⟨rd_blind, va_recv hK hP (ci := 2) (q0 := kp3) rfl ep3, rd_pre hP hK hN⟩ rfl rfl hl.1 rfl (lv_room (Nat.le_of_ble_eq_true rfl)) dX4_rightsByOverruling_27 ⟨Nat.le_of_ble_eq_true rfl, Nat.le_of_ble_eq_true rfl⟩) (fun r er => ?_)
        subst er
        refine top_rf (q := AD 1 (anc F y k)) (by rfl) ?_
        refine lv_astore (lv' := [(5, .ref (AD 1 (anc F y k))), (0, .ref (AD 0 0)), (1, .int (nI x)), (2, .ref (AD 1 y)), (3, .int v), (4, .int (nI k))]) hx hb dX4_rightsByOverruling_30 hl (by decide) rfl (fun ls hl => ?_)
        refine lv_aload hx hb dX4_rightsByOverruling_32 (lv_at hl 0 rfl) ?_
        obtain ⟨kp4, ep4⟩ := (hR.fo (i := anc F y k) (by omega)).at
        refine va_get (D := D) (ci := 2) (v := .ref (AD 2 (anc F y k))) (C := RX1) (T := TX1) (N := 7) hx hb hts (fun _ h => List.mem_cons_of_mem _ (List.mem_append_left _ (List.mem_append_left _ (List.mem_append_left _ (List.mem_append_left _ (List.mem_append_right _ (h))))))) hown hK hP kp4 ep4 rfl 1 (by decide) (hts _ (List.mem_of_getElem? (i := 2) rfl)) (fun _ h9 => h9) rfl dX4_rightsByOverruling_34 ?_
        obtain ⟨kp5, ep5⟩ := (hR.ro (i := anc F y k) (by omega)).at
        obtain ⟨kp6, ep6⟩ := (hR.ro (i := anc F y k) (by omega)).at
        refine vp_callSi (W.runV (As := []) (rest := []) ⟨hx, hb, hml, hown, hts⟩ (k_Jx4a65c_size_8abf5 l D cI cZ cO ep5 ) (cwV 0 hts gX4_rightsByOverruling_Jx4a65c_size_8abf5 rfl rfl rfl (by decide +kernel) ⟨Nat.le_of_ble_eq_true rfl, Nat.le_of_ble_eq_true rfl⟩) ⟨rd_blind, va_recv hK hP (ci := 0) (q0 := kp6) rfl ep6, rd_pre hP hK hN⟩ rfl rfl hl.1 rfl (lv_room (Nat.le_of_ble_eq_true rfl)) dX4_rightsByOverruling_37 ⟨Nat.le_of_ble_eq_true rfl, Nat.le_of_ble_eq_true rfl⟩) (fun r er => ?_)
        subst er
        refine top_eq (y := nI (i2n (F 6 (anc F y k)))) (by exact (hM.len han).1) ?_
        refine lv_iconst (v := 1) hx hb dX4_rightsByOverruling_40 (by decide) ?_
        refine lv_isub hx hb dX4_rightsByOverruling_41 ?_
        refine lv_istore (lv' := [(6, .int ((nI (i2n (F 6 (anc F y k)))) - 1)), (5, .ref (AD 1 (anc F y k))), (0, .ref (AD 0 0)), (1, .int (nI x)), (2, .ref (AD 1 y)), (3, .int v), (4, .int (nI k))]) hx hb dX4_rightsByOverruling_42 hl (by decide) rfl (fun ls hl => ?_)
        have L_44 : ∀ kk : Nat, ∀ w : Int32, w = nI kk + (-1) → ∀ (u : Int32), (kk ≤ i2n (F 6 (anc F y k))) → (bRow F x y (anc F y k) kk u = bRow F x y (anc F y k) (i2n (F 6 (anc F y k))) v) → ∀ ls : Array Slot, lv_has ls 8 [(0, .ref (AD 0 0)), (1, .int (nI x)), (2, .ref (AD 1 y)), (4, .int (nI k)), (5, .ref (AD 1 (anc F y k))), (3, .int u), (6, .int w)] → W p l e (headSpec wsX4_rightsByOverruling (rmr 3 64)).room s m args below meth c s.heap [] 0 0 Q (F0 m 44 ls []) := by
          intro kk
          induction kk with
          | zero =>
            intro w hw u hkk1 hu ls hl
            subst hw
            have hu : u = bRow F x y (anc F y k) (i2n (F 6 (anc F y k))) v := hu
            refine lv_iload hx hb dX4_rightsByOverruling_44 (lv_at hl 6 rfl) ?_
            refine lv_if_lt (tgt := 126) hx hb dX4_rightsByOverruling_46 (by decide) (fun c_46 => ?_) (fun c_46 => absurd (by decide) c_46)
            refine lv_iinc (v := (nI k) + (-1)) (lv' := [(4, .int ((nI k) + (-1))), (0, .ref (AD 0 0)), (1, .int (nI x)), (2, .ref (AD 1 y)), (5, .ref (AD 1 (anc F y k))), (3, .int u), (6, .int (nI 0 + (-1)))]) hx hb dX4_rightsByOverruling_126 hl (k := 3) rfl (by exact ii_m1 _) (by decide) rfl (fun ls hl => ?_)
            refine lv_goto (tgt := 19) hx hb dX4_rightsByOverruling_129 (by decide) ?_
            exact ih_19 _ rfl u (by omega) (by rw [hu]; exact hz) ls (lv_sub hl [1, 2, 3, 5, 0] rfl)
          | succ kk ih_44 =>
            intro w hw u hkk1 hu ls hl
            subst hw
            have hwk : nI (kk + 1) + (-1) = nI kk := pk_m1 kk
            rw [hwk] at hl
            have hkk : kk < i2n (F 6 (anc F y k)) := by omega
            refine lv_iload hx hb dX4_rightsByOverruling_44 (lv_at hl 6 rfl) ?_
            refine lv_if_lt (tgt := 126) hx hb dX4_rightsByOverruling_46 (by decide) (fun c_46 => absurd c_46 (nI_pos (by omega))) (fun c_46 => ?_)
            refine lv_aload hx hb dX4_rightsByOverruling_49 (lv_at hl 4 rfl) ?_
            obtain ⟨kp7, ep7⟩ := (hR.fo (i := anc F y k) (by omega)).at
            refine va_get (D := D) (ci := 2) (v := .ref (AD 2 (anc F y k))) (C := RX1) (T := TX1) (N := 7) hx hb hts (fun _ h => List.mem_cons_of_mem _ (List.mem_append_left _ (List.mem_append_left _ (List.mem_append_left _ (List.mem_append_left _ (List.mem_append_right _ (h))))))) hown hK hP kp7 ep7 rfl 1 (by decide) (hts _ (List.mem_of_getElem? (i := 2) rfl)) (fun _ h9 => h9) rfl dX4_rightsByOverruling_51 ?_
            refine lv_iload hx hb dX4_rightsByOverruling_54 (lv_at hl 6 rfl) ?_
            obtain ⟨kp8, ep8⟩ := (hR.ro (i := anc F y k) (by omega)).at
            obtain ⟨qp9, hhp9, hvp9⟩ := hR.da (i := anc F y k) (by omega) (by omega)
            obtain ⟨kp9, ep9⟩ := (hhp9).at
            obtain ⟨kp10, ep10⟩ := (hR.ro (i := anc F y k) (by omega)).at
            refine va_csq (W.runV (As := [.int (nI kk)]) (rest := []) ⟨hx, hb, hml, hown, hts⟩ (k_Jx4a65c_get_915e3 l D cI cZ cO ep8 ep9 kk (i2n (F 6 (anc F y k))) (hM.len han).1 hkk (Nat.le_trans (hM.len han).2 (by decide)) (by decide)) (cwV 1 hts gX4_rightsByOverruling_Jx4a65c_get_915e3 rfl rfl rfl (by decide +kernel) ⟨Nat.le_of_ble_eq_true rfl, Nat.le_of_ble_eq_true rfl⟩) ⟨rd_blind, va_recv hK hP (ci := 0) (q0 := kp10) rfl ep10, rd_pre hP hK hN⟩ rfl rfl hl.1 rfl (lv_room (Nat.le_of_ble_eq_true rfl)) dX4_rightsByOverruling_56 ⟨Nat.le_of_ble_eq_true rfl, Nat.le_of_ble_eq_true rfl⟩) (fun r er => ?_)
            subst er
            refine top_rf (q := AD 5 (6 * (anc F y k) + kk)) (by exact hvp9 kk hkk) ?_
            obtain ⟨kp11, ep11⟩ := (hR.en (i := (anc F y k)) (j := kk) (by omega) (by omega)).at
            refine va_castS (nm := RX0) (cC := D.1 1) hx hb hown (hts _ (List.mem_of_getElem? (i := 3) rfl)) (hK.1 1 _ rfl).2 (va_recv hK hP (ci := 1) (q0 := kp11) rfl ep11) dX4_rightsByOverruling_59 ?_
            refine lv_astore (lv' := [(7, .ref (AD 5 (6 * (anc F y k) + kk))), (0, .ref (AD 0 0)), (1, .int (nI x)), (2, .ref (AD 1 y)), (4, .int (nI k)), (5, .ref (AD 1 (anc F y k))), (3, .int u), (6, .int (nI kk))]) hx hb dX4_rightsByOverruling_62 hl (by decide) rfl (fun ls hl => ?_)
            refine lv_aload hx hb dX4_rightsByOverruling_64 (lv_at hl 0 rfl) ?_
            refine lv_iload hx hb dX4_rightsByOverruling_66 (lv_at hl 4 rfl) ?_
            have J_76 : ∀ (z0 : Int32), z0 = (if (nI k) = 0 then 1 else 0) → ∀ ls : Array Slot, lv_has ls 8 [(0, .ref (AD 0 0)), (1, .int (nI x)), (2, .ref (AD 1 y)), (3, .int u), (4, .int (nI k)), (5, .ref (AD 1 (anc F y k))), (6, .int (nI kk)), (7, .ref (AD 5 (6 * (anc F y k) + kk)))] → W p l e (headSpec wsX4_rightsByOverruling (rmr 3 64)).room s m args below meth c s.heap [] 0 0 Q (F0 m 76 ls [.int z0, .ref (AD 5 (6 * (anc F y k) + kk))]) := by
              intro z0 ez0 ls hl
              subst ez0
              refine top_eq (y := b2i (decide (k = 0))) (by exact z_dec k (by omega)) ?_
              obtain ⟨kp12, ep12⟩ := (hR.en (i := (anc F y k)) (j := kk) (by omega) (by omega)).at
              obtain ⟨kp13, ep13⟩ := (hR.en (i := (anc F y k)) (j := kk) (by omega) (by omega)).at
              refine vp_callSi (W.runV (As := [.int (b2i (decide (k = 0)))]) (rest := []) ⟨hx, hb, hml, hown, hts⟩ (k_X0_counts l D cI cZ cO ep12 (decide (k = 0))) (cwV 1 hts gX4_rightsByOverruling_X0_counts rfl rfl rfl (by decide +kernel) ⟨Nat.le_of_ble_eq_true rfl, Nat.le_of_ble_eq_true rfl⟩) ⟨rd_blind, va_recv hK hP (ci := 1) (q0 := kp13) rfl ep13, rd_pre hP hK hN⟩ rfl rfl hl.1 rfl (lv_room (Nat.le_of_ble_eq_true rfl)) dX4_rightsByOverruling_76 ⟨Nat.le_of_ble_eq_true rfl, Nat.le_of_ble_eq_true rfl⟩) (fun r er => ?_)
              subst er
              refine top_eq (y := b2i (toB (mCnt F (anc F y k) y (6 * (anc F y k) + kk)))) (by rw [anc_eq hM hyn hkl]; exact cnt_eq (by omega) (by omega)) ?_
              refine lv_if_eq (tgt := 120) hx hb dX4_rightsByOverruling_79 (by decide) (fun c_79 => ?_) (fun c_79 => ?_)
              ·
                have c_79 := b2i_0 c_79
                refine lv_iinc (v := (nI kk) + (-1)) (lv' := [(6, .int ((nI kk) + (-1))), (0, .ref (AD 0 0)), (1, .int (nI x)), (2, .ref (AD 1 y)), (3, .int u), (4, .int (nI k)), (5, .ref (AD 1 (anc F y k))), (7, .ref (AD 5 (6 * (anc F y k) + kk)))]) hx hb dX4_rightsByOverruling_120 hl (k := 6) rfl (by exact ii_m1 _) (by decide) rfl (fun ls hl => ?_)
                refine lv_goto (tgt := 44) hx hb dX4_rightsByOverruling_123 (by decide) ?_
                exact ih_44 _ rfl u (by omega) (by rw [← hu]; show _ = bRow F x y (anc F y k) kk (bStep F x y (anc F y k) kk u); first | rw [bs_0 c_79] | rw [bs_1 c_79 c_89] | rw [bs_2 c_79 c_89]) ls (lv_sub hl [1, 2, 3, 5, 6, 4, 0] rfl)
              ·
                have c_79 := b2i_1 c_79
                refine lv_aload_n hx hb dX4_rightsByOverruling_82 rfl (lv_at hl 0 rfl) ?_
                refine lv_aload hx hb dX4_rightsByOverruling_83 (lv_at hl 7 rfl) ?_
                refine lv_iload_n hx hb dX4_rightsByOverruling_85 rfl (lv_at hl 1 rfl) ?_
                obtain ⟨kp14, ep14⟩ := (hR.x).at
                refine vp_callSi (W.runV (As := [.ref (AD 5 (6 * (anc F y k) + kk)), .int (nI x)]) (rest := []) ⟨hx, hb, hml, hown, hts⟩ (k_X4_isFor l D cI cZ cO hR (anc F y k) kk x hM han hkk) (cwV 2 hts gX4_rightsByOverruling_X4_isFor rfl rfl rfl (by decide +kernel) ⟨Nat.le_of_ble_eq_true rfl, Nat.le_of_ble_eq_true rfl⟩) ⟨rd_blind, va_recv hK hP (ci := 5) (q0 := kp14) rfl ep14, rd_pre hP hK hN⟩ rfl rfl hl.1 rfl (lv_room (Nat.le_of_ble_eq_true rfl)) dX4_rightsByOverruling_86 ⟨Nat.le_of_ble_eq_true rfl, Nat.le_of_ble_eq_true rfl⟩) (fun r er => ?_)
                subst er
                refine lv_if_eq (tgt := 120) hx hb dX4_rightsByOverruling_89 (by decide) (fun c_89 => ?_) (fun c_89 => ?_)
                ·
                  have c_89 := b2i_0 c_89
                  refine lv_iinc (v := (nI kk) + (-1)) (lv' := [(6, .int ((nI kk) + (-1))), (0, .ref (AD 0 0)), (1, .int (nI x)), (2, .ref (AD 1 y)), (3, .int u), (4, .int (nI k)), (5, .ref (AD 1 (anc F y k))), (7, .ref (AD 5 (6 * (anc F y k) + kk)))]) hx hb dX4_rightsByOverruling_120 hl (k := 6) rfl (by exact ii_m1 _) (by decide) rfl (fun ls hl => ?_)
                  refine lv_goto (tgt := 44) hx hb dX4_rightsByOverruling_123 (by decide) ?_
                  exact ih_44 _ rfl u (by omega) (by rw [← hu]; show _ = bRow F x y (anc F y k) kk (bStep F x y (anc F y k) kk u); first | rw [bs_0 c_79] | rw [bs_1 c_79 c_89] | rw [bs_2 c_79 c_89]) ls (lv_sub hl [1, 2, 3, 5, 6, 4, 0] rfl)
                ·
                  have c_89 := b2i_1 c_89
                  refine lv_aload hx hb dX4_rightsByOverruling_92 (lv_at hl 7 rfl) ?_
                  obtain ⟨kp15, ep15⟩ := (hR.en (i := (anc F y k)) (j := kk) (by omega) (by omega)).at
                  refine va_get (D := D) (ci := 1) (v := .int (F 8 (6 * (anc F y k) + kk))) (C := RX0) (T := TX0) (N := 4) hx hb hts (fun _ h => List.mem_cons_of_mem _ (List.mem_append_left _ (List.mem_append_left _ (List.mem_append_left _ (List.mem_append_right _ (h)))))) hown hK hP kp15 ep15 rfl 1 (by decide) (hts _ (List.mem_of_getElem? (i := 4) rfl)) (fun _ h9 => h9) rfl dX4_rightsByOverruling_94 ?_
                  have J_119 : ∀ (z0 : Int32), z0 = (if (F 8 (6 * (anc F y k) + kk)) = 0 then u &&& ((F 9 (6 * (anc F y k) + kk)) ^^^ (-1)) else u ||| (F 9 (6 * (anc F y k) + kk))) → ∀ ls : Array Slot, lv_has ls 8 [(0, .ref (AD 0 0)), (1, .int (nI x)), (2, .ref (AD 1 y)), (3, .int u), (4, .int (nI k)), (5, .ref (AD 1 (anc F y k))), (6, .int (nI kk)), (7, .ref (AD 5 (6 * (anc F y k) + kk)))] → W p l e (headSpec wsX4_rightsByOverruling (rmr 3 64)).room s m args below meth c s.heap [] 0 0 Q (F0 m 119 ls [.int z0]) := by
                    intro z0 ez0 ls hl
                    subst ez0
                    refine lv_istore_n (lv' := [(3, .int (if (F 8 (6 * (anc F y k) + kk)) = 0 then u &&& ((F 9 (6 * (anc F y k) + kk)) ^^^ (-1)) else u ||| (F 9 (6 * (anc F y k) + kk)))), (0, .ref (AD 0 0)), (1, .int (nI x)), (2, .ref (AD 1 y)), (4, .int (nI k)), (5, .ref (AD 1 (anc F y k))), (6, .int (nI kk)), (7, .ref (AD 5 (6 * (anc F y k) + kk)))]) hx hb dX4_rightsByOverruling_119 rfl hl (by decide) rfl (fun ls hl => ?_)
                    refine lv_iinc (v := (nI kk) + (-1)) (lv' := [(6, .int ((nI kk) + (-1))), (3, .int (if (F 8 (6 * (anc F y k) + kk)) = 0 then u &&& ((F 9 (6 * (anc F y k) + kk)) ^^^ (-1)) else u ||| (F 9 (6 * (anc F y k) + kk)))), (0, .ref (AD 0 0)), (1, .int (nI x)), (2, .ref (AD 1 y)), (4, .int (nI k)), (5, .ref (AD 1 (anc F y k))), (7, .ref (AD 5 (6 * (anc F y k) + kk)))]) hx hb dX4_rightsByOverruling_120 hl (k := 6) rfl (by exact ii_m1 _) (by decide) rfl (fun ls hl => ?_)
                    refine lv_goto (tgt := 44) hx hb dX4_rightsByOverruling_123 (by decide) ?_
                    exact ih_44 _ rfl (if (F 8 (6 * (anc F y k) + kk)) = 0 then u &&& ((F 9 (6 * (anc F y k) + kk)) ^^^ (-1)) else u ||| (F 9 (6 * (anc F y k) + kk))) (by omega) (by rw [← hu]; show _ = bRow F x y (anc F y k) kk (bStep F x y (anc F y k) kk u); first | rw [bs_0 c_79] | rw [bs_1 c_79 c_89] | rw [bs_2 c_79 c_89]) ls (lv_sub hl [2, 3, 4, 5, 6, 1, 0] rfl)
                  refine lv_if_eq (tgt := 110) hx hb dX4_rightsByOverruling_97 (by decide) (fun c_97 => ?_) (fun c_97 => ?_)
                  ·
                    refine lv_iload_n hx hb dX4_rightsByOverruling_110 rfl (lv_at hl 3 rfl) ?_
                    refine lv_aload hx hb dX4_rightsByOverruling_111 (lv_at hl 7 rfl) ?_
                    obtain ⟨kp16, ep16⟩ := (hR.en (i := (anc F y k)) (j := kk) (by omega) (by omega)).at
                    refine va_get (D := D) (ci := 1) (v := .int (F 9 (6 * (anc F y k) + kk))) (C := RX0) (T := TX0) (N := 4) hx hb hts (fun _ h => List.mem_cons_of_mem _ (List.mem_append_left _ (List.mem_append_left _ (List.mem_append_left _ (List.mem_append_right _ (h)))))) hown hK hP kp16 ep16 rfl 2 (by decide) (hts _ (List.mem_of_getElem? (i := 5) rfl)) (fun _ h9 => h9) rfl dX4_rightsByOverruling_113 ?_
                    refine lv_iconst (v := (-1)) hx hb dX4_rightsByOverruling_116 (by decide) ?_
                    refine lv_ixor hx hb dX4_rightsByOverruling_117 ?_
                    refine lv_iand hx hb dX4_rightsByOverruling_118 ?_
                    exact J_119 _ ((if_pos c_97).symm) ls (lv_sub hl [0, 1, 2, 3, 4, 5, 6, 7] rfl)
                  ·
                    refine lv_iload_n hx hb dX4_rightsByOverruling_100 rfl (lv_at hl 3 rfl) ?_
                    refine lv_aload hx hb dX4_rightsByOverruling_101 (lv_at hl 7 rfl) ?_
                    obtain ⟨kp17, ep17⟩ := (hR.en (i := (anc F y k)) (j := kk) (by omega) (by omega)).at
                    refine va_get (D := D) (ci := 1) (v := .int (F 9 (6 * (anc F y k) + kk))) (C := RX0) (T := TX0) (N := 4) hx hb hts (fun _ h => List.mem_cons_of_mem _ (List.mem_append_left _ (List.mem_append_left _ (List.mem_append_left _ (List.mem_append_right _ (h)))))) hown hK hP kp17 ep17 rfl 2 (by decide) (hts _ (List.mem_of_getElem? (i := 5) rfl)) (fun _ h9 => h9) rfl dX4_rightsByOverruling_103 ?_
                    refine lv_ior hx hb dX4_rightsByOverruling_106 ?_
                    refine lv_goto (tgt := 119) hx hb dX4_rightsByOverruling_107 (by decide) ?_
                    exact J_119 _ ((if_neg c_97).symm) ls (lv_sub hl [0, 1, 2, 3, 4, 5, 6, 7] rfl)
            refine lv_if_ne (tgt := 75) hx hb dX4_rightsByOverruling_68 (by decide) (fun c_68 => ?_) (fun c_68 => ?_)
            ·
              refine lv_iconst (v := 0) hx hb dX4_rightsByOverruling_75 (by decide) ?_
              exact J_76 _ ((if_neg c_68).symm) ls (lv_sub hl [1, 2, 3, 6, 4, 5, 7, 0] rfl)
            ·
              refine lv_iconst (v := 1) hx hb dX4_rightsByOverruling_71 (by decide) ?_
              refine lv_goto (tgt := 76) hx hb dX4_rightsByOverruling_72 (by decide) ?_
              exact J_76 _ ((if_pos c_68).symm) ls (lv_sub hl [1, 2, 3, 6, 4, 5, 7, 0] rfl)
        exact L_44 (i2n (F 6 (anc F y k))) _ (by exact i_sub1 _) v (by exact Nat.le_refl _) (by rfl) ls (lv_sub hl [2, 3, 4, 6, 1, 5, 0] rfl)
    exact L_19 (mLev F (y + 1) y + 1) _ (by exact (pk_m1 _).symm) 0 (by exact Nat.le_refl _) (by rfl) ls (lv_sub hl [2, 3, 4, 1, 0] rfl)
  ·
    have eR : mRights F x y = 7 := if_pos c_5.symm
    refine lv_bipush (v := 7) hx hb dX4_rightsByOverruling_8 (by decide) ?_
    subst hQ
    exact W.iret (v := 7) hx hb hr (fun t ht _ => ⟨_, rfl, (by exact eR.symm), ht⟩) (fun _ h => absurd h List.not_mem_nil) dX4_rightsByOverruling_10
