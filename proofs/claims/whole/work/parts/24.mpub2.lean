set_option maxHeartbeats 800000 in
set_option maxRecDepth 100000 in
theorem k_X5_now (l : Launch) (D : va_G) (cI cZ : ClassId) (ad : Nat → Nat) (F : Nat → Nat → Int32) (ow : Nat → Int32) (mp : Nat → Int32) (nm : Int32) (gb : Int32) (ob : Int32) (ik : Nat → Int32) (kp : Nat → Int32) (tu : Nat → Int32) (g : Nat → Int32) (x : Nat) (y : Nat)  (nn : Nat) (hM : okM F g nn) (hx8 : x < 8) (hyn : y < nn)  : Met l yX5_now wsX5_now (rmr 5 119) (va_Pc [.ref (ad 0), .int (nI x), .int (nI y)] (rdP D ([(cI, .int), (cZ, .boolean)]) (mdW cI cZ ad F ow mp nm gb ob ik kp tu g))) (vp_Si (fun r => r = mNow F kp tu x y)) 0 0 (fun _ => False) := by
  refine Met.ofW (cc := cX5_now) (maxL := 3) (ret := (some .int)) (by decide) rfl ?_
  intro p e s m args below meth c s₁ B hml hv
  obtain ⟨hargs, hP, hK, hN⟩ := hv
  have hx := B.exec
  have hb := B.bytes
  have hr := B.returns
  have hts := atoms_spec (ws := wsX5_now) B.pre
  have hown : s.vm.findClass RX5 = some m.cls := findClass_of_methodNamed B.named
  have hlocks := B.notSynchronized
  have hen : entryFrame m args 3 = entryFrame m ([.ref (ad 0), .int (nI x), .int (nI y)] : List Value).toArray 3 := by rw [hargs]
  rw [hen]
  have hl := lv_entry ([.ref (ad 0), .int (nI x), .int (nI y)]) (n := 3) (Nat.le_of_ble_eq_true rfl)
  rw [lg_entry_eq]
  generalize (lg_sl ([.ref (ad 0), .int (nI x), .int (nI y)]) ++ List.replicate (3 - (lg_sl ([.ref (ad 0), .int (nI x), .int (nI y)])).length) Slot.unset).toArray = ls at hl ⊢
  have hl : lv_has ls 3 [(0, .ref (ad 0)), (1, .int (nI x)), (2, .int (nI y))] := hl
  generalize hQ : MQ below (vp_Si (fun r => r = mNow F kp tu x y)) args s 0 0 (fun _ => False) = Q
  have hnn := hM.2.1.2
  refine lv_aload_n hx hb dX5_now_0 rfl (lv_at hl 0 rfl) ?_
  refine va_get (D := D) (ci := 6) (v := .ref (ad 15)) (C := RX5) (T := TX5) (N := 20) hx hb hts (fun _ h => List.mem_cons_of_mem _ (List.mem_append_right _ (h))) hown hK hP 0 rfl rfl 18 (by decide) (hts _ (List.mem_of_getElem? (i := 1) rfl)) (fun _ h9 => h9) rfl dX5_now_1 ?_
  refine lv_iload_n hx hb dX5_now_4 rfl (lv_at hl 2 rfl) ?_
  refine ld_z (k := y) hx hb hK hP 15 1 rfl rfl (by omega) (by decide) dX5_now_5 ?_
  have J_29 : ∀ (z0 : Int32), z0 = (if (tu y) = 0 then mRights F x y else kp ((8 * y) + x)) → ∀ ls : Array Slot, lv_has ls 3 [(0, .ref (ad 0)), (1, .int (nI x)), (2, .int (nI y))] → W p l e (headSpec wsX5_now (rmr 5 119)).room s m args below meth c s.heap [] 0 0 Q (F0 m 29 ls [.int z0]) := by
    intro z0 ez0 ls hl
    subst ez0
    subst hQ
    exact W.iret (v := if (tu y) = 0 then mRights F x y else kp ((8 * y) + x)) hx hb hr (fun t ht _ => ⟨_, rfl, (by rfl), ht⟩) (fun _ h => absurd h List.not_mem_nil) dX5_now_29
  refine lv_if_eq (tgt := 23) hx hb dX5_now_6 (by decide) (fun c_6 => ?_) (fun c_6 => ?_)
  ·
    refine lv_aload_n hx hb dX5_now_23 rfl (lv_at hl 0 rfl) ?_
    refine lv_iload_n hx hb dX5_now_24 rfl (lv_at hl 1 rfl) ?_
    refine lv_iload_n hx hb dX5_now_25 rfl (lv_at hl 2 rfl) ?_
    refine vp_callSi (W.runV (As := [.int (nI x), .int (nI y)]) (rest := []) ⟨hx, hb, hml, hown, hts⟩ (k_X5_rightsOf l D cI cZ ad F ow mp nm gb ob ik kp tu g x y nn hM hyn) (cwV 2 hts gX5_now_X5_rightsOf rfl rfl rfl (by decide +kernel) ⟨Nat.le_of_ble_eq_true rfl, Nat.le_of_ble_eq_true rfl⟩) ⟨rd_blind, va_recv hK hP (ci := 6) (q0 := 0) rfl rfl, rd_pre hP hK hN⟩ rfl rfl hl.1 rfl (lv_room (Nat.le_of_ble_eq_true rfl)) dX5_now_26 ⟨Nat.le_of_ble_eq_true rfl, Nat.le_of_ble_eq_true rfl⟩) (fun r er => ?_)
    subst er
    exact J_29 _ ((if_pos c_6).symm) ls (lv_sub hl [0, 1, 2] rfl)
  ·
    refine lv_aload_n hx hb dX5_now_9 rfl (lv_at hl 0 rfl) ?_
    refine va_get (D := D) (ci := 6) (v := .ref (ad 14)) (C := RX5) (T := TX5) (N := 20) hx hb hts (fun _ h => List.mem_cons_of_mem _ (List.mem_append_right _ (h))) hown hK hP 0 rfl rfl 17 (by decide) (hts _ (List.mem_of_getElem? (i := 2) rfl)) (fun _ h9 => h9) rfl dX5_now_10 ?_
    refine lv_bipush (v := 8) hx hb dX5_now_13 (by decide) ?_
    refine lv_iload_n hx hb dX5_now_15 rfl (lv_at hl 2 rfl) ?_
    refine imul_n (x := 8) (y := y) hx hb dX5_now_16 ?_
    refine lv_iload_n hx hb dX5_now_17 rfl (lv_at hl 1 rfl) ?_
    refine iadd_n (x := 8 * y) (y := x) hx hb dX5_now_18 ?_
    refine ld_i (k := (8 * y) + x) hx hb hK hP 14 0 rfl rfl (by omega) (by decide) dX5_now_19 ?_
    refine lv_goto (tgt := 29) hx hb dX5_now_20 (by decide) ?_
    exact J_29 _ ((if_neg c_6).symm) ls (lv_sub hl [0, 1, 2] rfl)

set_option maxHeartbeats 800000 in
set_option maxRecDepth 100000 in
theorem m_rightsNow (l : Launch) (D : va_G) (cI cZ : ClassId) (ad : Nat → Nat) (A : Nat → Prop) (F : Nat → Nat → Int32) (ow : Nat → Int32) (mp : Nat → Int32) (nm : Int32) (gb : Int32) (ob : Int32) (ik : Nat → Int32) (kp : Nat → Int32) (tu : Nat → Int32) (g : Nat → Int32) (hA : apD 16 A ad) (x : Nat) (y : Nat)  (nn : Nat) (hM : okM F g nn) (hx8 : x < 8) (hyn : y < nn)  : Met l yX5_rightsNow wsX5_rightsNow (rmr 6 141) (va_Pc [.ref (ad 0), .int (nI x), .int (nI y)] (rdP D ([(cI, .int), (cZ, .boolean)]) (mdW cI cZ ad F ow mp nm gb ob ik kp tu g))) (va_Qi (fun (r : Int32) (_ : Unit) => r = mNow F kp tu x y) (fun _ t => va_P D vwCl (mdW cI cZ ad F ow mp nm gb ob ik kp tu (va_up g 19 0)) t.heap) A) 0 0 A := by
  refine Met.ofW (cc := cX5_rightsNow) (maxL := 3) (ret := (some .int)) (by decide) rfl ?_
  intro p e s m args below meth c s₁ B hml hv
  obtain ⟨hargs, hP, hK, hN⟩ := hv
  have hx := B.exec
  have hb := B.bytes
  have hr := B.returns
  have hts := atoms_spec (ws := wsX5_rightsNow) B.pre
  have hown : s.vm.findClass RX5 = some m.cls := findClass_of_methodNamed B.named
  have hlocks := B.notSynchronized
  have hen : entryFrame m args 3 = entryFrame m ([.ref (ad 0), .int (nI x), .int (nI y)] : List Value).toArray 3 := by rw [hargs]
  rw [hen]
  have hl := lv_entry ([.ref (ad 0), .int (nI x), .int (nI y)]) (n := 3) (Nat.le_of_ble_eq_true rfl)
  rw [lg_entry_eq]
  generalize (lg_sl ([.ref (ad 0), .int (nI x), .int (nI y)]) ++ List.replicate (3 - (lg_sl ([.ref (ad 0), .int (nI x), .int (nI y)])).length) Slot.unset).toArray = ls at hl ⊢
  have hl : lv_has ls 3 [(0, .ref (ad 0)), (1, .int (nI x)), (2, .int (nI y))] := hl
  have hS : va_S A s.heap s.heap [] := va_S.rf
  generalize hQ : MQ below (va_Qi (fun (r : Int32) (_ : Unit) => r = mNow F kp tu x y) (fun _ t => va_P D vwCl (mdW cI cZ ad F ow mp nm gb ob ik kp tu (va_up g 19 0)) t.heap) A) args s 0 0 A = Q
  have go : ∀ (H : Heap) (locs : List Loc), va_P D vwCl (mdW cI cZ ad F ow mp nm gb ob ik kp tu g) H → va_S A s.heap H locs → W p l e (headSpec wsX5_rightsNow (rmr 6 141)).room s m args below meth c H locs 0 0 Q (F0 m 0 ls []) := by
    intro H locs hP hS
    refine lv_aload_n hx hb dX5_rightsNow_0 rfl (lv_at hl 0 rfl) ?_
    refine lv_iload_n hx hb dX5_rightsNow_1 rfl (lv_at hl 1 rfl) ?_
    refine vp_callSi (W.runS (As := [.int (nI x)]) (rest := [.ref (ad 0)]) ⟨hx, hb, hml, hown, hts⟩ (k_X5_isPerson l (nI x)) (va_cwS 1 hts gX5_rightsNow_X5_isPerson rfl rfl rfl (by decide +kernel) ⟨Nat.le_of_ble_eq_true rfl, Nat.le_of_ble_eq_true rfl⟩) ⟨nf_blind, fun U hU hW => ⟨rfl, trivial⟩⟩ rfl rfl hl.1 rfl (lv_room (Nat.le_of_ble_eq_true rfl)) dX5_rightsNow_2 ⟨Nat.le_of_ble_eq_true rfl, Nat.le_of_ble_eq_true rfl⟩) (fun r er => ?_)
    subst er
    have J_21 : ∀ (H : Heap) (locs : List Loc), va_P D vwCl (mdW cI cZ ad F ow mp nm gb ob ik kp tu g) H → va_S A s.heap H locs → ∀ ls : Array Slot, lv_has ls 3 [(0, .ref (ad 0)), (1, .int (nI x)), (2, .int (nI y))] → W p l e (headSpec wsX5_rightsNow (rmr 6 141)).room s m args below meth c H locs 0 0 Q (F0 m 21 ls [.int 0, .ref (ad 0)]) := by
      intro  H locs hP hS ls hl
      refine va_calli (va_runV (As := [.int 0]) (rest := []) ⟨hx, hb, hml, hown, hts⟩ (k_X5_isFine l D cI cZ ad A F ow mp nm gb ob ik kp tu g hA 0) (cwV 1 hts gX5_rightsNow_X5_isFine rfl rfl rfl (by decide +kernel) ⟨Nat.le_of_ble_eq_true rfl, Nat.le_of_ble_eq_true rfl⟩) ⟨rd_blind, va_recv hK hP (ci := 6) (q0 := 0) rfl rfl, rd_pre hP hK hN⟩ rfl rfl hl.1 rfl (lv_room (Nat.le_of_ble_eq_true rfl)) dX5_rightsNow_21 ⟨Nat.le_of_ble_eq_true rfl, Nat.le_of_ble_eq_true rfl⟩) hS (fun q _ h => h) (fun q h => h) (fun r u t H locs ht hvm hw hB hz1 hk1 hS => ?_)
      have hP := hB
      rw [ht] at hP
      subst hw
      have hP : va_P D vwCl (mdW cI cZ ad F ow mp nm gb ob ik kp tu (va_up g 19 0)) H := hP
      refine top_eq (y := b2i true) (by decide) ?_
      refine lv_if_eq (tgt := 36) hx hb dX5_rightsNow_24 (by decide) (fun c_24 => absurd c_24 (by decide)) (fun c_24 => ?_)
      refine lv_aload_n hx hb dX5_rightsNow_27 rfl (lv_at hl 0 rfl) ?_
      refine lv_iload_n hx hb dX5_rightsNow_28 rfl (lv_at hl 1 rfl) ?_
      refine lv_iload_n hx hb dX5_rightsNow_29 rfl (lv_at hl 2 rfl) ?_
      refine vp_callSi (W.runV (As := [.int (nI x), .int (nI y)]) (rest := []) ⟨hx, hb, hml, hown, hts⟩ (k_X5_now l D cI cZ ad F ow mp nm gb ob ik kp tu (va_up g 19 0) x y nn hM.thr hx8 hyn) (cwV 2 hts gX5_rightsNow_X5_now rfl rfl rfl (by decide +kernel) ⟨Nat.le_of_ble_eq_true rfl, Nat.le_of_ble_eq_true rfl⟩) ⟨rd_blind, va_recv hK hP (ci := 6) (q0 := 0) rfl rfl, rd_pre hP hK hN⟩ rfl rfl hl.1 rfl (lv_room (Nat.le_of_ble_eq_true rfl)) dX5_rightsNow_30 ⟨Nat.le_of_ble_eq_true rfl, Nat.le_of_ble_eq_true rfl⟩) (fun r er => ?_)
      subst er
      refine lv_goto (tgt := 37) hx hb dX5_rightsNow_33 (by decide) ?_
      subst hQ
      have hP : va_P D vwCl (mdW cI cZ ad F ow mp nm gb ob ik kp tu (va_up g 19 0)) H := hP
      exact W.iret (v := mNow F kp tu x y) hx hb hr (fun t ht _ => ⟨⟨_, (), rfl, (by rfl), by have e := hP; rw [← ht] at e; exact e⟩, hS.F ht⟩) hS.2.2 dX5_rightsNow_37
    refine lv_if_eq (tgt := 20) hx hb dX5_rightsNow_5 (by decide) (fun c_5 => ?_) (fun c_5 => ?_)
    ·
      have c_5 := b2i_0 c_5
      exact absurd (inB_p hx8) (b2i_bf c_5)
    ·
      have c_5 := b2i_1 c_5
      refine lv_aload_n hx hb dX5_rightsNow_8 rfl (lv_at hl 0 rfl) ?_
      refine lv_iload_n hx hb dX5_rightsNow_9 rfl (lv_at hl 2 rfl) ?_
      refine vp_callSi (W.runV (As := [.int (nI y)]) (rest := [.ref (ad 0)]) ⟨hx, hb, hml, hown, hts⟩ (k_X5_isFolder l D cI cZ ad F ow mp nm gb ob ik kp tu g (nI y)) (cwV 1 hts gX5_rightsNow_X5_isFolder rfl rfl rfl (by decide +kernel) ⟨Nat.le_of_ble_eq_true rfl, Nat.le_of_ble_eq_true rfl⟩) ⟨rd_blind, va_recv hK hP (ci := 6) (q0 := 0) rfl rfl, rd_pre hP hK hN⟩ rfl rfl hl.1 rfl (lv_room (Nat.le_of_ble_eq_true rfl)) dX5_rightsNow_10 ⟨Nat.le_of_ble_eq_true rfl, Nat.le_of_ble_eq_true rfl⟩) (fun r er => ?_)
      subst er
      refine lv_if_eq (tgt := 20) hx hb dX5_rightsNow_13 (by decide) (fun c_13 => ?_) (fun c_13 => ?_)
      ·
        have c_13 := b2i_0 c_13
        exact absurd (inB_f hM hyn) (b2i_bf c_13)
      ·
        have c_13 := b2i_1 c_13
        refine lv_iconst (v := 0) hx hb dX5_rightsNow_16 (by decide) ?_
        refine lv_goto (tgt := 21) hx hb dX5_rightsNow_17 (by decide) ?_
        exact J_21 _ _ hP hS ls (lv_sub hl [0, 1, 2] rfl)
  exact go _ _ hP hS

set_option maxHeartbeats 800000 in
set_option maxRecDepth 100000 in
theorem m_rightsNow_1 (l : Launch) (D : va_G) (cI cZ : ClassId) (ad : Nat → Nat) (A : Nat → Prop) (F : Nat → Nat → Int32) (ow : Nat → Int32) (mp : Nat → Int32) (nm : Int32) (gb : Int32) (ob : Int32) (ik : Nat → Int32) (kp : Nat → Int32) (tu : Nat → Int32) (g : Nat → Int32) (hA : apD 16 A ad) (x0 : Int32) (x1 : Int32)  (hb1 : (inB x0 0 7 && inB x1 0 (g 6 - 1)) = false) : Met l yX5_rightsNow wsX5_rightsNow (rmr 6 141) (va_Pc [.ref (ad 0), .int x0, .int x1] (rdP D ([(cI, .int), (cZ, .boolean)]) (mdW cI cZ ad F ow mp nm gb ob ik kp tu g))) (va_Qi (fun (r : Int32) (_ : Unit) => r = 0) (fun _ t => va_P D vwCl (mdW cI cZ ad F ow mp nm gb ob ik kp tu (va_up g 19 1)) t.heap) A) 0 0 A := by
  refine Met.ofW (cc := cX5_rightsNow) (maxL := 3) (ret := (some .int)) (by decide) rfl ?_
  intro p e s m args below meth c s₁ B hml hv
  obtain ⟨hargs, hP, hK, hN⟩ := hv
  have hx := B.exec
  have hb := B.bytes
  have hr := B.returns
  have hts := atoms_spec (ws := wsX5_rightsNow) B.pre
  have hown : s.vm.findClass RX5 = some m.cls := findClass_of_methodNamed B.named
  have hlocks := B.notSynchronized
  have hen : entryFrame m args 3 = entryFrame m ([.ref (ad 0), .int x0, .int x1] : List Value).toArray 3 := by rw [hargs]
  rw [hen]
  have hl := lv_entry ([.ref (ad 0), .int x0, .int x1]) (n := 3) (Nat.le_of_ble_eq_true rfl)
  rw [lg_entry_eq]
  generalize (lg_sl ([.ref (ad 0), .int x0, .int x1]) ++ List.replicate (3 - (lg_sl ([.ref (ad 0), .int x0, .int x1])).length) Slot.unset).toArray = ls at hl ⊢
  have hl : lv_has ls 3 [(0, .ref (ad 0)), (1, .int x0), (2, .int x1)] := hl
  have hS : va_S A s.heap s.heap [] := va_S.rf
  generalize hQ : MQ below (va_Qi (fun (r : Int32) (_ : Unit) => r = 0) (fun _ t => va_P D vwCl (mdW cI cZ ad F ow mp nm gb ob ik kp tu (va_up g 19 1)) t.heap) A) args s 0 0 A = Q
  have go : ∀ (H : Heap) (locs : List Loc), va_P D vwCl (mdW cI cZ ad F ow mp nm gb ob ik kp tu g) H → va_S A s.heap H locs → W p l e (headSpec wsX5_rightsNow (rmr 6 141)).room s m args below meth c H locs 0 0 Q (F0 m 0 ls []) := by
    intro H locs hP hS
    refine lv_aload_n hx hb dX5_rightsNow_0 rfl (lv_at hl 0 rfl) ?_
    refine lv_iload_n hx hb dX5_rightsNow_1 rfl (lv_at hl 1 rfl) ?_
    refine vp_callSi (W.runS (As := [.int x0]) (rest := [.ref (ad 0)]) ⟨hx, hb, hml, hown, hts⟩ (k_X5_isPerson l x0) (va_cwS 1 hts gX5_rightsNow_X5_isPerson rfl rfl rfl (by decide +kernel) ⟨Nat.le_of_ble_eq_true rfl, Nat.le_of_ble_eq_true rfl⟩) ⟨nf_blind, fun U hU hW => ⟨rfl, trivial⟩⟩ rfl rfl hl.1 rfl (lv_room (Nat.le_of_ble_eq_true rfl)) dX5_rightsNow_2 ⟨Nat.le_of_ble_eq_true rfl, Nat.le_of_ble_eq_true rfl⟩) (fun r er => ?_)
    subst er
    have J_21 : ∀ (H : Heap) (locs : List Loc), va_P D vwCl (mdW cI cZ ad F ow mp nm gb ob ik kp tu g) H → va_S A s.heap H locs → ∀ ls : Array Slot, lv_has ls 3 [(0, .ref (ad 0)), (1, .int x0), (2, .int x1)] → W p l e (headSpec wsX5_rightsNow (rmr 6 141)).room s m args below meth c H locs 0 0 Q (F0 m 21 ls [.int 1, .ref (ad 0)]) := by
      intro  H locs hP hS ls hl
      refine va_calli (va_runV (As := [.int 1]) (rest := []) ⟨hx, hb, hml, hown, hts⟩ (k_X5_isFine l D cI cZ ad A F ow mp nm gb ob ik kp tu g hA 1) (cwV 1 hts gX5_rightsNow_X5_isFine rfl rfl rfl (by decide +kernel) ⟨Nat.le_of_ble_eq_true rfl, Nat.le_of_ble_eq_true rfl⟩) ⟨rd_blind, va_recv hK hP (ci := 6) (q0 := 0) rfl rfl, rd_pre hP hK hN⟩ rfl rfl hl.1 rfl (lv_room (Nat.le_of_ble_eq_true rfl)) dX5_rightsNow_21 ⟨Nat.le_of_ble_eq_true rfl, Nat.le_of_ble_eq_true rfl⟩) hS (fun q _ h => h) (fun q h => h) (fun r u t H locs ht hvm hw hB hz1 hk1 hS => ?_)
      have hP := hB
      rw [ht] at hP
      subst hw
      have hP : va_P D vwCl (mdW cI cZ ad F ow mp nm gb ob ik kp tu (va_up g 19 1)) H := hP
      refine top_eq (y := b2i false) (by decide) ?_
      refine lv_if_eq (tgt := 36) hx hb dX5_rightsNow_24 (by decide) (fun c_24 => ?_) (fun c_24 => absurd rfl c_24)
      refine lv_iconst (v := 0) hx hb dX5_rightsNow_36 (by decide) ?_
      subst hQ
      have hP : va_P D vwCl (mdW cI cZ ad F ow mp nm gb ob ik kp tu (va_up g 19 1)) H := hP
      exact W.iret (v := 0) hx hb hr (fun t ht _ => ⟨⟨_, (), rfl, (by rfl), by have e := hP; rw [← ht] at e; exact e⟩, hS.F ht⟩) hS.2.2 dX5_rightsNow_37
    refine lv_if_eq (tgt := 20) hx hb dX5_rightsNow_5 (by decide) (fun c_5 => ?_) (fun c_5 => ?_)
    ·
      have c_5 := b2i_0 c_5
      refine lv_iconst (v := 1) hx hb dX5_rightsNow_20 (by decide) ?_
      exact J_21 _ _ hP hS ls (lv_sub hl [0, 1, 2] rfl)
    ·
      have c_5 := b2i_1 c_5
      refine lv_aload_n hx hb dX5_rightsNow_8 rfl (lv_at hl 0 rfl) ?_
      refine lv_iload_n hx hb dX5_rightsNow_9 rfl (lv_at hl 2 rfl) ?_
      refine vp_callSi (W.runV (As := [.int x1]) (rest := [.ref (ad 0)]) ⟨hx, hb, hml, hown, hts⟩ (k_X5_isFolder l D cI cZ ad F ow mp nm gb ob ik kp tu g x1) (cwV 1 hts gX5_rightsNow_X5_isFolder rfl rfl rfl (by decide +kernel) ⟨Nat.le_of_ble_eq_true rfl, Nat.le_of_ble_eq_true rfl⟩) ⟨rd_blind, va_recv hK hP (ci := 6) (q0 := 0) rfl rfl, rd_pre hP hK hN⟩ rfl rfl hl.1 rfl (lv_room (Nat.le_of_ble_eq_true rfl)) dX5_rightsNow_10 ⟨Nat.le_of_ble_eq_true rfl, Nat.le_of_ble_eq_true rfl⟩) (fun r er => ?_)
      subst er
      refine lv_if_eq (tgt := 20) hx hb dX5_rightsNow_13 (by decide) (fun c_13 => ?_) (fun c_13 => ?_)
      ·
        have c_13 := b2i_0 c_13
        refine lv_iconst (v := 1) hx hb dX5_rightsNow_20 (by decide) ?_
        exact J_21 _ _ hP hS ls (lv_sub hl [0, 1, 2] rfl)
      ·
        have c_13 := b2i_1 c_13
        exact absurd (B2f hb1 c_5 c_13) id
  exact go _ _ hP hS

set_option maxHeartbeats 800000 in
set_option maxRecDepth 100000 in
theorem m_gainers (l : Launch) (D : va_G) (cI cZ : ClassId) (ad : Nat → Nat) (A : Nat → Prop) (F : Nat → Nat → Int32) (ow : Nat → Int32) (mp : Nat → Int32) (nm : Int32) (gb : Int32) (ob : Int32) (ik : Nat → Int32) (kp : Nat → Int32) (tu : Nat → Int32) (g : Nat → Int32) (hA : apD 16 A ad) (x : Nat)  (nn : Nat) (hM : okM F g nn) (hxn : x < nn)  : Met l yX5_gainers wsX5_gainers (rmr 6 141) (va_Pc [.ref (ad 0), .int (nI x)] (rdP D ([(cI, .int), (cZ, .boolean)]) (mdW cI cZ ad F ow mp nm gb ob ik kp tu g))) (va_Qi (fun (r : Int32) (_ : Unit) => r = gnr F kp tu x 8) (fun _ t => va_P D vwCl (mdW cI cZ ad F ow mp nm gb ob ik kp tu (va_up g 19 0)) t.heap) A) 0 0 A := by
  refine Met.ofW (cc := cX5_gainers) (maxL := 4) (ret := (some .int)) (by decide) rfl ?_
  intro p e s m args below meth c s₁ B hml hv
  obtain ⟨hargs, hP, hK, hN⟩ := hv
  have hx := B.exec
  have hb := B.bytes
  have hr := B.returns
  have hts := atoms_spec (ws := wsX5_gainers) B.pre
  have hown : s.vm.findClass RX5 = some m.cls := findClass_of_methodNamed B.named
  have hlocks := B.notSynchronized
  have hen : entryFrame m args 4 = entryFrame m ([.ref (ad 0), .int (nI x)] : List Value).toArray 4 := by rw [hargs]
  rw [hen]
  have hl := lv_entry ([.ref (ad 0), .int (nI x)]) (n := 4) (Nat.le_of_ble_eq_true rfl)
  rw [lg_entry_eq]
  generalize (lg_sl ([.ref (ad 0), .int (nI x)]) ++ List.replicate (4 - (lg_sl ([.ref (ad 0), .int (nI x)])).length) Slot.unset).toArray = ls at hl ⊢
  have hl : lv_has ls 4 [(0, .ref (ad 0)), (1, .int (nI x))] := hl
  have hS : va_S A s.heap s.heap [] := va_S.rf
  generalize hQ : MQ below (va_Qi (fun (r : Int32) (_ : Unit) => r = gnr F kp tu x 8) (fun _ t => va_P D vwCl (mdW cI cZ ad F ow mp nm gb ob ik kp tu (va_up g 19 0)) t.heap) A) args s 0 0 A = Q
  have go : ∀ (H : Heap) (locs : List Loc), va_P D vwCl (mdW cI cZ ad F ow mp nm gb ob ik kp tu g) H → va_S A s.heap H locs → W p l e (headSpec wsX5_gainers (rmr 6 141)).room s m args below meth c H locs 0 0 Q (F0 m 0 ls []) := by
    intro H locs hP hS
    refine lv_iconst (v := 0) hx hb dX5_gainers_0 (by decide) ?_
    refine lv_istore_n (lv' := [(2, .int 0), (0, .ref (ad 0)), (1, .int (nI x))]) hx hb dX5_gainers_1 rfl hl (by decide) rfl (fun ls hl => ?_)
    refine lv_aload_n hx hb dX5_gainers_2 rfl (lv_at hl 1 rfl) ?_
    refine lv_aload_n hx hb dX5_gainers_3 rfl (lv_at hl 1 rfl) ?_
    refine lv_iload_n hx hb dX5_gainers_4 rfl (lv_at hl 2 rfl) ?_
    refine vp_callSi (W.runV (As := [.int (nI x)]) (rest := [.ref (ad 0)]) ⟨hx, hb, hml, hown, hts⟩ (k_X5_isFolder l D cI cZ ad F ow mp nm gb ob ik kp tu g (nI x)) (cwV 1 hts gX5_gainers_X5_isFolder rfl rfl rfl (by decide +kernel) ⟨Nat.le_of_ble_eq_true rfl, Nat.le_of_ble_eq_true rfl⟩) ⟨rd_blind, va_recv hK hP (ci := 6) (q0 := 0) rfl rfl, rd_pre hP hK hN⟩ rfl rfl hl.1 rfl (lv_room (Nat.le_of_ble_eq_true rfl)) dX5_gainers_5 ⟨Nat.le_of_ble_eq_true rfl, Nat.le_of_ble_eq_true rfl⟩) (fun r er => ?_)
    subst er
    have J_16 : ∀ (H : Heap) (locs : List Loc), va_P D vwCl (mdW cI cZ ad F ow mp nm gb ob ik kp tu g) H → va_S A s.heap H locs → ∀ ls : Array Slot, lv_has ls 4 [(0, .ref (ad 0)), (1, .int (nI x)), (2, .int 0)] → W p l e (headSpec wsX5_gainers (rmr 6 141)).room s m args below meth c H locs 0 0 Q (F0 m 16 ls [.int 0, .ref (ad 0)]) := by
      intro  H locs hP hS ls hl
      refine va_calli (va_runV (As := [.int 0]) (rest := []) ⟨hx, hb, hml, hown, hts⟩ (k_X5_isFine l D cI cZ ad A F ow mp nm gb ob ik kp tu g hA 0) (cwV 1 hts gX5_gainers_X5_isFine rfl rfl rfl (by decide +kernel) ⟨Nat.le_of_ble_eq_true rfl, Nat.le_of_ble_eq_true rfl⟩) ⟨rd_blind, va_recv hK hP (ci := 6) (q0 := 0) rfl rfl, rd_pre hP hK hN⟩ rfl rfl hl.1 rfl (lv_room (Nat.le_of_ble_eq_true rfl)) dX5_gainers_16 ⟨Nat.le_of_ble_eq_true rfl, Nat.le_of_ble_eq_true rfl⟩) hS (fun q _ h => h) (fun q h => h) (fun r u t H locs ht hvm hw hB hz1 hk1 hS => ?_)
      have hP := hB
      rw [ht] at hP
      subst hw
      have hP : va_P D vwCl (mdW cI cZ ad F ow mp nm gb ob ik kp tu (va_up g 19 0)) H := hP
      refine top_eq (y := b2i true) (by decide) ?_
      refine lv_if_eq (tgt := 64) hx hb dX5_gainers_19 (by decide) (fun c_19 => absurd c_19 (by decide)) (fun c_19 => ?_)
      refine lv_iconst (v := 0) hx hb dX5_gainers_22 (by decide) ?_
      refine lv_istore_n (lv' := [(3, .int 0), (0, .ref (ad 0)), (1, .int (nI x)), (2, .int 0)]) hx hb dX5_gainers_23 rfl hl (by decide) rfl (fun ls hl => ?_)
      have L_24 : ∀ fz i : Nat, i ≤ 8 → 8 - i < fz → ∀ (v2 : Int32), v2 = (gnr F kp tu x i) → ∀ (H : Heap) (locs : List Loc), va_P D vwCl (mdW cI cZ ad F ow mp nm gb ob ik kp tu (va_up g 19 0)) H → va_S A s.heap H locs → ∀ ls : Array Slot, lv_has ls 4 [(0, .ref (ad 0)), (1, .int (nI x)), (3, .int (nI i)), (2, .int v2)] → W p l e (headSpec wsX5_gainers (rmr 6 141)).room s m args below meth c H locs 0 0 Q (F0 m 24 ls []) := by
        intro fz
        induction fz with
        | zero => intro i _ h; exact absurd h (Nat.not_lt_zero _)
        | succ fz ih_24 =>
          intro i hi_24 hn_24 v2 ev2 H locs hP hS ls hl
          subst ev2
          rcases Nat.lt_or_ge i 8 with h_i | h_i
          ·
            refine lv_iload_n hx hb dX5_gainers_24 rfl (lv_at hl 2 rfl) ?_
            refine lv_bipush (v := 8) hx hb dX5_gainers_25 (by decide) ?_
            refine lv_icmp_ge (tgt := 64) hx hb dX5_gainers_27 (by decide) (fun c_27 => absurd c_27 (lt_no h_i (by decide))) (fun c_27 => ?_)
            refine lv_iload_n hx hb dX5_gainers_30 rfl (lv_at hl 3 rfl) ?_
            refine lv_aload_n hx hb dX5_gainers_31 rfl (lv_at hl 0 rfl) ?_
            refine lv_iload_n hx hb dX5_gainers_32 rfl (lv_at hl 2 rfl) ?_
            refine lv_iload_n hx hb dX5_gainers_33 rfl (lv_at hl 1 rfl) ?_
            refine vp_callSi (W.runV (As := [.int (nI i), .int (nI x)]) (rest := [.int (gnr F kp tu x i)]) ⟨hx, hb, hml, hown, hts⟩ (k_X5_now l D cI cZ ad F ow mp nm gb ob ik kp tu (va_up g 19 0) i x nn hM.thr h_i hxn) (cwV 2 hts gX5_gainers_X5_now rfl rfl rfl (by decide +kernel) ⟨Nat.le_of_ble_eq_true rfl, Nat.le_of_ble_eq_true rfl⟩) ⟨rd_blind, va_recv hK hP (ci := 6) (q0 := 0) rfl rfl, rd_pre hP hK hN⟩ rfl rfl hl.1 rfl (lv_room (Nat.le_of_ble_eq_true rfl)) dX5_gainers_34 ⟨Nat.le_of_ble_eq_true rfl, Nat.le_of_ble_eq_true rfl⟩) (fun r er => ?_)
            subst er
            refine lv_aload_n hx hb dX5_gainers_37 rfl (lv_at hl 0 rfl) ?_
            refine lv_iload_n hx hb dX5_gainers_38 rfl (lv_at hl 2 rfl) ?_
            refine lv_iload_n hx hb dX5_gainers_39 rfl (lv_at hl 1 rfl) ?_
            refine vp_callSi (W.runV (As := [.int (nI i), .int (nI x)]) (rest := [.int (mNow F kp tu i x), .int (gnr F kp tu x i)]) ⟨hx, hb, hml, hown, hts⟩ (k_X5_rightsOf l D cI cZ ad F ow mp nm gb ob ik kp tu (va_up g 19 0) i x nn hM.thr hxn) (cwV 2 hts gX5_gainers_X5_rightsOf rfl rfl rfl (by decide +kernel) ⟨Nat.le_of_ble_eq_true rfl, Nat.le_of_ble_eq_true rfl⟩) ⟨rd_blind, va_recv hK hP (ci := 6) (q0 := 0) rfl rfl, rd_pre hP hK hN⟩ rfl rfl hl.1 rfl (lv_room (Nat.le_of_ble_eq_true rfl)) dX5_gainers_40 ⟨Nat.le_of_ble_eq_true rfl, Nat.le_of_ble_eq_true rfl⟩) (fun r er => ?_)
            subst er
            refine lv_iconst (v := (-1)) hx hb dX5_gainers_43 (by decide) ?_
            refine lv_ixor hx hb dX5_gainers_44 ?_
            refine lv_iand hx hb dX5_gainers_45 ?_
            have J_56 : ∀ (z0 : Int32), z0 = (if ((mNow F kp tu i x) &&& ((mRights F i x) ^^^ (-1))) = 0 then 0 else (1 : Int32) <<< ((nI i) &&& 31)) → ∀ (H : Heap) (locs : List Loc), va_P D vwCl (mdW cI cZ ad F ow mp nm gb ob ik kp tu (va_up g 19 0)) H → va_S A s.heap H locs → ∀ ls : Array Slot, lv_has ls 4 [(0, .ref (ad 0)), (1, .int (nI x)), (2, .int (gnr F kp tu x i)), (3, .int (nI i))] → W p l e (headSpec wsX5_gainers (rmr 6 141)).room s m args below meth c H locs 0 0 Q (F0 m 56 ls [.int z0, .int (gnr F kp tu x i)]) := by
              intro z0 ez0 H locs hP hS ls hl
              subst ez0
              refine lv_ior hx hb dX5_gainers_56 ?_
              refine lv_istore_n (lv' := [(2, .int ((gnr F kp tu x i) ||| (if ((mNow F kp tu i x) &&& ((mRights F i x) ^^^ (-1))) = 0 then 0 else (1 : Int32) <<< ((nI i) &&& 31)))), (0, .ref (ad 0)), (1, .int (nI x)), (3, .int (nI i))]) hx hb dX5_gainers_57 rfl hl (by decide) rfl (fun ls hl => ?_)
              refine lv_iinc (v := nI (i + 1)) (lv' := [(3, .int (nI (i + 1))), (2, .int ((gnr F kp tu x i) ||| (if ((mNow F kp tu i x) &&& ((mRights F i x) ^^^ (-1))) = 0 then 0 else (1 : Int32) <<< ((nI i) &&& 31)))), (0, .ref (ad 0)), (1, .int (nI x))]) hx hb dX5_gainers_58 hl (k := 3) rfl (by exact iinc_n _) (by decide) rfl (fun ls hl => ?_)
              refine lv_goto (tgt := 24) hx hb dX5_gainers_61 (by decide) ?_
              exact ih_24 (i + 1) (by omega) (by omega) _ (by rfl) _ _ hP hS ls (lv_sub hl [2, 3, 0, 1] rfl)
            refine lv_if_eq (tgt := 55) hx hb dX5_gainers_46 (by decide) (fun c_46 => ?_) (fun c_46 => ?_)
            ·
              refine lv_iconst (v := 0) hx hb dX5_gainers_55 (by decide) ?_
              exact J_56 _ ((if_pos c_46).symm) _ _ hP hS ls (lv_sub hl [0, 1, 3, 2] rfl)
            ·
              refine lv_iconst (v := 1) hx hb dX5_gainers_49 (by decide) ?_
              refine lv_iload_n hx hb dX5_gainers_50 rfl (lv_at hl 2 rfl) ?_
              refine lv_ishl hx hb dX5_gainers_51 ?_
              refine lv_goto (tgt := 56) hx hb dX5_gainers_52 (by decide) ?_
              exact J_56 _ ((if_neg c_46).symm) _ _ hP hS ls (lv_sub hl [0, 1, 3, 2] rfl)
          ·
            obtain rfl : 8 = i := by omega
            refine lv_iload_n hx hb dX5_gainers_24 rfl (lv_at hl 2 rfl) ?_
            refine lv_bipush (v := 8) hx hb dX5_gainers_25 (by decide) ?_
            refine lv_icmp_ge (tgt := 64) hx hb dX5_gainers_27 (by decide) (fun c_27 => ?_) (fun c_27 => absurd (lt_yes h_i (by decide)) c_27)
            refine lv_iload_n hx hb dX5_gainers_64 rfl (lv_at hl 3 rfl) ?_
            subst hQ
            have hP : va_P D vwCl (mdW cI cZ ad F ow mp nm gb ob ik kp tu (va_up g 19 0)) H := hP
            exact W.iret (v := gnr F kp tu x 8) hx hb hr (fun t ht _ => ⟨⟨_, (), rfl, (by rfl), by have e := hP; rw [← ht] at e; exact e⟩, hS.F ht⟩) hS.2.2 dX5_gainers_65
      exact L_24 (8 + 1) 0 (by omega) (by omega) _ (by rfl) _ _ hP hS ls (lv_sub hl [1, 2, 0, 3] rfl)
    refine lv_if_eq (tgt := 15) hx hb dX5_gainers_8 (by decide) (fun c_8 => ?_) (fun c_8 => ?_)
    ·
      have c_8 := b2i_0 c_8
      exact absurd (inB_f hM hxn) (b2i_bf c_8)
    ·
      have c_8 := b2i_1 c_8
      refine lv_iconst (v := 0) hx hb dX5_gainers_11 (by decide) ?_
      refine lv_goto (tgt := 16) hx hb dX5_gainers_12 (by decide) ?_
      exact J_16 _ _ hP hS ls (lv_sub hl [1, 2, 0] rfl)
  exact go _ _ hP hS

set_option maxHeartbeats 800000 in
set_option maxRecDepth 100000 in
theorem m_gainers_1 (l : Launch) (D : va_G) (cI cZ : ClassId) (ad : Nat → Nat) (A : Nat → Prop) (F : Nat → Nat → Int32) (ow : Nat → Int32) (mp : Nat → Int32) (nm : Int32) (gb : Int32) (ob : Int32) (ik : Nat → Int32) (kp : Nat → Int32) (tu : Nat → Int32) (g : Nat → Int32) (hA : apD 16 A ad) (x0 : Int32)  (hb1 : inB x0 0 (g 6 - 1) = false) : Met l yX5_gainers wsX5_gainers (rmr 6 141) (va_Pc [.ref (ad 0), .int x0] (rdP D ([(cI, .int), (cZ, .boolean)]) (mdW cI cZ ad F ow mp nm gb ob ik kp tu g))) (va_Qi (fun (r : Int32) (_ : Unit) => r = 0) (fun _ t => va_P D vwCl (mdW cI cZ ad F ow mp nm gb ob ik kp tu (va_up g 19 1)) t.heap) A) 0 0 A := by
  refine Met.ofW (cc := cX5_gainers) (maxL := 4) (ret := (some .int)) (by decide) rfl ?_
  intro p e s m args below meth c s₁ B hml hv
  obtain ⟨hargs, hP, hK, hN⟩ := hv
  have hx := B.exec
  have hb := B.bytes
  have hr := B.returns
  have hts := atoms_spec (ws := wsX5_gainers) B.pre
  have hown : s.vm.findClass RX5 = some m.cls := findClass_of_methodNamed B.named
  have hlocks := B.notSynchronized
  have hen : entryFrame m args 4 = entryFrame m ([.ref (ad 0), .int x0] : List Value).toArray 4 := by rw [hargs]
  rw [hen]
  have hl := lv_entry ([.ref (ad 0), .int x0]) (n := 4) (Nat.le_of_ble_eq_true rfl)
  rw [lg_entry_eq]
  generalize (lg_sl ([.ref (ad 0), .int x0]) ++ List.replicate (4 - (lg_sl ([.ref (ad 0), .int x0])).length) Slot.unset).toArray = ls at hl ⊢
  have hl : lv_has ls 4 [(0, .ref (ad 0)), (1, .int x0)] := hl
  have hS : va_S A s.heap s.heap [] := va_S.rf
  generalize hQ : MQ below (va_Qi (fun (r : Int32) (_ : Unit) => r = 0) (fun _ t => va_P D vwCl (mdW cI cZ ad F ow mp nm gb ob ik kp tu (va_up g 19 1)) t.heap) A) args s 0 0 A = Q
  have go : ∀ (H : Heap) (locs : List Loc), va_P D vwCl (mdW cI cZ ad F ow mp nm gb ob ik kp tu g) H → va_S A s.heap H locs → W p l e (headSpec wsX5_gainers (rmr 6 141)).room s m args below meth c H locs 0 0 Q (F0 m 0 ls []) := by
    intro H locs hP hS
    refine lv_iconst (v := 0) hx hb dX5_gainers_0 (by decide) ?_
    refine lv_istore_n (lv' := [(2, .int 0), (0, .ref (ad 0)), (1, .int x0)]) hx hb dX5_gainers_1 rfl hl (by decide) rfl (fun ls hl => ?_)
    refine lv_aload_n hx hb dX5_gainers_2 rfl (lv_at hl 1 rfl) ?_
    refine lv_aload_n hx hb dX5_gainers_3 rfl (lv_at hl 1 rfl) ?_
    refine lv_iload_n hx hb dX5_gainers_4 rfl (lv_at hl 2 rfl) ?_
    refine vp_callSi (W.runV (As := [.int x0]) (rest := [.ref (ad 0)]) ⟨hx, hb, hml, hown, hts⟩ (k_X5_isFolder l D cI cZ ad F ow mp nm gb ob ik kp tu g x0) (cwV 1 hts gX5_gainers_X5_isFolder rfl rfl rfl (by decide +kernel) ⟨Nat.le_of_ble_eq_true rfl, Nat.le_of_ble_eq_true rfl⟩) ⟨rd_blind, va_recv hK hP (ci := 6) (q0 := 0) rfl rfl, rd_pre hP hK hN⟩ rfl rfl hl.1 rfl (lv_room (Nat.le_of_ble_eq_true rfl)) dX5_gainers_5 ⟨Nat.le_of_ble_eq_true rfl, Nat.le_of_ble_eq_true rfl⟩) (fun r er => ?_)
    subst er
    have J_16 : ∀ (H : Heap) (locs : List Loc), va_P D vwCl (mdW cI cZ ad F ow mp nm gb ob ik kp tu g) H → va_S A s.heap H locs → ∀ ls : Array Slot, lv_has ls 4 [(0, .ref (ad 0)), (1, .int x0), (2, .int 0)] → W p l e (headSpec wsX5_gainers (rmr 6 141)).room s m args below meth c H locs 0 0 Q (F0 m 16 ls [.int 1, .ref (ad 0)]) := by
      intro  H locs hP hS ls hl
      refine va_calli (va_runV (As := [.int 1]) (rest := []) ⟨hx, hb, hml, hown, hts⟩ (k_X5_isFine l D cI cZ ad A F ow mp nm gb ob ik kp tu g hA 1) (cwV 1 hts gX5_gainers_X5_isFine rfl rfl rfl (by decide +kernel) ⟨Nat.le_of_ble_eq_true rfl, Nat.le_of_ble_eq_true rfl⟩) ⟨rd_blind, va_recv hK hP (ci := 6) (q0 := 0) rfl rfl, rd_pre hP hK hN⟩ rfl rfl hl.1 rfl (lv_room (Nat.le_of_ble_eq_true rfl)) dX5_gainers_16 ⟨Nat.le_of_ble_eq_true rfl, Nat.le_of_ble_eq_true rfl⟩) hS (fun q _ h => h) (fun q h => h) (fun r u t H locs ht hvm hw hB hz1 hk1 hS => ?_)
      have hP := hB
      rw [ht] at hP
      subst hw
      have hP : va_P D vwCl (mdW cI cZ ad F ow mp nm gb ob ik kp tu (va_up g 19 1)) H := hP
      refine top_eq (y := b2i false) (by decide) ?_
      refine lv_if_eq (tgt := 64) hx hb dX5_gainers_19 (by decide) (fun c_19 => ?_) (fun c_19 => absurd rfl c_19)
      refine lv_iload_n hx hb dX5_gainers_64 rfl (lv_at hl 2 rfl) ?_
      subst hQ
      have hP : va_P D vwCl (mdW cI cZ ad F ow mp nm gb ob ik kp tu (va_up g 19 1)) H := hP
      exact W.iret (v := 0) hx hb hr (fun t ht _ => ⟨⟨_, (), rfl, (by rfl), by have e := hP; rw [← ht] at e; exact e⟩, hS.F ht⟩) hS.2.2 dX5_gainers_65
    refine lv_if_eq (tgt := 15) hx hb dX5_gainers_8 (by decide) (fun c_8 => ?_) (fun c_8 => ?_)
    ·
      have c_8 := b2i_0 c_8
      refine lv_iconst (v := 1) hx hb dX5_gainers_15 (by decide) ?_
      exact J_16 _ _ hP hS ls (lv_sub hl [1, 2, 0] rfl)
    ·
      have c_8 := b2i_1 c_8
      exact absurd c_8 (b2i_bf hb1)
  exact go _ _ hP hS

set_option maxHeartbeats 800000 in
set_option maxRecDepth 100000 in
theorem m_isFresh (l : Launch) (D : va_G) (cI cZ : ClassId) (ad : Nat → Nat) (A : Nat → Prop) (F : Nat → Nat → Int32) (ow : Nat → Int32) (mp : Nat → Int32) (nm : Int32) (gb : Int32) (ob : Int32) (ik : Nat → Int32) (kp : Nat → Int32) (tu : Nat → Int32) (g : Nat → Int32) (hA : apD 16 A ad) (x : Nat)  (nn : Nat) (hM : okM F g nn) (hxn : x < nn) (hBo : okB F ik tu) : Met l yX5_isFresh wsX5_isFresh (rmr 7 170) (va_Pc [.ref (ad 0), .int (nI x)] (rdP D ([(cI, .int), (cZ, .boolean)]) (mdW cI cZ ad F ow mp nm gb ob ik kp tu g))) (va_Qi (fun (r : Int32) (_ : Unit) => r = b2i (frB ik kp (mMP F ow mp x) x 8)) (fun _ t => va_P D vwCl (mdW cI cZ ad F (mOwn F ow x) (fillA mp (mV F ow x (mBest F ow x)) 8) (mN F ow x (mBest F ow x)) (mGB F ow x (mBest F ow x)) (mOB F ow x (mBest F ow x)) ik kp tu (va_up g 19 0)) t.heap) A) 0 0 A := by
  refine Met.ofW (cc := cX5_isFresh) (maxL := 4) (ret := (some .boolean)) (by decide) rfl ?_
  intro p e s m args below meth c s₁ B hml hv
  obtain ⟨hargs, hP, hK, hN⟩ := hv
  have hx := B.exec
  have hb := B.bytes
  have hr := B.returns
  have hts := atoms_spec (ws := wsX5_isFresh) B.pre
  have hown : s.vm.findClass RX5 = some m.cls := findClass_of_methodNamed B.named
  have hlocks := B.notSynchronized
  have hen : entryFrame m args 4 = entryFrame m ([.ref (ad 0), .int (nI x)] : List Value).toArray 4 := by rw [hargs]
  rw [hen]
  have hl := lv_entry ([.ref (ad 0), .int (nI x)]) (n := 4) (Nat.le_of_ble_eq_true rfl)
  rw [lg_entry_eq]
  generalize (lg_sl ([.ref (ad 0), .int (nI x)]) ++ List.replicate (4 - (lg_sl ([.ref (ad 0), .int (nI x)])).length) Slot.unset).toArray = ls at hl ⊢
  have hl : lv_has ls 4 [(0, .ref (ad 0)), (1, .int (nI x))] := hl
  have hS : va_S A s.heap s.heap [] := va_S.rf
  generalize hQ : MQ below (va_Qi (fun (r : Int32) (_ : Unit) => r = b2i (frB ik kp (mMP F ow mp x) x 8)) (fun _ t => va_P D vwCl (mdW cI cZ ad F (mOwn F ow x) (fillA mp (mV F ow x (mBest F ow x)) 8) (mN F ow x (mBest F ow x)) (mGB F ow x (mBest F ow x)) (mOB F ow x (mBest F ow x)) ik kp tu (va_up g 19 0)) t.heap) A) args s 0 0 A = Q
  have go : ∀ (H : Heap) (locs : List Loc), va_P D vwCl (mdW cI cZ ad F ow mp nm gb ob ik kp tu g) H → va_S A s.heap H locs → W p l e (headSpec wsX5_isFresh (rmr 7 170)).room s m args below meth c H locs 0 0 Q (F0 m 0 ls []) := by
    intro H locs hP hS
    have hnn := hM.2.1.2
    refine lv_aload_n hx hb dX5_isFresh_0 rfl (lv_at hl 0 rfl) ?_
    refine lv_aload_n hx hb dX5_isFresh_1 rfl (lv_at hl 0 rfl) ?_
    refine lv_iload_n hx hb dX5_isFresh_2 rfl (lv_at hl 1 rfl) ?_
    refine vp_callSi (W.runV (As := [.int (nI x)]) (rest := [.ref (ad 0)]) ⟨hx, hb, hml, hown, hts⟩ (k_X5_isFolder l D cI cZ ad F ow mp nm gb ob ik kp tu g (nI x)) (cwV 1 hts gX5_isFresh_X5_isFolder rfl rfl rfl (by decide +kernel) ⟨Nat.le_of_ble_eq_true rfl, Nat.le_of_ble_eq_true rfl⟩) ⟨rd_blind, va_recv hK hP (ci := 6) (q0 := 0) rfl rfl, rd_pre hP hK hN⟩ rfl rfl hl.1 rfl (lv_room (Nat.le_of_ble_eq_true rfl)) dX5_isFresh_3 ⟨Nat.le_of_ble_eq_true rfl, Nat.le_of_ble_eq_true rfl⟩) (fun r er => ?_)
    subst er
    have J_14 : ∀ (H : Heap) (locs : List Loc), va_P D vwCl (mdW cI cZ ad F ow mp nm gb ob ik kp tu g) H → va_S A s.heap H locs → ∀ ls : Array Slot, lv_has ls 4 [(0, .ref (ad 0)), (1, .int (nI x))] → W p l e (headSpec wsX5_isFresh (rmr 7 170)).room s m args below meth c H locs 0 0 Q (F0 m 14 ls [.int 0, .ref (ad 0)]) := by
      intro  H locs hP hS ls hl
      refine va_calli (va_runV (As := [.int 0]) (rest := []) ⟨hx, hb, hml, hown, hts⟩ (k_X5_isFine l D cI cZ ad A F ow mp nm gb ob ik kp tu g hA 0) (cwV 1 hts gX5_isFresh_X5_isFine rfl rfl rfl (by decide +kernel) ⟨Nat.le_of_ble_eq_true rfl, Nat.le_of_ble_eq_true rfl⟩) ⟨rd_blind, va_recv hK hP (ci := 6) (q0 := 0) rfl rfl, rd_pre hP hK hN⟩ rfl rfl hl.1 rfl (lv_room (Nat.le_of_ble_eq_true rfl)) dX5_isFresh_14 ⟨Nat.le_of_ble_eq_true rfl, Nat.le_of_ble_eq_true rfl⟩) hS (fun q _ h => h) (fun q h => h) (fun r u t H locs ht hvm hw hB hz1 hk1 hS => ?_)
      have hP := hB
      rw [ht] at hP
      subst hw
      have hP : va_P D vwCl (mdW cI cZ ad F ow mp nm gb ob ik kp tu (va_up g 19 0)) H := hP
      refine top_eq (y := b2i true) (by decide) ?_
      refine lv_if_ne (tgt := 22) hx hb dX5_isFresh_17 (by decide) (fun c_17 => ?_) (fun c_17 => absurd c_17 (by decide))
      refine lv_aload_n hx hb dX5_isFresh_22 rfl (lv_at hl 0 rfl) ?_
      refine lv_iload_n hx hb dX5_isFresh_23 rfl (lv_at hl 1 rfl) ?_
      refine va_calli (va_runV (As := [.int (nI x)]) (rest := []) ⟨hx, hb, hml, hown, hts⟩ (k_X5_mapsBest l D cI cZ ad A F ow mp nm gb ob ik kp tu (va_up g 19 0) hA x nn hM.thr hxn) (cwV 1 hts gX5_isFresh_X5_mapsBest rfl rfl rfl (by decide +kernel) ⟨Nat.le_of_ble_eq_true rfl, Nat.le_of_ble_eq_true rfl⟩) ⟨rd_blind, va_recv hK hP (ci := 6) (q0 := 0) rfl rfl, rd_pre hP hK hN⟩ rfl rfl hl.1 rfl (lv_room (Nat.le_of_ble_eq_true rfl)) dX5_isFresh_24 ⟨Nat.le_of_ble_eq_true rfl, Nat.le_of_ble_eq_true rfl⟩) hS (fun q _ h => h) (fun q h => h) (fun r u t H locs ht hvm hw hB hz1 hk1 hS => ?_)
      have hP := hB
      rw [ht] at hP
      subst hw
      have hP : va_P D vwCl (mdW cI cZ ad F (mOwn F ow x) (fillA mp (mV F ow x (mBest F ow x)) 8) (mN F ow x (mBest F ow x)) (mGB F ow x (mBest F ow x)) (mOB F ow x (mBest F ow x)) ik kp tu (va_up g 19 0)) H := hP
      refine lv_pop hx hb dX5_isFresh_27 rfl ?_
      have hP : va_P D vwCl (mdW cI cZ ad F (mOwn F ow x) (mMP F ow mp x) (mN F ow x (mBest F ow x)) (mGB F ow x (mBest F ow x)) (mOB F ow x (mBest F ow x)) ik kp tu (va_up g 19 0)) H := hP
      refine lv_aload_n hx hb dX5_isFresh_28 rfl (lv_at hl 0 rfl) ?_
      refine va_get (D := D) (ci := 6) (v := .ref (ad 13)) (C := RX5) (T := TX5) (N := 20) hx hb hts (fun _ h => List.mem_cons_of_mem _ (List.mem_append_right _ (h))) hown hK hP 0 rfl rfl 16 (by decide) (hts _ (List.mem_of_getElem? (i := 1) rfl)) (fun _ h9 => h9) rfl dX5_isFresh_29 ?_
      refine lv_iload_n hx hb dX5_isFresh_32 rfl (lv_at hl 1 rfl) ?_
      refine ld_z (k := x) hx hb hK hP 13 1 rfl rfl (by omega) (by decide) dX5_isFresh_33 ?_
      refine top_eq (y := b2i (toB (ik x))) (by exact of_b2i (hBo.2.2.1 x)) ?_
      refine lv_istore_n (lv' := [(2, .int (b2i (toB (ik x)))), (0, .ref (ad 0)), (1, .int (nI x))]) hx hb dX5_isFresh_34 rfl hl (by decide) rfl (fun ls hl => ?_)
      refine lv_iconst (v := 0) hx hb dX5_isFresh_35 (by decide) ?_
      refine lv_istore_n (lv' := [(3, .int 0), (2, .int (b2i (toB (ik x)))), (0, .ref (ad 0)), (1, .int (nI x))]) hx hb dX5_isFresh_36 rfl hl (by decide) rfl (fun ls hl => ?_)
      have L_37 : ∀ fz i : Nat, i ≤ 8 → 8 - i < fz → ∀ (v2 : Int32), v2 = (b2i (frB ik kp (mMP F ow mp x) x i)) → ∀ (H : Heap) (locs : List Loc), va_P D vwCl (mdW cI cZ ad F (mOwn F ow x) (mMP F ow mp x) (mN F ow x (mBest F ow x)) (mGB F ow x (mBest F ow x)) (mOB F ow x (mBest F ow x)) ik kp tu (va_up g 19 0)) H → va_S A s.heap H locs → ∀ ls : Array Slot, lv_has ls 4 [(0, .ref (ad 0)), (1, .int (nI x)), (3, .int (nI i)), (2, .int v2)] → W p l e (headSpec wsX5_isFresh (rmr 7 170)).room s m args below meth c H locs 0 0 Q (F0 m 37 ls []) := by
        intro fz
        induction fz with
        | zero => intro i _ h; exact absurd h (Nat.not_lt_zero _)
        | succ fz ih_37 =>
          intro i hi_37 hn_37 v2 ev2 H locs hP hS ls hl
          subst ev2
          rcases Nat.lt_or_ge i 8 with h_i | h_i
          ·
            refine lv_iload_n hx hb dX5_isFresh_37 rfl (lv_at hl 2 rfl) ?_
            refine lv_bipush (v := 8) hx hb dX5_isFresh_38 (by decide) ?_
            refine lv_icmp_ge (tgt := 79) hx hb dX5_isFresh_40 (by decide) (fun c_40 => absurd c_40 (lt_no h_i (by decide))) (fun c_40 => ?_)
            refine lv_iload_n hx hb dX5_isFresh_43 rfl (lv_at hl 3 rfl) ?_
            have J_72 : ∀ (z0 : Int32), z0 = (if (frB ik kp (mMP F ow mp x) x i) = true then if (kp ((8 * x) + i)) = ((mMP F ow mp x) i) then 1 else 0 else 0) → ∀ (H : Heap) (locs : List Loc), va_P D vwCl (mdW cI cZ ad F (mOwn F ow x) (mMP F ow mp x) (mN F ow x (mBest F ow x)) (mGB F ow x (mBest F ow x)) (mOB F ow x (mBest F ow x)) ik kp tu (va_up g 19 0)) H → va_S A s.heap H locs → ∀ ls : Array Slot, lv_has ls 4 [(0, .ref (ad 0)), (1, .int (nI x)), (2, .int (b2i (frB ik kp (mMP F ow mp x) x i))), (3, .int (nI i))] → W p l e (headSpec wsX5_isFresh (rmr 7 170)).room s m args below meth c H locs 0 0 Q (F0 m 72 ls [.int z0]) := by
              intro z0 ez0 H locs hP hS ls hl
              subst ez0
              refine lv_istore_n (lv' := [(2, .int (if (frB ik kp (mMP F ow mp x) x i) = true then if (kp ((8 * x) + i)) = ((mMP F ow mp x) i) then 1 else 0 else 0)), (0, .ref (ad 0)), (1, .int (nI x)), (3, .int (nI i))]) hx hb dX5_isFresh_72 rfl hl (by decide) rfl (fun ls hl => ?_)
              refine lv_iinc (v := nI (i + 1)) (lv' := [(3, .int (nI (i + 1))), (2, .int (if (frB ik kp (mMP F ow mp x) x i) = true then if (kp ((8 * x) + i)) = ((mMP F ow mp x) i) then 1 else 0 else 0)), (0, .ref (ad 0)), (1, .int (nI x))]) hx hb dX5_isFresh_73 hl (k := 3) rfl (by exact iinc_n _) (by decide) rfl (fun ls hl => ?_)
              refine lv_goto (tgt := 37) hx hb dX5_isFresh_76 (by decide) ?_
              exact ih_37 (i + 1) (by omega) (by omega) _ (by exact frB_s ik kp _ x i) _ _ hP hS ls (lv_sub hl [2, 3, 0, 1] rfl)
            refine lv_if_eq (tgt := 71) hx hb dX5_isFresh_44 (by decide) (fun c_44 => ?_) (fun c_44 => ?_)
            ·
              have c_44 := b2i_0 c_44
              refine lv_iconst (v := 0) hx hb dX5_isFresh_71 (by decide) ?_
              exact J_72 _ ((if_neg (b2i_bf c_44)).symm) _ _ hP hS ls (lv_sub hl [0, 1, 3, 2] rfl)
            ·
              have c_44 := b2i_1 c_44
              refine lv_aload_n hx hb dX5_isFresh_47 rfl (lv_at hl 0 rfl) ?_
              refine va_get (D := D) (ci := 6) (v := .ref (ad 14)) (C := RX5) (T := TX5) (N := 20) hx hb hts (fun _ h => List.mem_cons_of_mem _ (List.mem_append_right _ (h))) hown hK hP 0 rfl rfl 17 (by decide) (hts _ (List.mem_of_getElem? (i := 2) rfl)) (fun _ h9 => h9) rfl dX5_isFresh_48 ?_
              refine lv_bipush (v := 8) hx hb dX5_isFresh_51 (by decide) ?_
              refine lv_iload_n hx hb dX5_isFresh_53 rfl (lv_at hl 1 rfl) ?_
              refine imul_n (x := 8) (y := x) hx hb dX5_isFresh_54 ?_
              refine lv_iload_n hx hb dX5_isFresh_55 rfl (lv_at hl 2 rfl) ?_
              refine iadd_n (x := 8 * x) (y := i) hx hb dX5_isFresh_56 ?_
              refine ld_i (k := (8 * x) + i) hx hb hK hP 14 0 rfl rfl (by omega) (by decide) dX5_isFresh_57 ?_
              refine lv_aload_n hx hb dX5_isFresh_58 rfl (lv_at hl 0 rfl) ?_
              refine va_get (D := D) (ci := 6) (v := .ref (ad 12)) (C := RX5) (T := TX5) (N := 20) hx hb hts (fun _ h => List.mem_cons_of_mem _ (List.mem_append_right _ (h))) hown hK hP 0 rfl rfl 12 (by decide) (hts _ (List.mem_of_getElem? (i := 3) rfl)) (fun _ h9 => h9) rfl dX5_isFresh_59 ?_
              refine lv_iload_n hx hb dX5_isFresh_62 rfl (lv_at hl 2 rfl) ?_
              refine ld_i (k := i) hx hb hK hP 12 0 rfl rfl (by omega) (by decide) dX5_isFresh_63 ?_
              refine lv_icmp_ne (tgt := 71) hx hb dX5_isFresh_64 (by decide) (fun c_64 => ?_) (fun c_64 => ?_)
              ·
                refine lv_iconst (v := 0) hx hb dX5_isFresh_71 (by decide) ?_
                exact J_72 _ (((if_pos c_44).trans (if_neg c_64)).symm) _ _ hP hS ls (lv_sub hl [0, 1, 3, 2] rfl)
              ·
                refine lv_iconst (v := 1) hx hb dX5_isFresh_67 (by decide) ?_
                refine lv_goto (tgt := 72) hx hb dX5_isFresh_68 (by decide) ?_
                exact J_72 _ (((if_pos c_44).trans (if_pos c_64)).symm) _ _ hP hS ls (lv_sub hl [0, 1, 3, 2] rfl)
          ·
            obtain rfl : 8 = i := by omega
            refine lv_iload_n hx hb dX5_isFresh_37 rfl (lv_at hl 2 rfl) ?_
            refine lv_bipush (v := 8) hx hb dX5_isFresh_38 (by decide) ?_
            refine lv_icmp_ge (tgt := 79) hx hb dX5_isFresh_40 (by decide) (fun c_40 => ?_) (fun c_40 => absurd (lt_yes h_i (by decide)) c_40)
            refine lv_iload_n hx hb dX5_isFresh_79 rfl (lv_at hl 3 rfl) ?_
            subst hQ
            have hP : va_P D vwCl (mdW cI cZ ad F (mOwn F ow x) (mMP F ow mp x) (mN F ow x (mBest F ow x)) (mGB F ow x (mBest F ow x)) (mOB F ow x (mBest F ow x)) ik kp tu (va_up g 19 0)) H := hP
            have qmp : mMP F ow mp x = fillA mp (mV F ow x (mBest F ow x)) 8 := by rfl
            have hP : va_P D vwCl (mdW cI cZ ad F (mOwn F ow x) (fillA mp (mV F ow x (mBest F ow x)) 8) (mN F ow x (mBest F ow x)) (mGB F ow x (mBest F ow x)) (mOB F ow x (mBest F ow x)) ik kp tu (va_up g 19 0)) H := mdW_P rfl rfl qmp rfl rfl rfl rfl rfl rfl rfl hP
            have hrt : (b2i (frB ik kp (mMP F ow mp x) x 8) : Int32) = b2i (frB ik kp (mMP F ow mp x) x 8) := by rfl
            exact W.zret (v := b2i (frB ik kp (mMP F ow mp x) x 8)) hx hb hr (by rw [hrt]; exact nar_b2i _) (fun t ht _ => ⟨⟨_, (), rfl, hrt, by have e := hP; rw [← ht] at e; exact e⟩, hS.F ht⟩) hS.2.2 dX5_isFresh_80
      exact L_37 (8 + 1) 0 (by omega) (by omega) _ (by rfl) _ _ hP hS ls (lv_sub hl [2, 3, 0, 1] rfl)
    refine lv_if_eq (tgt := 13) hx hb dX5_isFresh_6 (by decide) (fun c_6 => ?_) (fun c_6 => ?_)
    ·
      have c_6 := b2i_0 c_6
      exact absurd (inB_f hM hxn) (b2i_bf c_6)
    ·
      have c_6 := b2i_1 c_6
      refine lv_iconst (v := 0) hx hb dX5_isFresh_9 (by decide) ?_
      refine lv_goto (tgt := 14) hx hb dX5_isFresh_10 (by decide) ?_
      exact J_14 _ _ hP hS ls (lv_sub hl [0, 1] rfl)
  exact go _ _ hP hS

set_option maxHeartbeats 800000 in
set_option maxRecDepth 100000 in
theorem m_isFresh_1 (l : Launch) (D : va_G) (cI cZ : ClassId) (ad : Nat → Nat) (A : Nat → Prop) (F : Nat → Nat → Int32) (ow : Nat → Int32) (mp : Nat → Int32) (nm : Int32) (gb : Int32) (ob : Int32) (ik : Nat → Int32) (kp : Nat → Int32) (tu : Nat → Int32) (g : Nat → Int32) (hA : apD 16 A ad) (x0 : Int32)  (hb1 : inB x0 0 (g 6 - 1) = false) : Met l yX5_isFresh wsX5_isFresh (rmr 7 170) (va_Pc [.ref (ad 0), .int x0] (rdP D ([(cI, .int), (cZ, .boolean)]) (mdW cI cZ ad F ow mp nm gb ob ik kp tu g))) (va_Qi (fun (r : Int32) (_ : Unit) => r = b2i false) (fun _ t => va_P D vwCl (mdW cI cZ ad F ow mp nm gb ob ik kp tu (va_up g 19 1)) t.heap) A) 0 0 A := by
  refine Met.ofW (cc := cX5_isFresh) (maxL := 4) (ret := (some .boolean)) (by decide) rfl ?_
  intro p e s m args below meth c s₁ B hml hv
  obtain ⟨hargs, hP, hK, hN⟩ := hv
  have hx := B.exec
  have hb := B.bytes
  have hr := B.returns
  have hts := atoms_spec (ws := wsX5_isFresh) B.pre
  have hown : s.vm.findClass RX5 = some m.cls := findClass_of_methodNamed B.named
  have hlocks := B.notSynchronized
  have hen : entryFrame m args 4 = entryFrame m ([.ref (ad 0), .int x0] : List Value).toArray 4 := by rw [hargs]
  rw [hen]
  have hl := lv_entry ([.ref (ad 0), .int x0]) (n := 4) (Nat.le_of_ble_eq_true rfl)
  rw [lg_entry_eq]
  generalize (lg_sl ([.ref (ad 0), .int x0]) ++ List.replicate (4 - (lg_sl ([.ref (ad 0), .int x0])).length) Slot.unset).toArray = ls at hl ⊢
  have hl : lv_has ls 4 [(0, .ref (ad 0)), (1, .int x0)] := hl
  have hS : va_S A s.heap s.heap [] := va_S.rf
  generalize hQ : MQ below (va_Qi (fun (r : Int32) (_ : Unit) => r = b2i false) (fun _ t => va_P D vwCl (mdW cI cZ ad F ow mp nm gb ob ik kp tu (va_up g 19 1)) t.heap) A) args s 0 0 A = Q
  have go : ∀ (H : Heap) (locs : List Loc), va_P D vwCl (mdW cI cZ ad F ow mp nm gb ob ik kp tu g) H → va_S A s.heap H locs → W p l e (headSpec wsX5_isFresh (rmr 7 170)).room s m args below meth c H locs 0 0 Q (F0 m 0 ls []) := by
    intro H locs hP hS
    refine lv_aload_n hx hb dX5_isFresh_0 rfl (lv_at hl 0 rfl) ?_
    refine lv_aload_n hx hb dX5_isFresh_1 rfl (lv_at hl 0 rfl) ?_
    refine lv_iload_n hx hb dX5_isFresh_2 rfl (lv_at hl 1 rfl) ?_
    refine vp_callSi (W.runV (As := [.int x0]) (rest := [.ref (ad 0)]) ⟨hx, hb, hml, hown, hts⟩ (k_X5_isFolder l D cI cZ ad F ow mp nm gb ob ik kp tu g x0) (cwV 1 hts gX5_isFresh_X5_isFolder rfl rfl rfl (by decide +kernel) ⟨Nat.le_of_ble_eq_true rfl, Nat.le_of_ble_eq_true rfl⟩) ⟨rd_blind, va_recv hK hP (ci := 6) (q0 := 0) rfl rfl, rd_pre hP hK hN⟩ rfl rfl hl.1 rfl (lv_room (Nat.le_of_ble_eq_true rfl)) dX5_isFresh_3 ⟨Nat.le_of_ble_eq_true rfl, Nat.le_of_ble_eq_true rfl⟩) (fun r er => ?_)
    subst er
    have J_14 : ∀ (H : Heap) (locs : List Loc), va_P D vwCl (mdW cI cZ ad F ow mp nm gb ob ik kp tu g) H → va_S A s.heap H locs → ∀ ls : Array Slot, lv_has ls 4 [(0, .ref (ad 0)), (1, .int x0)] → W p l e (headSpec wsX5_isFresh (rmr 7 170)).room s m args below meth c H locs 0 0 Q (F0 m 14 ls [.int 1, .ref (ad 0)]) := by
      intro  H locs hP hS ls hl
      refine va_calli (va_runV (As := [.int 1]) (rest := []) ⟨hx, hb, hml, hown, hts⟩ (k_X5_isFine l D cI cZ ad A F ow mp nm gb ob ik kp tu g hA 1) (cwV 1 hts gX5_isFresh_X5_isFine rfl rfl rfl (by decide +kernel) ⟨Nat.le_of_ble_eq_true rfl, Nat.le_of_ble_eq_true rfl⟩) ⟨rd_blind, va_recv hK hP (ci := 6) (q0 := 0) rfl rfl, rd_pre hP hK hN⟩ rfl rfl hl.1 rfl (lv_room (Nat.le_of_ble_eq_true rfl)) dX5_isFresh_14 ⟨Nat.le_of_ble_eq_true rfl, Nat.le_of_ble_eq_true rfl⟩) hS (fun q _ h => h) (fun q h => h) (fun r u t H locs ht hvm hw hB hz1 hk1 hS => ?_)
      have hP := hB
      rw [ht] at hP
      subst hw
      have hP : va_P D vwCl (mdW cI cZ ad F ow mp nm gb ob ik kp tu (va_up g 19 1)) H := hP
      refine top_eq (y := b2i false) (by decide) ?_
      refine lv_if_ne (tgt := 22) hx hb dX5_isFresh_17 (by decide) (fun c_17 => absurd rfl c_17) (fun c_17 => ?_)
      refine lv_iconst (v := 0) hx hb dX5_isFresh_20 (by decide) ?_
      subst hQ
      have hP : va_P D vwCl (mdW cI cZ ad F ow mp nm gb ob ik kp tu (va_up g 19 1)) H := hP
      have hrt : (0 : Int32) = b2i false := by rfl
      exact W.zret (v := 0) hx hb hr (by rw [hrt]; exact nar_b2i _) (fun t ht _ => ⟨⟨_, (), rfl, hrt, by have e := hP; rw [← ht] at e; exact e⟩, hS.F ht⟩) hS.2.2 dX5_isFresh_21
    refine lv_if_eq (tgt := 13) hx hb dX5_isFresh_6 (by decide) (fun c_6 => ?_) (fun c_6 => ?_)
    ·
      have c_6 := b2i_0 c_6
      refine lv_iconst (v := 1) hx hb dX5_isFresh_13 (by decide) ?_
      exact J_14 _ _ hP hS ls (lv_sub hl [0, 1] rfl)
    ·
      have c_6 := b2i_1 c_6
      exact absurd c_6 (b2i_bf hb1)
  exact go _ _ hP hS

set_option maxHeartbeats 800000 in
set_option maxRecDepth 100000 in
theorem m_turn (l : Launch) (D : va_G) (cI cZ : ClassId) (ad : Nat → Nat) (A : Nat → Prop) (F : Nat → Nat → Int32) (ow : Nat → Int32) (mp : Nat → Int32) (nm : Int32) (gb : Int32) (ob : Int32) (ik : Nat → Int32) (kp : Nat → Int32) (tu : Nat → Int32) (g : Nat → Int32) (hA : apD 16 A ad) (x : Nat)  (nn : Nat) (hM : okM F g nn) (hxn : x < nn) (hBo : okB F ik tu) (hk : ¬ ik x = 0) : Met l yX5_turn wsX5_turn (rmr 2 43) (va_Pc [.ref (ad 0), .int (nI x)] (rdP D ([(cI, .int), (cZ, .boolean)]) (mdW cI cZ ad F ow mp nm gb ob ik kp tu g))) (va_Qi (fun (r : Int32) (_ : Unit) => r = b2i (!toB (tu x))) (fun _ t => va_P D vwCl (mdW cI cZ ad F ow mp nm gb ob ik kp (upd tu x (b2i (!toB (tu x)))) (va_up g 19 0)) t.heap) A) 0 0 A := by
  refine Met.ofW (cc := cX5_turn) (maxL := 2) (ret := (some .boolean)) (by decide) rfl ?_
  intro p e s m args below meth c s₁ B hml hv
  obtain ⟨hargs, hP, hK, hN⟩ := hv
  have hx := B.exec
  have hb := B.bytes
  have hr := B.returns
  have hts := atoms_spec (ws := wsX5_turn) B.pre
  have hown : s.vm.findClass RX5 = some m.cls := findClass_of_methodNamed B.named
  have hlocks := B.notSynchronized
  have hen : entryFrame m args 2 = entryFrame m ([.ref (ad 0), .int (nI x)] : List Value).toArray 2 := by rw [hargs]
  rw [hen]
  have hl := lv_entry ([.ref (ad 0), .int (nI x)]) (n := 2) (Nat.le_of_ble_eq_true rfl)
  rw [lg_entry_eq]
  generalize (lg_sl ([.ref (ad 0), .int (nI x)]) ++ List.replicate (2 - (lg_sl ([.ref (ad 0), .int (nI x)])).length) Slot.unset).toArray = ls at hl ⊢
  have hl : lv_has ls 2 [(0, .ref (ad 0)), (1, .int (nI x))] := hl
  have hS : va_S A s.heap s.heap [] := va_S.rf
  generalize hQ : MQ below (va_Qi (fun (r : Int32) (_ : Unit) => r = b2i (!toB (tu x))) (fun _ t => va_P D vwCl (mdW cI cZ ad F ow mp nm gb ob ik kp (upd tu x (b2i (!toB (tu x)))) (va_up g 19 0)) t.heap) A) args s 0 0 A = Q
  have go : ∀ (H : Heap) (locs : List Loc), va_P D vwCl (mdW cI cZ ad F ow mp nm gb ob ik kp tu g) H → va_S A s.heap H locs → W p l e (headSpec wsX5_turn (rmr 2 43)).room s m args below meth c H locs 0 0 Q (F0 m 0 ls []) := by
    intro H locs hP hS
    have hnn := hM.2.1.2
    refine lv_aload_n hx hb dX5_turn_0 rfl (lv_at hl 0 rfl) ?_
    refine lv_aload_n hx hb dX5_turn_1 rfl (lv_at hl 0 rfl) ?_
    refine lv_iload_n hx hb dX5_turn_2 rfl (lv_at hl 1 rfl) ?_
    refine vp_callSi (W.runV (As := [.int (nI x)]) (rest := [.ref (ad 0)]) ⟨hx, hb, hml, hown, hts⟩ (k_X5_isFolder l D cI cZ ad F ow mp nm gb ob ik kp tu g (nI x)) (cwV 1 hts gX5_turn_X5_isFolder rfl rfl rfl (by decide +kernel) ⟨Nat.le_of_ble_eq_true rfl, Nat.le_of_ble_eq_true rfl⟩) ⟨rd_blind, va_recv hK hP (ci := 6) (q0 := 0) rfl rfl, rd_pre hP hK hN⟩ rfl rfl hl.1 rfl (lv_room (Nat.le_of_ble_eq_true rfl)) dX5_turn_3 ⟨Nat.le_of_ble_eq_true rfl, Nat.le_of_ble_eq_true rfl⟩) (fun r er => ?_)
    subst er
    have J_27 : ∀ (H : Heap) (locs : List Loc), va_P D vwCl (mdW cI cZ ad F ow mp nm gb ob ik kp tu g) H → va_S A s.heap H locs → ∀ ls : Array Slot, lv_has ls 2 [(0, .ref (ad 0)), (1, .int (nI x))] → W p l e (headSpec wsX5_turn (rmr 2 43)).room s m args below meth c H locs 0 0 Q (F0 m 27 ls [.int 0, .ref (ad 0)]) := by
      intro  H locs hP hS ls hl
      refine va_calli (va_runV (As := [.int 0]) (rest := []) ⟨hx, hb, hml, hown, hts⟩ (k_X5_isFine l D cI cZ ad A F ow mp nm gb ob ik kp tu g hA 0) (cwV 1 hts gX5_turn_X5_isFine rfl rfl rfl (by decide +kernel) ⟨Nat.le_of_ble_eq_true rfl, Nat.le_of_ble_eq_true rfl⟩) ⟨rd_blind, va_recv hK hP (ci := 6) (q0 := 0) rfl rfl, rd_pre hP hK hN⟩ rfl rfl hl.1 rfl (lv_room (Nat.le_of_ble_eq_true rfl)) dX5_turn_27 ⟨Nat.le_of_ble_eq_true rfl, Nat.le_of_ble_eq_true rfl⟩) hS (fun q _ h => h) (fun q h => h) (fun r u t H locs ht hvm hw hB hz1 hk1 hS => ?_)
      have hP := hB
      rw [ht] at hP
      subst hw
      have hP : va_P D vwCl (mdW cI cZ ad F ow mp nm gb ob ik kp tu (va_up g 19 0)) H := hP
      refine top_eq (y := b2i true) (by decide) ?_
      refine lv_if_ne (tgt := 35) hx hb dX5_turn_30 (by decide) (fun c_30 => ?_) (fun c_30 => absurd c_30 (by decide))
      refine lv_aload_n hx hb dX5_turn_35 rfl (lv_at hl 0 rfl) ?_
      refine va_get (D := D) (ci := 6) (v := .ref (ad 15)) (C := RX5) (T := TX5) (N := 20) hx hb hts (fun _ h => List.mem_cons_of_mem _ (List.mem_append_right _ (h))) hown hK hP 0 rfl rfl 18 (by decide) (hts _ (List.mem_of_getElem? (i := 2) rfl)) (fun _ h9 => h9) rfl dX5_turn_36 ?_
      refine lv_iload_n hx hb dX5_turn_39 rfl (lv_at hl 1 rfl) ?_
      refine lv_aload_n hx hb dX5_turn_40 rfl (lv_at hl 0 rfl) ?_
      refine va_get (D := D) (ci := 6) (v := .ref (ad 15)) (C := RX5) (T := TX5) (N := 20) hx hb hts (fun _ h => List.mem_cons_of_mem _ (List.mem_append_right _ (h))) hown hK hP 0 rfl rfl 18 (by decide) (hts _ (List.mem_of_getElem? (i := 2) rfl)) (fun _ h9 => h9) rfl dX5_turn_41 ?_
      refine lv_iload_n hx hb dX5_turn_44 rfl (lv_at hl 1 rfl) ?_
      refine ld_z (k := x) hx hb hK hP 15 1 rfl rfl (by omega) (by decide) dX5_turn_45 ?_
      refine top_eq (y := b2i (toB (tu x))) (by exact of_b2i (hBo.2.2.2 x)) ?_
      have J_54 : ∀ (z0 : Int32), z0 = (if (toB (tu x)) = true then 0 else 1) → ∀ (H : Heap) (locs : List Loc), va_P D vwCl (mdW cI cZ ad F ow mp nm gb ob ik kp tu (va_up g 19 0)) H → va_S A s.heap H locs → ∀ ls : Array Slot, lv_has ls 2 [(0, .ref (ad 0)), (1, .int (nI x))] → W p l e (headSpec wsX5_turn (rmr 2 43)).room s m args below meth c H locs 0 0 Q (F0 m 54 ls [.int z0, .int (nI x), .ref (ad 15)]) := by
        intro z0 ez0 H locs hP hS ls hl
        subst ez0
        refine top_eq (y := b2i (!toB (tu x))) (by exact nb_if _) ?_
        refine st_z (k := x) hx hb hK hP (md_D hA) hS 15 1 rfl rfl (by omega) (by decide) (by exact vpn_b2i _) dX5_turn_54 (fun H locs hP _ hS => ?_)
        have hP : va_P D vwCl (mdW cI cZ ad F ow mp nm gb ob ik kp (upd tu x (b2i (!toB (tu x)))) (va_up g 19 0)) H := hP
        refine lv_aload_n hx hb dX5_turn_55 rfl (lv_at hl 0 rfl) ?_
        refine va_get (D := D) (ci := 6) (v := .ref (ad 15)) (C := RX5) (T := TX5) (N := 20) hx hb hts (fun _ h => List.mem_cons_of_mem _ (List.mem_append_right _ (h))) hown hK hP 0 rfl rfl 18 (by decide) (hts _ (List.mem_of_getElem? (i := 2) rfl)) (fun _ h9 => h9) rfl dX5_turn_56 ?_
        refine lv_iload_n hx hb dX5_turn_59 rfl (lv_at hl 1 rfl) ?_
        refine ld_z (k := x) hx hb hK hP 15 1 rfl rfl (by omega) (by decide) dX5_turn_60 ?_
        refine top_eq (y := b2i (!toB (tu x))) pk_us ?_
        subst hQ
        have hP : va_P D vwCl (mdW cI cZ ad F ow mp nm gb ob ik kp (upd tu x (b2i (!toB (tu x)))) (va_up g 19 0)) H := hP
        have hrt : (b2i (!toB (tu x)) : Int32) = b2i (!toB (tu x)) := by rfl
        exact W.zret (v := b2i (!toB (tu x))) hx hb hr (by rw [hrt]; exact nar_b2i _) (fun t ht _ => ⟨⟨_, (), rfl, hrt, by have e := hP; rw [← ht] at e; exact e⟩, hS.F ht⟩) hS.2.2 dX5_turn_61
      refine lv_if_ne (tgt := 53) hx hb dX5_turn_46 (by decide) (fun c_46 => ?_) (fun c_46 => ?_)
      ·
        have c_46 := b2i_1 c_46
        refine lv_iconst (v := 0) hx hb dX5_turn_53 (by decide) ?_
        exact J_54 _ ((if_pos c_46).symm) _ _ hP hS ls (lv_sub hl [0, 1] rfl)
      ·
        have c_46 := b2i_0 c_46
        refine lv_iconst (v := 1) hx hb dX5_turn_49 (by decide) ?_
        refine lv_goto (tgt := 54) hx hb dX5_turn_50 (by decide) ?_
        exact J_54 _ ((if_neg (b2i_bf c_46)).symm) _ _ hP hS ls (lv_sub hl [0, 1] rfl)
    refine lv_if_ne (tgt := 13) hx hb dX5_turn_6 (by decide) (fun c_6 => ?_) (fun c_6 => ?_)
    ·
      have c_6 := b2i_1 c_6
      refine lv_aload_n hx hb dX5_turn_13 rfl (lv_at hl 0 rfl) ?_
      refine va_get (D := D) (ci := 6) (v := .ref (ad 13)) (C := RX5) (T := TX5) (N := 20) hx hb hts (fun _ h => List.mem_cons_of_mem _ (List.mem_append_right _ (h))) hown hK hP 0 rfl rfl 16 (by decide) (hts _ (List.mem_of_getElem? (i := 1) rfl)) (fun _ h9 => h9) rfl dX5_turn_14 ?_
      refine lv_iload_n hx hb dX5_turn_17 rfl (lv_at hl 1 rfl) ?_
      refine ld_z (k := x) hx hb hK hP 13 1 rfl rfl (by omega) (by decide) dX5_turn_18 ?_
      refine lv_if_ne (tgt := 26) hx hb dX5_turn_19 (by decide) (fun c_19 => ?_) (fun c_19 => ?_)
      ·
        refine lv_iconst (v := 0) hx hb dX5_turn_26 (by decide) ?_
        exact J_27 _ _ hP hS ls (lv_sub hl [0, 1] rfl)
      ·
        exact absurd c_19 hk
    ·
      have c_6 := b2i_0 c_6
      exact absurd (inB_f hM hxn) (b2i_bf c_6)
  exact go _ _ hP hS

set_option maxHeartbeats 800000 in
set_option maxRecDepth 100000 in
theorem m_turn_1 (l : Launch) (D : va_G) (cI cZ : ClassId) (ad : Nat → Nat) (A : Nat → Prop) (F : Nat → Nat → Int32) (ow : Nat → Int32) (mp : Nat → Int32) (nm : Int32) (gb : Int32) (ob : Int32) (ik : Nat → Int32) (kp : Nat → Int32) (tu : Nat → Int32) (g : Nat → Int32) (hA : apD 16 A ad) (x0 : Int32)  (hb1 : inB x0 0 (g 6 - 1) = false) : Met l yX5_turn wsX5_turn (rmr 2 43) (va_Pc [.ref (ad 0), .int x0] (rdP D ([(cI, .int), (cZ, .boolean)]) (mdW cI cZ ad F ow mp nm gb ob ik kp tu g))) (va_Qi (fun (r : Int32) (_ : Unit) => r = b2i false) (fun _ t => va_P D vwCl (mdW cI cZ ad F ow mp nm gb ob ik kp tu (va_up g 19 1)) t.heap) A) 0 0 A := by
  refine Met.ofW (cc := cX5_turn) (maxL := 2) (ret := (some .boolean)) (by decide) rfl ?_
  intro p e s m args below meth c s₁ B hml hv
  obtain ⟨hargs, hP, hK, hN⟩ := hv
  have hx := B.exec
  have hb := B.bytes
  have hr := B.returns
  have hts := atoms_spec (ws := wsX5_turn) B.pre
  have hown : s.vm.findClass RX5 = some m.cls := findClass_of_methodNamed B.named
  have hlocks := B.notSynchronized
  have hen : entryFrame m args 2 = entryFrame m ([.ref (ad 0), .int x0] : List Value).toArray 2 := by rw [hargs]
  rw [hen]
  have hl := lv_entry ([.ref (ad 0), .int x0]) (n := 2) (Nat.le_of_ble_eq_true rfl)
  rw [lg_entry_eq]
  generalize (lg_sl ([.ref (ad 0), .int x0]) ++ List.replicate (2 - (lg_sl ([.ref (ad 0), .int x0])).length) Slot.unset).toArray = ls at hl ⊢
  have hl : lv_has ls 2 [(0, .ref (ad 0)), (1, .int x0)] := hl
  have hS : va_S A s.heap s.heap [] := va_S.rf
  generalize hQ : MQ below (va_Qi (fun (r : Int32) (_ : Unit) => r = b2i false) (fun _ t => va_P D vwCl (mdW cI cZ ad F ow mp nm gb ob ik kp tu (va_up g 19 1)) t.heap) A) args s 0 0 A = Q
  have go : ∀ (H : Heap) (locs : List Loc), va_P D vwCl (mdW cI cZ ad F ow mp nm gb ob ik kp tu g) H → va_S A s.heap H locs → W p l e (headSpec wsX5_turn (rmr 2 43)).room s m args below meth c H locs 0 0 Q (F0 m 0 ls []) := by
    intro H locs hP hS
    refine lv_aload_n hx hb dX5_turn_0 rfl (lv_at hl 0 rfl) ?_
    refine lv_aload_n hx hb dX5_turn_1 rfl (lv_at hl 0 rfl) ?_
    refine lv_iload_n hx hb dX5_turn_2 rfl (lv_at hl 1 rfl) ?_
    refine vp_callSi (W.runV (As := [.int x0]) (rest := [.ref (ad 0)]) ⟨hx, hb, hml, hown, hts⟩ (k_X5_isFolder l D cI cZ ad F ow mp nm gb ob ik kp tu g x0) (cwV 1 hts gX5_turn_X5_isFolder rfl rfl rfl (by decide +kernel) ⟨Nat.le_of_ble_eq_true rfl, Nat.le_of_ble_eq_true rfl⟩) ⟨rd_blind, va_recv hK hP (ci := 6) (q0 := 0) rfl rfl, rd_pre hP hK hN⟩ rfl rfl hl.1 rfl (lv_room (Nat.le_of_ble_eq_true rfl)) dX5_turn_3 ⟨Nat.le_of_ble_eq_true rfl, Nat.le_of_ble_eq_true rfl⟩) (fun r er => ?_)
    subst er
    have J_27 : ∀ (H : Heap) (locs : List Loc), va_P D vwCl (mdW cI cZ ad F ow mp nm gb ob ik kp tu g) H → va_S A s.heap H locs → ∀ ls : Array Slot, lv_has ls 2 [(0, .ref (ad 0)), (1, .int x0)] → W p l e (headSpec wsX5_turn (rmr 2 43)).room s m args below meth c H locs 0 0 Q (F0 m 27 ls [.int 1, .ref (ad 0)]) := by
      intro  H locs hP hS ls hl
      refine va_calli (va_runV (As := [.int 1]) (rest := []) ⟨hx, hb, hml, hown, hts⟩ (k_X5_isFine l D cI cZ ad A F ow mp nm gb ob ik kp tu g hA 1) (cwV 1 hts gX5_turn_X5_isFine rfl rfl rfl (by decide +kernel) ⟨Nat.le_of_ble_eq_true rfl, Nat.le_of_ble_eq_true rfl⟩) ⟨rd_blind, va_recv hK hP (ci := 6) (q0 := 0) rfl rfl, rd_pre hP hK hN⟩ rfl rfl hl.1 rfl (lv_room (Nat.le_of_ble_eq_true rfl)) dX5_turn_27 ⟨Nat.le_of_ble_eq_true rfl, Nat.le_of_ble_eq_true rfl⟩) hS (fun q _ h => h) (fun q h => h) (fun r u t H locs ht hvm hw hB hz1 hk1 hS => ?_)
      have hP := hB
      rw [ht] at hP
      subst hw
      have hP : va_P D vwCl (mdW cI cZ ad F ow mp nm gb ob ik kp tu (va_up g 19 1)) H := hP
      refine top_eq (y := b2i false) (by decide) ?_
      refine lv_if_ne (tgt := 35) hx hb dX5_turn_30 (by decide) (fun c_30 => absurd rfl c_30) (fun c_30 => ?_)
      refine lv_iconst (v := 0) hx hb dX5_turn_33 (by decide) ?_
      subst hQ
      have hP : va_P D vwCl (mdW cI cZ ad F ow mp nm gb ob ik kp tu (va_up g 19 1)) H := hP
      have hrt : (0 : Int32) = b2i false := by rfl
      exact W.zret (v := 0) hx hb hr (by rw [hrt]; exact nar_b2i _) (fun t ht _ => ⟨⟨_, (), rfl, hrt, by have e := hP; rw [← ht] at e; exact e⟩, hS.F ht⟩) hS.2.2 dX5_turn_34
    refine lv_if_ne (tgt := 13) hx hb dX5_turn_6 (by decide) (fun c_6 => ?_) (fun c_6 => ?_)
    ·
      have c_6 := b2i_1 c_6
      exact absurd c_6 (b2i_bf hb1)
    ·
      have c_6 := b2i_0 c_6
      refine lv_iconst (v := 1) hx hb dX5_turn_9 (by decide) ?_
      refine lv_goto (tgt := 27) hx hb dX5_turn_10 (by decide) ?_
      exact J_27 _ _ hP hS ls (lv_sub hl [0, 1] rfl)
  exact go _ _ hP hS

set_option maxHeartbeats 800000 in
set_option maxRecDepth 100000 in
theorem m_turn_2 (l : Launch) (D : va_G) (cI cZ : ClassId) (ad : Nat → Nat) (A : Nat → Prop) (F : Nat → Nat → Int32) (ow : Nat → Int32) (mp : Nat → Int32) (nm : Int32) (gb : Int32) (ob : Int32) (ik : Nat → Int32) (kp : Nat → Int32) (tu : Nat → Int32) (g : Nat → Int32) (hA : apD 16 A ad) (x : Nat)  (nn : Nat) (hM : okM F g nn) (hxn : x < nn) (hk : ik x = 0) : Met l yX5_turn wsX5_turn (rmr 2 43) (va_Pc [.ref (ad 0), .int (nI x)] (rdP D ([(cI, .int), (cZ, .boolean)]) (mdW cI cZ ad F ow mp nm gb ob ik kp tu g))) (va_Qi (fun (r : Int32) (_ : Unit) => r = b2i false) (fun _ t => va_P D vwCl (mdW cI cZ ad F ow mp nm gb ob ik kp tu (va_up g 19 2)) t.heap) A) 0 0 A := by
  refine Met.ofW (cc := cX5_turn) (maxL := 2) (ret := (some .boolean)) (by decide) rfl ?_
  intro p e s m args below meth c s₁ B hml hv
  obtain ⟨hargs, hP, hK, hN⟩ := hv
  have hx := B.exec
  have hb := B.bytes
  have hr := B.returns
  have hts := atoms_spec (ws := wsX5_turn) B.pre
  have hown : s.vm.findClass RX5 = some m.cls := findClass_of_methodNamed B.named
  have hlocks := B.notSynchronized
  have hen : entryFrame m args 2 = entryFrame m ([.ref (ad 0), .int (nI x)] : List Value).toArray 2 := by rw [hargs]
  rw [hen]
  have hl := lv_entry ([.ref (ad 0), .int (nI x)]) (n := 2) (Nat.le_of_ble_eq_true rfl)
  rw [lg_entry_eq]
  generalize (lg_sl ([.ref (ad 0), .int (nI x)]) ++ List.replicate (2 - (lg_sl ([.ref (ad 0), .int (nI x)])).length) Slot.unset).toArray = ls at hl ⊢
  have hl : lv_has ls 2 [(0, .ref (ad 0)), (1, .int (nI x))] := hl
  have hS : va_S A s.heap s.heap [] := va_S.rf
  generalize hQ : MQ below (va_Qi (fun (r : Int32) (_ : Unit) => r = b2i false) (fun _ t => va_P D vwCl (mdW cI cZ ad F ow mp nm gb ob ik kp tu (va_up g 19 2)) t.heap) A) args s 0 0 A = Q
  have go : ∀ (H : Heap) (locs : List Loc), va_P D vwCl (mdW cI cZ ad F ow mp nm gb ob ik kp tu g) H → va_S A s.heap H locs → W p l e (headSpec wsX5_turn (rmr 2 43)).room s m args below meth c H locs 0 0 Q (F0 m 0 ls []) := by
    intro H locs hP hS
    have hnn := hM.2.1.2
    refine lv_aload_n hx hb dX5_turn_0 rfl (lv_at hl 0 rfl) ?_
    refine lv_aload_n hx hb dX5_turn_1 rfl (lv_at hl 0 rfl) ?_
    refine lv_iload_n hx hb dX5_turn_2 rfl (lv_at hl 1 rfl) ?_
    refine vp_callSi (W.runV (As := [.int (nI x)]) (rest := [.ref (ad 0)]) ⟨hx, hb, hml, hown, hts⟩ (k_X5_isFolder l D cI cZ ad F ow mp nm gb ob ik kp tu g (nI x)) (cwV 1 hts gX5_turn_X5_isFolder rfl rfl rfl (by decide +kernel) ⟨Nat.le_of_ble_eq_true rfl, Nat.le_of_ble_eq_true rfl⟩) ⟨rd_blind, va_recv hK hP (ci := 6) (q0 := 0) rfl rfl, rd_pre hP hK hN⟩ rfl rfl hl.1 rfl (lv_room (Nat.le_of_ble_eq_true rfl)) dX5_turn_3 ⟨Nat.le_of_ble_eq_true rfl, Nat.le_of_ble_eq_true rfl⟩) (fun r er => ?_)
    subst er
    have J_27 : ∀ (H : Heap) (locs : List Loc), va_P D vwCl (mdW cI cZ ad F ow mp nm gb ob ik kp tu g) H → va_S A s.heap H locs → ∀ ls : Array Slot, lv_has ls 2 [(0, .ref (ad 0)), (1, .int (nI x))] → W p l e (headSpec wsX5_turn (rmr 2 43)).room s m args below meth c H locs 0 0 Q (F0 m 27 ls [.int 2, .ref (ad 0)]) := by
      intro  H locs hP hS ls hl
      refine va_calli (va_runV (As := [.int 2]) (rest := []) ⟨hx, hb, hml, hown, hts⟩ (k_X5_isFine l D cI cZ ad A F ow mp nm gb ob ik kp tu g hA 2) (cwV 1 hts gX5_turn_X5_isFine rfl rfl rfl (by decide +kernel) ⟨Nat.le_of_ble_eq_true rfl, Nat.le_of_ble_eq_true rfl⟩) ⟨rd_blind, va_recv hK hP (ci := 6) (q0 := 0) rfl rfl, rd_pre hP hK hN⟩ rfl rfl hl.1 rfl (lv_room (Nat.le_of_ble_eq_true rfl)) dX5_turn_27 ⟨Nat.le_of_ble_eq_true rfl, Nat.le_of_ble_eq_true rfl⟩) hS (fun q _ h => h) (fun q h => h) (fun r u t H locs ht hvm hw hB hz1 hk1 hS => ?_)
      have hP := hB
      rw [ht] at hP
      subst hw
      have hP : va_P D vwCl (mdW cI cZ ad F ow mp nm gb ob ik kp tu (va_up g 19 2)) H := hP
      refine top_eq (y := b2i false) (by decide) ?_
      refine lv_if_ne (tgt := 35) hx hb dX5_turn_30 (by decide) (fun c_30 => absurd rfl c_30) (fun c_30 => ?_)
      refine lv_iconst (v := 0) hx hb dX5_turn_33 (by decide) ?_
      subst hQ
      have hP : va_P D vwCl (mdW cI cZ ad F ow mp nm gb ob ik kp tu (va_up g 19 2)) H := hP
      have hrt : (0 : Int32) = b2i false := by rfl
      exact W.zret (v := 0) hx hb hr (by rw [hrt]; exact nar_b2i _) (fun t ht _ => ⟨⟨_, (), rfl, hrt, by have e := hP; rw [← ht] at e; exact e⟩, hS.F ht⟩) hS.2.2 dX5_turn_34
    refine lv_if_ne (tgt := 13) hx hb dX5_turn_6 (by decide) (fun c_6 => ?_) (fun c_6 => ?_)
    ·
      have c_6 := b2i_1 c_6
      refine lv_aload_n hx hb dX5_turn_13 rfl (lv_at hl 0 rfl) ?_
      refine va_get (D := D) (ci := 6) (v := .ref (ad 13)) (C := RX5) (T := TX5) (N := 20) hx hb hts (fun _ h => List.mem_cons_of_mem _ (List.mem_append_right _ (h))) hown hK hP 0 rfl rfl 16 (by decide) (hts _ (List.mem_of_getElem? (i := 1) rfl)) (fun _ h9 => h9) rfl dX5_turn_14 ?_
      refine lv_iload_n hx hb dX5_turn_17 rfl (lv_at hl 1 rfl) ?_
      refine ld_z (k := x) hx hb hK hP 13 1 rfl rfl (by omega) (by decide) dX5_turn_18 ?_
      refine lv_if_ne (tgt := 26) hx hb dX5_turn_19 (by decide) (fun c_19 => ?_) (fun c_19 => ?_)
      ·
        exact absurd hk c_19
      ·
        refine lv_iconst (v := 2) hx hb dX5_turn_22 (by decide) ?_
        refine lv_goto (tgt := 27) hx hb dX5_turn_23 (by decide) ?_
        exact J_27 _ _ hP hS ls (lv_sub hl [0, 1] rfl)
    ·
      have c_6 := b2i_0 c_6
      exact absurd (inB_f hM hxn) (b2i_bf c_6)
  exact go _ _ hP hS

set_option maxHeartbeats 800000 in
set_option maxRecDepth 100000 in
theorem m_pass (l : Launch) (D : va_G) (cI cZ : ClassId) (ad : Nat → Nat) (A : Nat → Prop) (F : Nat → Nat → Int32) (ow : Nat → Int32) (mp : Nat → Int32) (nm : Int32) (gb : Int32) (ob : Int32) (ik : Nat → Int32) (kp : Nat → Int32) (tu : Nat → Int32) (g : Nat → Int32) (hA : apD 16 A ad)   (nn : Nat) (hM : okM F g nn)  : Met l yX5_pass wsX5_pass (rmr 7 170) (va_Pc [.ref (ad 0)] (rdP D ([(cI, .int), (cZ, .boolean)]) (mdW cI cZ ad F ow mp nm gb ob ik kp tu g))) (va_Qi (fun (r : Int32) (_ : Unit) => r = psN F ow mp ik kp nn) (fun _ t => va_P D vwCl (mdW cI cZ ad F (lastOw F ow nn) (lastMp F ow mp nn) (lastI nm (fun k => mN F ow k (mBest F ow k)) nn) (lastI gb (fun k => mGB F ow k (mBest F ow k)) nn) (lastI ob (fun k => mOB F ow k (mBest F ow k)) nn) (ikA ik nn) (kpA F ow mp kp nn) tu (va_up g 19 0)) t.heap) A) 0 0 A := by
  refine Met.ofW (cc := cX5_pass) (maxL := 5) (ret := (some .int)) (by decide) rfl ?_
  intro p e s m args below meth c s₁ B hml hv
  obtain ⟨hargs, hP, hK, hN⟩ := hv
  have hx := B.exec
  have hb := B.bytes
  have hr := B.returns
  have hts := atoms_spec (ws := wsX5_pass) B.pre
  have hown : s.vm.findClass RX5 = some m.cls := findClass_of_methodNamed B.named
  have hlocks := B.notSynchronized
  have hen : entryFrame m args 5 = entryFrame m ([.ref (ad 0)] : List Value).toArray 5 := by rw [hargs]
  rw [hen]
  have hl := lv_entry ([.ref (ad 0)]) (n := 5) (Nat.le_of_ble_eq_true rfl)
  rw [lg_entry_eq]
  generalize (lg_sl ([.ref (ad 0)]) ++ List.replicate (5 - (lg_sl ([.ref (ad 0)])).length) Slot.unset).toArray = ls at hl ⊢
  have hl : lv_has ls 5 [(0, .ref (ad 0))] := hl
  have hS : va_S A s.heap s.heap [] := va_S.rf
  generalize hQ : MQ below (va_Qi (fun (r : Int32) (_ : Unit) => r = psN F ow mp ik kp nn) (fun _ t => va_P D vwCl (mdW cI cZ ad F (lastOw F ow nn) (lastMp F ow mp nn) (lastI nm (fun k => mN F ow k (mBest F ow k)) nn) (lastI gb (fun k => mGB F ow k (mBest F ow k)) nn) (lastI ob (fun k => mOB F ow k (mBest F ow k)) nn) (ikA ik nn) (kpA F ow mp kp nn) tu (va_up g 19 0)) t.heap) A) args s 0 0 A = Q
  have go : ∀ (H : Heap) (locs : List Loc), va_P D vwCl (mdW cI cZ ad F ow mp nm gb ob ik kp tu g) H → va_S A s.heap H locs → W p l e (headSpec wsX5_pass (rmr 7 170)).room s m args below meth c H locs 0 0 Q (F0 m 0 ls []) := by
    intro H locs hP hS
    have hnn := hM.2.1.2
    refine lv_aload_n hx hb dX5_pass_0 rfl (lv_at hl 0 rfl) ?_
    refine lv_iconst (v := 0) hx hb dX5_pass_1 (by decide) ?_
    refine va_put (D := D) (ci := 6) (v := .int 0) (ty := .int) (C := RX5) (T := TX5) (N := 20) hx hb hts (fun _ h => List.mem_cons_of_mem _ (List.mem_append_right _ (h))) tyX5 tyX5_ok nmX5 hown hK hP (md_D hA) hS 0 rfl rfl 19 (by decide) (hts _ (List.mem_of_getElem? (i := 1) rfl)) (fun _ h9 => h9) rfl (by decide +kernel) rfl rfl (Nat.le_of_ble_eq_true rfl) dX5_pass_2 (fun H locs hP _ hS => ?_)
    have hP : va_P D vwCl (mdW cI cZ ad F ow mp nm gb ob ik kp tu (va_up g 19 0)) H := hP
    refine lv_iconst (v := 0) hx hb dX5_pass_5 (by decide) ?_
    refine lv_istore_n (lv' := [(1, .int 0), (0, .ref (ad 0))]) hx hb dX5_pass_6 rfl hl (by decide) rfl (fun ls hl => ?_)
    refine lv_iconst (v := 0) hx hb dX5_pass_7 (by decide) ?_
    refine lv_istore_n (lv' := [(2, .int 0), (1, .int 0), (0, .ref (ad 0))]) hx hb dX5_pass_8 rfl hl (by decide) rfl (fun ls hl => ?_)
    have L_9 : ∀ fz i : Nat, i ≤ nn → nn - i < fz → ∀ (v1 : Int32), v1 = (psN F ow mp ik kp i) → ∀ (kow : Nat → Int32), kow = (lastOw F ow i) → ∀ (kmp : Nat → Int32), kmp = (lastMp F ow mp i) → ∀ (knm : Int32), knm = (lastI nm (fun k => mN F ow k (mBest F ow k)) i) → ∀ (kgb : Int32), kgb = (lastI gb (fun k => mGB F ow k (mBest F ow k)) i) → ∀ (kob : Int32), kob = (lastI ob (fun k => mOB F ow k (mBest F ow k)) i) → ∀ (kik : Nat → Int32), kik = (ikA ik i) → ∀ (kkp : Nat → Int32), kkp = (kpA F ow mp kp i) → ∀ (H : Heap) (locs : List Loc), va_P D vwCl (mdW cI cZ ad F kow kmp knm kgb kob kik kkp tu (va_up g 19 0)) H → va_S A s.heap H locs → ∀ ls : Array Slot, lv_has ls 5 [(0, .ref (ad 0)), (2, .int (nI i)), (1, .int v1)] → W p l e (headSpec wsX5_pass (rmr 7 170)).room s m args below meth c H locs 0 0 Q (F0 m 9 ls []) := by
      intro fz
      induction fz with
      | zero => intro i _ h; exact absurd h (Nat.not_lt_zero _)
      | succ fz ih_9 =>
        intro i hi_9 hn_9 v1 ev1 kow ekow kmp ekmp knm eknm kgb ekgb kob ekob kik ekik kkp ekkp H locs hP hS ls hl
        subst ev1
        subst ekow
        subst ekmp
        subst eknm
        subst ekgb
        subst ekob
        subst ekik
        subst ekkp
        rcases Nat.lt_or_ge i nn with h_i | h_i
        ·
          refine lv_iload_n hx hb dX5_pass_9 rfl (lv_at hl 1 rfl) ?_
          refine lv_aload_n hx hb dX5_pass_10 rfl (lv_at hl 0 rfl) ?_
          refine va_get (D := D) (ci := 6) (v := .int (g 6)) (C := RX5) (T := TX5) (N := 20) hx hb hts (fun _ h => List.mem_cons_of_mem _ (List.mem_append_right _ (h))) hown hK hP 0 rfl rfl 6 (by decide) (hts _ (List.mem_of_getElem? (i := 2) rfl)) (fun _ h9 => h9) rfl dX5_pass_11 ?_
          refine top_eq (y := nI nn) (by exact hM.1) ?_
          refine lv_icmp_ge (tgt := 130) hx hb dX5_pass_14 (by decide) (fun c_14 => absurd c_14 (nI_ge h_i (by omega))) (fun c_14 => ?_)
          refine lv_aload_n hx hb dX5_pass_17 rfl (lv_at hl 0 rfl) ?_
          refine lv_iload_n hx hb dX5_pass_18 rfl (lv_at hl 1 rfl) ?_
          refine va_calli (va_runV (As := [.int (nI i)]) (rest := []) ⟨hx, hb, hml, hown, hts⟩ (k_X5_mapsBest l D cI cZ ad A F (lastOw F ow i) (lastMp F ow mp i) (lastI nm (fun k => mN F ow k (mBest F ow k)) i) (lastI gb (fun k => mGB F ow k (mBest F ow k)) i) (lastI ob (fun k => mOB F ow k (mBest F ow k)) i) (ikA ik i) (kpA F ow mp kp i) tu (va_up g 19 0) hA i nn hM.thr h_i) (cwV 1 hts gX5_pass_X5_mapsBest rfl rfl rfl (by decide +kernel) ⟨Nat.le_of_ble_eq_true rfl, Nat.le_of_ble_eq_true rfl⟩) ⟨rd_blind, va_recv hK hP (ci := 6) (q0 := 0) rfl rfl, rd_pre hP hK hN⟩ rfl rfl hl.1 rfl (lv_room (Nat.le_of_ble_eq_true rfl)) dX5_pass_19 ⟨Nat.le_of_ble_eq_true rfl, Nat.le_of_ble_eq_true rfl⟩) hS (fun q _ h => h) (fun q h => h) (fun r u t H locs ht hvm hw hB hz1 hk1 hS => ?_)
          have hP := hB
          rw [ht] at hP
          subst hw
          have hP : va_P D vwCl (mdW cI cZ ad F (mOwn F (lastOw F ow i) i) (fillA (lastMp F ow mp i) (mV F (lastOw F ow i) i (mBest F (lastOw F ow i) i)) 8) (mN F (lastOw F ow i) i (mBest F (lastOw F ow i) i)) (mGB F (lastOw F ow i) i (mBest F (lastOw F ow i) i)) (mOB F (lastOw F ow i) i (mBest F (lastOw F ow i) i)) (ikA ik i) (kpA F ow mp kp i) tu (va_up g 19 0)) H := hP
          have hP : va_P D vwCl (mdW cI cZ ad F (mOwn F ow i) (mMP F ow mp i) (mN F ow i (mBest F ow i)) (mGB F ow i (mBest F ow i)) (mOB F ow i (mBest F ow i)) (ikA ik i) (kpA F ow mp kp i) tu (va_up g 19 0)) H := mdW_P rfl (lastOw_own F ow i i) (lastMp_MP F ow mp i) ((mN_cg (lastOw_own F ow i i) _).trans (by rw [mBest_cg (lastOw_own F ow i i)])) ((mGB_cg (lastOw_own F ow i i) _).trans (by rw [mBest_cg (lastOw_own F ow i i)])) ((mOB_cg (lastOw_own F ow i i) _).trans (by rw [mBest_cg (lastOw_own F ow i i)])) rfl rfl rfl rfl hP
          refine lv_pop hx hb dX5_pass_22 rfl ?_
          refine lv_aload_n hx hb dX5_pass_23 rfl (lv_at hl 0 rfl) ?_
          refine va_get (D := D) (ci := 6) (v := .ref (ad 13)) (C := RX5) (T := TX5) (N := 20) hx hb hts (fun _ h => List.mem_cons_of_mem _ (List.mem_append_right _ (h))) hown hK hP 0 rfl rfl 16 (by decide) (hts _ (List.mem_of_getElem? (i := 3) rfl)) (fun _ h9 => h9) rfl dX5_pass_24 ?_
          refine lv_iload_n hx hb dX5_pass_27 rfl (lv_at hl 1 rfl) ?_
          refine ld_z (k := i) hx hb hK hP 13 1 rfl rfl (by omega) (by decide) dX5_pass_28 ?_
          have J_37 : ∀ (z0 : Int32), z0 = (if ((ikA ik i) i) = 0 then 1 else 0) → ∀ (H : Heap) (locs : List Loc), va_P D vwCl (mdW cI cZ ad F (mOwn F ow i) (mMP F ow mp i) (mN F ow i (mBest F ow i)) (mGB F ow i (mBest F ow i)) (mOB F ow i (mBest F ow i)) (ikA ik i) (kpA F ow mp kp i) tu (va_up g 19 0)) H → va_S A s.heap H locs → ∀ ls : Array Slot, lv_has ls 5 [(0, .ref (ad 0)), (1, .int (psN F ow mp ik kp i)), (2, .int (nI i))] → W p l e (headSpec wsX5_pass (rmr 7 170)).room s m args below meth c H locs 0 0 Q (F0 m 37 ls [.int z0]) := by
            intro z0 ez0 H locs hP hS ls hl
            subst ez0
            refine top_eq (y := b2i (!toB ((ikA ik i) i))) (by exact z_if _) ?_
            refine lv_istore_n (lv' := [(3, .int (b2i (!toB ((ikA ik i) i)))), (0, .ref (ad 0)), (1, .int (psN F ow mp ik kp i)), (2, .int (nI i))]) hx hb dX5_pass_37 rfl hl (by decide) rfl (fun ls hl => ?_)
            refine lv_iconst (v := 0) hx hb dX5_pass_38 (by decide) ?_
            refine lv_istore (lv' := [(4, .int 0), (3, .int (b2i (!toB ((ikA ik i) i)))), (0, .ref (ad 0)), (1, .int (psN F ow mp ik kp i)), (2, .int (nI i))]) hx hb dX5_pass_39 hl (by decide) rfl (fun ls hl => ?_)
            have L_41 : ∀ fz j : Nat, j ≤ 8 → 8 - j < fz → ∀ (v3 : Int32), v3 = (b2i (othB (ikA ik i) (kpA F ow mp kp i) (mMP F ow mp i) i j)) → ∀ (kkp : Nat → Int32), kkp = (keepA (kpA F ow mp kp i) (mMP F ow mp i) i j) → ∀ (H : Heap) (locs : List Loc), va_P D vwCl (mdW cI cZ ad F (mOwn F ow i) (mMP F ow mp i) (mN F ow i (mBest F ow i)) (mGB F ow i (mBest F ow i)) (mOB F ow i (mBest F ow i)) (ikA ik i) kkp tu (va_up g 19 0)) H → va_S A s.heap H locs → ∀ ls : Array Slot, lv_has ls 5 [(0, .ref (ad 0)), (1, .int (psN F ow mp ik kp i)), (2, .int (nI i)), (4, .int (nI j)), (3, .int v3)] → W p l e (headSpec wsX5_pass (rmr 7 170)).room s m args below meth c H locs 0 0 Q (F0 m 41 ls []) := by
              intro fz
              induction fz with
              | zero => intro j _ h; exact absurd h (Nat.not_lt_zero _)
              | succ fz ih_41 =>
                intro j hi_41 hn_41 v3 ev3 kkp ekkp H locs hP hS ls hl
                subst ev3
                subst ekkp
                rcases Nat.lt_or_ge j 8 with h_j | h_j
                ·
                  refine lv_iload hx hb dX5_pass_41 (lv_at hl 3 rfl) ?_
                  refine lv_bipush (v := 8) hx hb dX5_pass_43 (by decide) ?_
                  refine lv_icmp_ge (tgt := 105) hx hb dX5_pass_45 (by decide) (fun c_45 => absurd c_45 (lt_no h_j (by decide))) (fun c_45 => ?_)
                  refine lv_iload_n hx hb dX5_pass_48 rfl (lv_at hl 4 rfl) ?_
                  have J_79 : ∀ (z0 : Int32), z0 = (if (othB (ikA ik i) (kpA F ow mp kp i) (mMP F ow mp i) i j) = true then 1 else if ((keepA (kpA F ow mp kp i) (mMP F ow mp i) i j) ((8 * i) + j)) = ((mMP F ow mp i) j) then 0 else 1) → ∀ (H : Heap) (locs : List Loc), va_P D vwCl (mdW cI cZ ad F (mOwn F ow i) (mMP F ow mp i) (mN F ow i (mBest F ow i)) (mGB F ow i (mBest F ow i)) (mOB F ow i (mBest F ow i)) (ikA ik i) (keepA (kpA F ow mp kp i) (mMP F ow mp i) i j) tu (va_up g 19 0)) H → va_S A s.heap H locs → ∀ ls : Array Slot, lv_has ls 5 [(0, .ref (ad 0)), (1, .int (psN F ow mp ik kp i)), (2, .int (nI i)), (3, .int (b2i (othB (ikA ik i) (kpA F ow mp kp i) (mMP F ow mp i) i j))), (4, .int (nI j))] → W p l e (headSpec wsX5_pass (rmr 7 170)).room s m args below meth c H locs 0 0 Q (F0 m 79 ls [.int z0]) := by
                    intro z0 ez0 H locs hP hS ls hl
                    subst ez0
                    refine lv_istore_n (lv' := [(3, .int (if (othB (ikA ik i) (kpA F ow mp kp i) (mMP F ow mp i) i j) = true then 1 else if ((keepA (kpA F ow mp kp i) (mMP F ow mp i) i j) ((8 * i) + j)) = ((mMP F ow mp i) j) then 0 else 1)), (0, .ref (ad 0)), (1, .int (psN F ow mp ik kp i)), (2, .int (nI i)), (4, .int (nI j))]) hx hb dX5_pass_79 rfl hl (by decide) rfl (fun ls hl => ?_)
                    refine lv_aload_n hx hb dX5_pass_80 rfl (lv_at hl 1 rfl) ?_
                    refine va_get (D := D) (ci := 6) (v := .ref (ad 14)) (C := RX5) (T := TX5) (N := 20) hx hb hts (fun _ h => List.mem_cons_of_mem _ (List.mem_append_right _ (h))) hown hK hP 0 rfl rfl 17 (by decide) (hts _ (List.mem_of_getElem? (i := 4) rfl)) (fun _ h9 => h9) rfl dX5_pass_81 ?_
                    refine lv_bipush (v := 8) hx hb dX5_pass_84 (by decide) ?_
                    refine lv_iload_n hx hb dX5_pass_86 rfl (lv_at hl 3 rfl) ?_
                    refine imul_n (x := 8) (y := i) hx hb dX5_pass_87 ?_
                    refine lv_iload hx hb dX5_pass_88 (lv_at hl 4 rfl) ?_
                    refine iadd_n (x := 8 * i) (y := j) hx hb dX5_pass_90 ?_
                    refine lv_aload_n hx hb dX5_pass_91 rfl (lv_at hl 1 rfl) ?_
                    refine va_get (D := D) (ci := 6) (v := .ref (ad 12)) (C := RX5) (T := TX5) (N := 20) hx hb hts (fun _ h => List.mem_cons_of_mem _ (List.mem_append_right _ (h))) hown hK hP 0 rfl rfl 12 (by decide) (hts _ (List.mem_of_getElem? (i := 5) rfl)) (fun _ h9 => h9) rfl dX5_pass_92 ?_
                    refine lv_iload hx hb dX5_pass_95 (lv_at hl 4 rfl) ?_
                    refine ld_i (k := j) hx hb hK hP 12 0 rfl rfl (by omega) (by decide) dX5_pass_97 ?_
                    refine st_i (k := (8 * i) + j) hx hb hK hP (md_D hA) hS 14 0 rfl rfl (by omega) (by decide) dX5_pass_98 (fun H locs hP _ hS => ?_)
                    have hP : va_P D vwCl (mdW cI cZ ad F (mOwn F ow i) (mMP F ow mp i) (mN F ow i (mBest F ow i)) (mGB F ow i (mBest F ow i)) (mOB F ow i (mBest F ow i)) (ikA ik i) (upd (keepA (kpA F ow mp kp i) (mMP F ow mp i) i j) ((8 * i) + j) ((mMP F ow mp i) j)) tu (va_up g 19 0)) H := hP
                    refine lv_iinc (v := nI (j + 1)) (lv' := [(4, .int (nI (j + 1))), (3, .int (if (othB (ikA ik i) (kpA F ow mp kp i) (mMP F ow mp i) i j) = true then 1 else if ((keepA (kpA F ow mp kp i) (mMP F ow mp i) i j) ((8 * i) + j)) = ((mMP F ow mp i) j) then 0 else 1)), (0, .ref (ad 0)), (1, .int (psN F ow mp ik kp i)), (2, .int (nI i))]) hx hb dX5_pass_99 hl (k := 4) rfl (by exact iinc_n _) (by decide) rfl (fun ls hl => ?_)
                    refine lv_goto (tgt := 41) hx hb dX5_pass_102 (by decide) ?_
                    exact ih_41 (j + 1) (by omega) (by omega) _ (by exact othB_s _ _ _ i j) _ (by rfl) _ _ hP hS ls (lv_sub hl [2, 3, 4, 0, 1] rfl)
                  refine lv_if_ne (tgt := 74) hx hb dX5_pass_49 (by decide) (fun c_49 => ?_) (fun c_49 => ?_)
                  ·
                    have c_49 := b2i_1 c_49
                    refine lv_iconst (v := 1) hx hb dX5_pass_74 (by decide) ?_
                    refine lv_goto (tgt := 79) hx hb dX5_pass_75 (by decide) ?_
                    exact J_79 _ ((if_pos c_49).symm) _ _ hP hS ls (lv_sub hl [0, 1, 2, 4, 3] rfl)
                  ·
                    have c_49 := b2i_0 c_49
                    refine lv_aload_n hx hb dX5_pass_52 rfl (lv_at hl 0 rfl) ?_
                    refine va_get (D := D) (ci := 6) (v := .ref (ad 14)) (C := RX5) (T := TX5) (N := 20) hx hb hts (fun _ h => List.mem_cons_of_mem _ (List.mem_append_right _ (h))) hown hK hP 0 rfl rfl 17 (by decide) (hts _ (List.mem_of_getElem? (i := 4) rfl)) (fun _ h9 => h9) rfl dX5_pass_53 ?_
                    refine lv_bipush (v := 8) hx hb dX5_pass_56 (by decide) ?_
                    refine lv_iload_n hx hb dX5_pass_58 rfl (lv_at hl 2 rfl) ?_
                    refine imul_n (x := 8) (y := i) hx hb dX5_pass_59 ?_
                    refine lv_iload hx hb dX5_pass_60 (lv_at hl 3 rfl) ?_
                    refine iadd_n (x := 8 * i) (y := j) hx hb dX5_pass_62 ?_
                    refine ld_i (k := (8 * i) + j) hx hb hK hP 14 0 rfl rfl (by omega) (by decide) dX5_pass_63 ?_
                    refine lv_aload_n hx hb dX5_pass_64 rfl (lv_at hl 0 rfl) ?_
                    refine va_get (D := D) (ci := 6) (v := .ref (ad 12)) (C := RX5) (T := TX5) (N := 20) hx hb hts (fun _ h => List.mem_cons_of_mem _ (List.mem_append_right _ (h))) hown hK hP 0 rfl rfl 12 (by decide) (hts _ (List.mem_of_getElem? (i := 5) rfl)) (fun _ h9 => h9) rfl dX5_pass_65 ?_
                    refine lv_iload hx hb dX5_pass_68 (lv_at hl 3 rfl) ?_
                    refine ld_i (k := j) hx hb hK hP 12 0 rfl rfl (by omega) (by decide) dX5_pass_70 ?_
                    refine lv_icmp_eq (tgt := 78) hx hb dX5_pass_71 (by decide) (fun c_71 => ?_) (fun c_71 => ?_)
                    ·
                      refine lv_iconst (v := 0) hx hb dX5_pass_78 (by decide) ?_
                      exact J_79 _ (((if_neg (b2i_bf c_49)).trans (if_pos c_71)).symm) _ _ hP hS ls (lv_sub hl [0, 1, 2, 4, 3] rfl)
                    ·
                      refine lv_iconst (v := 1) hx hb dX5_pass_74 (by decide) ?_
                      refine lv_goto (tgt := 79) hx hb dX5_pass_75 (by decide) ?_
                      exact J_79 _ (((if_neg (b2i_bf c_49)).trans (if_neg c_71)).symm) _ _ hP hS ls (lv_sub hl [0, 1, 2, 4, 3] rfl)
                ·
                  obtain rfl : 8 = j := by omega
                  refine lv_iload hx hb dX5_pass_41 (lv_at hl 3 rfl) ?_
                  refine lv_bipush (v := 8) hx hb dX5_pass_43 (by decide) ?_
                  refine lv_icmp_ge (tgt := 105) hx hb dX5_pass_45 (by decide) (fun c_45 => ?_) (fun c_45 => absurd (lt_yes h_j (by decide)) c_45)
                  refine lv_aload_n hx hb dX5_pass_105 rfl (lv_at hl 0 rfl) ?_
                  refine va_get (D := D) (ci := 6) (v := .ref (ad 13)) (C := RX5) (T := TX5) (N := 20) hx hb hts (fun _ h => List.mem_cons_of_mem _ (List.mem_append_right _ (h))) hown hK hP 0 rfl rfl 16 (by decide) (hts _ (List.mem_of_getElem? (i := 3) rfl)) (fun _ h9 => h9) rfl dX5_pass_106 ?_
                  refine lv_iload_n hx hb dX5_pass_109 rfl (lv_at hl 2 rfl) ?_
                  refine lv_iconst (v := 1) hx hb dX5_pass_110 (by decide) ?_
                  refine st_z (k := i) hx hb hK hP (md_D hA) hS 13 1 rfl rfl (by omega) (by decide) (by rfl) dX5_pass_111 (fun H locs hP _ hS => ?_)
                  have hP : va_P D vwCl (mdW cI cZ ad F (mOwn F ow i) (mMP F ow mp i) (mN F ow i (mBest F ow i)) (mGB F ow i (mBest F ow i)) (mOB F ow i (mBest F ow i)) (upd (ikA ik i) i 1) (keepA (kpA F ow mp kp i) (mMP F ow mp i) i 8) tu (va_up g 19 0)) H := hP
                  refine lv_iload_n hx hb dX5_pass_112 rfl (lv_at hl 1 rfl) ?_
                  refine lv_iload_n hx hb dX5_pass_113 rfl (lv_at hl 4 rfl) ?_
                  have J_122 : ∀ (z0 : Int32), z0 = (if (othB (ikA ik i) (kpA F ow mp kp i) (mMP F ow mp i) i 8) = true then 1 else 0) → ∀ (H : Heap) (locs : List Loc), va_P D vwCl (mdW cI cZ ad F (mOwn F ow i) (mMP F ow mp i) (mN F ow i (mBest F ow i)) (mGB F ow i (mBest F ow i)) (mOB F ow i (mBest F ow i)) (upd (ikA ik i) i 1) (keepA (kpA F ow mp kp i) (mMP F ow mp i) i 8) tu (va_up g 19 0)) H → va_S A s.heap H locs → ∀ ls : Array Slot, lv_has ls 5 [(0, .ref (ad 0)), (1, .int (psN F ow mp ik kp i)), (2, .int (nI i)), (3, .int (b2i (othB (ikA ik i) (kpA F ow mp kp i) (mMP F ow mp i) i 8))), (4, .int (nI 8))] → W p l e (headSpec wsX5_pass (rmr 7 170)).room s m args below meth c H locs 0 0 Q (F0 m 122 ls [.int z0, .int (psN F ow mp ik kp i)]) := by
                    intro z0 ez0 H locs hP hS ls hl
                    subst ez0
                    refine lv_iadd hx hb dX5_pass_122 ?_
                    refine lv_istore_n (lv' := [(1, .int ((psN F ow mp ik kp i) + (if (othB (ikA ik i) (kpA F ow mp kp i) (mMP F ow mp i) i 8) = true then 1 else 0))), (0, .ref (ad 0)), (2, .int (nI i)), (3, .int (b2i (othB (ikA ik i) (kpA F ow mp kp i) (mMP F ow mp i) i 8))), (4, .int (nI 8))]) hx hb dX5_pass_123 rfl hl (by decide) rfl (fun ls hl => ?_)
                    refine lv_iinc (v := nI (i + 1)) (lv' := [(2, .int (nI (i + 1))), (1, .int ((psN F ow mp ik kp i) + (if (othB (ikA ik i) (kpA F ow mp kp i) (mMP F ow mp i) i 8) = true then 1 else 0))), (0, .ref (ad 0)), (3, .int (b2i (othB (ikA ik i) (kpA F ow mp kp i) (mMP F ow mp i) i 8))), (4, .int (nI 8))]) hx hb dX5_pass_124 hl (k := 2) rfl (by exact iinc_n _) (by decide) rfl (fun ls hl => ?_)
                    refine lv_goto (tgt := 9) hx hb dX5_pass_127 (by decide) ?_
                    exact ih_9 (i + 1) (by omega) (by omega) _ (by rfl) _ (by rfl) _ (by rfl) _ (by rfl) _ (by rfl) _ (by rfl) _ (by rfl) _ (by rfl) _ _ hP hS ls (lv_sub hl [2, 0, 1] rfl)
                  refine lv_if_eq (tgt := 121) hx hb dX5_pass_114 (by decide) (fun c_114 => ?_) (fun c_114 => ?_)
                  ·
                    have c_114 := b2i_0 c_114
                    refine lv_iconst (v := 0) hx hb dX5_pass_121 (by decide) ?_
                    exact J_122 _ ((if_neg (b2i_bf c_114)).symm) _ _ hP hS ls (lv_sub hl [0, 1, 2, 4, 3] rfl)
                  ·
                    have c_114 := b2i_1 c_114
                    refine lv_iconst (v := 1) hx hb dX5_pass_117 (by decide) ?_
                    refine lv_goto (tgt := 122) hx hb dX5_pass_118 (by decide) ?_
                    exact J_122 _ ((if_pos c_114).symm) _ _ hP hS ls (lv_sub hl [0, 1, 2, 4, 3] rfl)
            exact L_41 (8 + 1) 0 (by omega) (by omega) _ (by rfl) _ (by rfl) _ _ hP hS ls (lv_sub hl [2, 3, 4, 0, 1] rfl)
          refine lv_if_ne (tgt := 36) hx hb dX5_pass_29 (by decide) (fun c_29 => ?_) (fun c_29 => ?_)
          ·
            refine lv_iconst (v := 0) hx hb dX5_pass_36 (by decide) ?_
            exact J_37 _ ((if_neg c_29).symm) _ _ hP hS ls (lv_sub hl [0, 2, 1] rfl)
          ·
            refine lv_iconst (v := 1) hx hb dX5_pass_32 (by decide) ?_
            refine lv_goto (tgt := 37) hx hb dX5_pass_33 (by decide) ?_
            exact J_37 _ ((if_pos c_29).symm) _ _ hP hS ls (lv_sub hl [0, 2, 1] rfl)
        ·
          obtain rfl : nn = i := by omega
          refine lv_iload_n hx hb dX5_pass_9 rfl (lv_at hl 1 rfl) ?_
          refine lv_aload_n hx hb dX5_pass_10 rfl (lv_at hl 0 rfl) ?_
          refine va_get (D := D) (ci := 6) (v := .int (g 6)) (C := RX5) (T := TX5) (N := 20) hx hb hts (fun _ h => List.mem_cons_of_mem _ (List.mem_append_right _ (h))) hown hK hP 0 rfl rfl 6 (by decide) (hts _ (List.mem_of_getElem? (i := 2) rfl)) (fun _ h9 => h9) rfl dX5_pass_11 ?_
          refine top_eq (y := nI nn) (by exact hM.1) ?_
          refine lv_icmp_ge (tgt := 130) hx hb dX5_pass_14 (by decide) (fun c_14 => ?_) (fun c_14 => absurd (nI_le h_i (by omega)) c_14)
          refine lv_iload_n hx hb dX5_pass_130 rfl (lv_at hl 2 rfl) ?_
          subst hQ
          have hP : va_P D vwCl (mdW cI cZ ad F (lastOw F ow nn) (lastMp F ow mp nn) (lastI nm (fun k => mN F ow k (mBest F ow k)) nn) (lastI gb (fun k => mGB F ow k (mBest F ow k)) nn) (lastI ob (fun k => mOB F ow k (mBest F ow k)) nn) (ikA ik nn) (kpA F ow mp kp nn) tu (va_up g 19 0)) H := hP
          have qik : (ikA ik nn) = ikA ik nn := by rfl
          have qkp : (kpA F ow mp kp nn) = kpA F ow mp kp nn := by rfl
          have hP : va_P D vwCl (mdW cI cZ ad F (lastOw F ow nn) (lastMp F ow mp nn) (lastI nm (fun k => mN F ow k (mBest F ow k)) nn) (lastI gb (fun k => mGB F ow k (mBest F ow k)) nn) (lastI ob (fun k => mOB F ow k (mBest F ow k)) nn) (ikA ik nn) (kpA F ow mp kp nn) tu (va_up g 19 0)) H := mdW_P rfl rfl rfl rfl rfl rfl qik qkp rfl rfl hP
          exact W.iret (v := psN F ow mp ik kp nn) hx hb hr (fun t ht _ => ⟨⟨_, (), rfl, (by rfl), by have e := hP; rw [← ht] at e; exact e⟩, hS.F ht⟩) hS.2.2 dX5_pass_131
    exact L_9 (nn + 1) 0 (by omega) (by omega) _ (by rfl) _ (by rfl) _ (by rfl) _ (by rfl) _ (by rfl) _ (by rfl) _ (by rfl) _ (by rfl) _ _ hP hS ls (lv_sub hl [2, 0, 1] rfl)
  exact go _ _ hP hS
