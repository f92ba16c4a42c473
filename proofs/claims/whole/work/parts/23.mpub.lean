set_option maxHeartbeats 800000 in
set_option maxRecDepth 100000 in
theorem m_setMember (l : Launch) (D : va_G) (cI cZ : ClassId) (ad : Nat → Nat) (A : Nat → Prop) (F : Nat → Nat → Int32) (ow : Nat → Int32) (mp : Nat → Int32) (nm : Int32) (gb : Int32) (ob : Int32) (ik : Nat → Int32) (kp : Nat → Int32) (tu : Nat → Int32) (g : Nat → Int32) (hA : apD 16 A ad) (x : Nat) (y : Nat) (b : Bool)  (hx6 : x < 6) (hy8 : y < 8)  : Met l yX5_setMember wsX5_setMember (rmr 2 42) (va_Pc [.ref (ad 0), .int (nI x), .int (nI y), .int (b2i b)] (rdP D ([(cI, .int), (cZ, .boolean)]) (mdW cI cZ ad F ow mp nm gb ob ik kp tu g))) (va_Qi (fun (r : Int32) (_ : Unit) => r = b2i (hasB (F 1 x) (nI y))) (fun _ t => va_P D vwCl (mdW cI cZ ad (va_up F 1 (upd (F 1) x (if b = true then F 1 x ||| ((1 : Int32) <<< (nI y &&& 31)) else F 1 x &&& (((1 : Int32) <<< (nI y &&& 31)) ^^^ (-1))))) ow mp nm gb ob ik kp tu (va_up g 19 0)) t.heap) A) 0 0 A := by
  refine Met.ofW (cc := cX5_setMember) (maxL := 5) (ret := (some .boolean)) (by decide) rfl ?_
  intro p e s m args below meth c s₁ B hml hv
  obtain ⟨hargs, hP, hK, hN⟩ := hv
  have hx := B.exec
  have hb := B.bytes
  have hr := B.returns
  have hts := atoms_spec (ws := wsX5_setMember) B.pre
  have hown : s.vm.findClass RX5 = some m.cls := findClass_of_methodNamed B.named
  have hlocks := B.notSynchronized
  have hen : entryFrame m args 5 = entryFrame m ([.ref (ad 0), .int (nI x), .int (nI y), .int (b2i b)] : List Value).toArray 5 := by rw [hargs]
  rw [hen]
  have hl := lv_entry ([.ref (ad 0), .int (nI x), .int (nI y), .int (b2i b)]) (n := 5) (Nat.le_of_ble_eq_true rfl)
  rw [lg_entry_eq]
  generalize (lg_sl ([.ref (ad 0), .int (nI x), .int (nI y), .int (b2i b)]) ++ List.replicate (5 - (lg_sl ([.ref (ad 0), .int (nI x), .int (nI y), .int (b2i b)])).length) Slot.unset).toArray = ls at hl ⊢
  have hl : lv_has ls 5 [(0, .ref (ad 0)), (1, .int (nI x)), (2, .int (nI y)), (3, .int (b2i b))] := hl
  have hS : va_S A s.heap s.heap [] := va_S.rf
  generalize hQ : MQ below (va_Qi (fun (r : Int32) (_ : Unit) => r = b2i (hasB (F 1 x) (nI y))) (fun _ t => va_P D vwCl (mdW cI cZ ad (va_up F 1 (upd (F 1) x (if b = true then F 1 x ||| ((1 : Int32) <<< (nI y &&& 31)) else F 1 x &&& (((1 : Int32) <<< (nI y &&& 31)) ^^^ (-1))))) ow mp nm gb ob ik kp tu (va_up g 19 0)) t.heap) A) args s 0 0 A = Q
  have go : ∀ (H : Heap) (locs : List Loc), va_P D vwCl (mdW cI cZ ad F ow mp nm gb ob ik kp tu g) H → va_S A s.heap H locs → W p l e (headSpec wsX5_setMember (rmr 2 42)).room s m args below meth c H locs 0 0 Q (F0 m 0 ls []) := by
    intro H locs hP hS
    refine lv_aload_n hx hb dX5_setMember_0 rfl (lv_at hl 0 rfl) ?_
    refine lv_iload_n hx hb dX5_setMember_1 rfl (lv_at hl 1 rfl) ?_
    refine vp_callSi (W.runS (As := [.int (nI x)]) (rest := [.ref (ad 0)]) ⟨hx, hb, hml, hown, hts⟩ (k_X5_isGroup l (nI x)) (va_cwS 1 hts gX5_setMember_X5_isGroup rfl rfl rfl (by decide +kernel) ⟨Nat.le_of_ble_eq_true rfl, Nat.le_of_ble_eq_true rfl⟩) ⟨nf_blind, fun U hU hW => ⟨rfl, trivial⟩⟩ rfl rfl hl.1 rfl (lv_room (Nat.le_of_ble_eq_true rfl)) dX5_setMember_2 ⟨Nat.le_of_ble_eq_true rfl, Nat.le_of_ble_eq_true rfl⟩) (fun r er => ?_)
    subst er
    have J_20 : ∀ (H : Heap) (locs : List Loc), va_P D vwCl (mdW cI cZ ad F ow mp nm gb ob ik kp tu g) H → va_S A s.heap H locs → ∀ ls : Array Slot, lv_has ls 5 [(0, .ref (ad 0)), (1, .int (nI x)), (2, .int (nI y)), (3, .int (b2i b))] → W p l e (headSpec wsX5_setMember (rmr 2 42)).room s m args below meth c H locs 0 0 Q (F0 m 20 ls [.int 0, .ref (ad 0)]) := by
      intro  H locs hP hS ls hl
      refine va_calli (va_runV (As := [.int 0]) (rest := []) ⟨hx, hb, hml, hown, hts⟩ (k_X5_isFine l D cI cZ ad A F ow mp nm gb ob ik kp tu g hA 0) (cwV 1 hts gX5_setMember_X5_isFine rfl rfl rfl (by decide +kernel) ⟨Nat.le_of_ble_eq_true rfl, Nat.le_of_ble_eq_true rfl⟩) ⟨rd_blind, va_recv hK hP (ci := 6) (q0 := 0) rfl rfl, rd_pre hP hK hN⟩ rfl rfl hl.1 rfl (lv_room (Nat.le_of_ble_eq_true rfl)) dX5_setMember_20 ⟨Nat.le_of_ble_eq_true rfl, Nat.le_of_ble_eq_true rfl⟩) hS (fun q _ h => h) (fun q h => h) (fun r u t H locs ht hvm hw hB hz1 hk1 hS => ?_)
      have hP := hB
      rw [ht] at hP
      subst hw
      have hP : va_P D vwCl (mdW cI cZ ad F ow mp nm gb ob ik kp tu (va_up g 19 0)) H := hP
      refine top_eq (y := b2i true) (by decide) ?_
      refine lv_if_ne (tgt := 28) hx hb dX5_setMember_23 (by decide) (fun c_23 => ?_) (fun c_23 => absurd c_23 (by decide))
      refine lv_aload_n hx hb dX5_setMember_28 rfl (lv_at hl 0 rfl) ?_
      refine va_get (D := D) (ci := 6) (v := .ref (ad 1)) (C := RX5) (T := TX5) (N := 20) hx hb hts (fun _ h => List.mem_cons_of_mem _ (List.mem_append_right _ (h))) hown hK hP 0 rfl rfl 0 (by decide) (hts _ (List.mem_of_getElem? (i := 1) rfl)) (fun _ h9 => h9) rfl dX5_setMember_29 ?_
      refine lv_iload_n hx hb dX5_setMember_32 rfl (lv_at hl 1 rfl) ?_
      refine ld_i (k := x) hx hb hK hP 1 0 rfl rfl (by omega) (by decide) dX5_setMember_33 ?_
      refine lv_iload_n hx hb dX5_setMember_34 rfl (lv_at hl 2 rfl) ?_
      refine vp_callSi (W.runS (As := [.int ((F 1) x), .int (nI y)]) (rest := []) ⟨hx, hb, hml, hown, hts⟩ (k_X5_has l ((F 1) x) (nI y)) (va_cwS 2 hts gX5_setMember_X5_has rfl rfl rfl (by decide +kernel) ⟨Nat.le_of_ble_eq_true rfl, Nat.le_of_ble_eq_true rfl⟩) ⟨nf_blind, fun U hU hW => ⟨rfl, trivial⟩⟩ rfl rfl hl.1 rfl (lv_room (Nat.le_of_ble_eq_true rfl)) dX5_setMember_35 ⟨Nat.le_of_ble_eq_true rfl, Nat.le_of_ble_eq_true rfl⟩) (fun r er => ?_)
      subst er
      refine lv_istore (lv' := [(4, .int (b2i (hasB ((F 1) x) (nI y)))), (0, .ref (ad 0)), (1, .int (nI x)), (2, .int (nI y)), (3, .int (b2i b))]) hx hb dX5_setMember_38 hl (by decide) rfl (fun ls hl => ?_)
      refine lv_aload_n hx hb dX5_setMember_40 rfl (lv_at hl 1 rfl) ?_
      refine va_get (D := D) (ci := 6) (v := .ref (ad 1)) (C := RX5) (T := TX5) (N := 20) hx hb hts (fun _ h => List.mem_cons_of_mem _ (List.mem_append_right _ (h))) hown hK hP 0 rfl rfl 0 (by decide) (hts _ (List.mem_of_getElem? (i := 1) rfl)) (fun _ h9 => h9) rfl dX5_setMember_41 ?_
      refine lv_iload_n hx hb dX5_setMember_44 rfl (lv_at hl 2 rfl) ?_
      refine lv_iload_n hx hb dX5_setMember_45 rfl (lv_at hl 4 rfl) ?_
      have J_74 : ∀ (z0 : Int32), z0 = (if b = true then ((F 1) x) ||| ((1 : Int32) <<< ((nI y) &&& 31)) else ((F 1) x) &&& (((1 : Int32) <<< ((nI y) &&& 31)) ^^^ (-1))) → ∀ (H : Heap) (locs : List Loc), va_P D vwCl (mdW cI cZ ad F ow mp nm gb ob ik kp tu (va_up g 19 0)) H → va_S A s.heap H locs → ∀ ls : Array Slot, lv_has ls 5 [(0, .ref (ad 0)), (1, .int (nI x)), (2, .int (nI y)), (3, .int (b2i b)), (4, .int (b2i (hasB ((F 1) x) (nI y))))] → W p l e (headSpec wsX5_setMember (rmr 2 42)).room s m args below meth c H locs 0 0 Q (F0 m 74 ls [.int z0, .int (nI x), .ref (ad 1)]) := by
        intro z0 ez0 H locs hP hS ls hl
        subst ez0
        refine st_i (k := x) hx hb hK hP (md_D hA) hS 1 0 rfl rfl (by omega) (by decide) dX5_setMember_74 (fun H locs hP _ hS => ?_)
        have hP : va_P D vwCl (mdW cI cZ ad (va_up F 1 (upd (F 1) x (if b = true then ((F 1) x) ||| ((1 : Int32) <<< ((nI y) &&& 31)) else ((F 1) x) &&& (((1 : Int32) <<< ((nI y) &&& 31)) ^^^ (-1))))) ow mp nm gb ob ik kp tu (va_up g 19 0)) H := hP
        refine lv_iload hx hb dX5_setMember_75 (lv_at hl 4 rfl) ?_
        subst hQ
        have hP : va_P D vwCl (mdW cI cZ ad (va_up F 1 (upd (F 1) x (if b = true then ((F 1) x) ||| ((1 : Int32) <<< ((nI y) &&& 31)) else ((F 1) x) &&& (((1 : Int32) <<< ((nI y) &&& 31)) ^^^ (-1))))) ow mp nm gb ob ik kp tu (va_up g 19 0)) H := hP
        have qF1 : upd (F 1) x (if b = true then ((F 1) x) ||| ((1 : Int32) <<< ((nI y) &&& 31)) else ((F 1) x) &&& (((1 : Int32) <<< ((nI y) &&& 31)) ^^^ (-1))) = upd (F 1) x (if b = true then F 1 x ||| ((1 : Int32) <<< (nI y &&& 31)) else F 1 x &&& (((1 : Int32) <<< (nI y &&& 31)) ^^^ (-1))) := by rfl
        have hP : va_P D vwCl (mdW cI cZ ad (va_up F 1 (upd (F 1) x (if b = true then F 1 x ||| ((1 : Int32) <<< (nI y &&& 31)) else F 1 x &&& (((1 : Int32) <<< (nI y &&& 31)) ^^^ (-1))))) ow mp nm gb ob ik kp tu (va_up g 19 0)) H := mdW_P (up_cg rfl 1 qF1) rfl rfl rfl rfl rfl rfl rfl rfl rfl hP
        have hrt : (b2i (hasB ((F 1) x) (nI y)) : Int32) = b2i (hasB (F 1 x) (nI y)) := by rfl
        exact W.zret (v := b2i (hasB ((F 1) x) (nI y))) hx hb hr (by rw [hrt]; exact nar_b2i _) (fun t ht _ => ⟨⟨_, (), rfl, hrt, by have e := hP; rw [← ht] at e; exact e⟩, hS.F ht⟩) hS.2.2 dX5_setMember_77
      refine lv_if_eq (tgt := 62) hx hb dX5_setMember_46 (by decide) (fun c_46 => ?_) (fun c_46 => ?_)
      ·
        have c_46 := b2i_0 c_46
        refine lv_aload_n hx hb dX5_setMember_62 rfl (lv_at hl 1 rfl) ?_
        refine va_get (D := D) (ci := 6) (v := .ref (ad 1)) (C := RX5) (T := TX5) (N := 20) hx hb hts (fun _ h => List.mem_cons_of_mem _ (List.mem_append_right _ (h))) hown hK hP 0 rfl rfl 0 (by decide) (hts _ (List.mem_of_getElem? (i := 1) rfl)) (fun _ h9 => h9) rfl dX5_setMember_63 ?_
        refine lv_iload_n hx hb dX5_setMember_66 rfl (lv_at hl 2 rfl) ?_
        refine ld_i (k := x) hx hb hK hP 1 0 rfl rfl (by omega) (by decide) dX5_setMember_67 ?_
        refine lv_iconst (v := 1) hx hb dX5_setMember_68 (by decide) ?_
        refine lv_iload_n hx hb dX5_setMember_69 rfl (lv_at hl 3 rfl) ?_
        refine lv_ishl hx hb dX5_setMember_70 ?_
        refine lv_iconst (v := (-1)) hx hb dX5_setMember_71 (by decide) ?_
        refine lv_ixor hx hb dX5_setMember_72 ?_
        refine lv_iand hx hb dX5_setMember_73 ?_
        exact J_74 _ ((if_neg (b2i_bf c_46)).symm) _ _ hP hS ls (lv_sub hl [1, 2, 3, 4, 0] rfl)
      ·
        have c_46 := b2i_1 c_46
        refine lv_aload_n hx hb dX5_setMember_49 rfl (lv_at hl 1 rfl) ?_
        refine va_get (D := D) (ci := 6) (v := .ref (ad 1)) (C := RX5) (T := TX5) (N := 20) hx hb hts (fun _ h => List.mem_cons_of_mem _ (List.mem_append_right _ (h))) hown hK hP 0 rfl rfl 0 (by decide) (hts _ (List.mem_of_getElem? (i := 1) rfl)) (fun _ h9 => h9) rfl dX5_setMember_50 ?_
        refine lv_iload_n hx hb dX5_setMember_53 rfl (lv_at hl 2 rfl) ?_
        refine ld_i (k := x) hx hb hK hP 1 0 rfl rfl (by omega) (by decide) dX5_setMember_54 ?_
        refine lv_iconst (v := 1) hx hb dX5_setMember_55 (by decide) ?_
        refine lv_iload_n hx hb dX5_setMember_56 rfl (lv_at hl 3 rfl) ?_
        refine lv_ishl hx hb dX5_setMember_57 ?_
        refine lv_ior hx hb dX5_setMember_58 ?_
        refine lv_goto (tgt := 74) hx hb dX5_setMember_59 (by decide) ?_
        exact J_74 _ ((if_pos c_46).symm) _ _ hP hS ls (lv_sub hl [1, 2, 3, 4, 0] rfl)
    refine lv_if_eq (tgt := 19) hx hb dX5_setMember_5 (by decide) (fun c_5 => ?_) (fun c_5 => ?_)
    ·
      have c_5 := b2i_0 c_5
      exact absurd (inB_g hx6) (b2i_bf c_5)
    ·
      have c_5 := b2i_1 c_5
      refine lv_iload_n hx hb dX5_setMember_8 rfl (lv_at hl 2 rfl) ?_
      refine vp_callSi (W.runS (As := [.int (nI y)]) (rest := [.ref (ad 0)]) ⟨hx, hb, hml, hown, hts⟩ (k_X5_isPerson l (nI y)) (va_cwS 1 hts gX5_setMember_X5_isPerson rfl rfl rfl (by decide +kernel) ⟨Nat.le_of_ble_eq_true rfl, Nat.le_of_ble_eq_true rfl⟩) ⟨nf_blind, fun U hU hW => ⟨rfl, trivial⟩⟩ rfl rfl hl.1 rfl (lv_room (Nat.le_of_ble_eq_true rfl)) dX5_setMember_9 ⟨Nat.le_of_ble_eq_true rfl, Nat.le_of_ble_eq_true rfl⟩) (fun r er => ?_)
      subst er
      refine lv_if_eq (tgt := 19) hx hb dX5_setMember_12 (by decide) (fun c_12 => ?_) (fun c_12 => ?_)
      ·
        have c_12 := b2i_0 c_12
        exact absurd (inB_p hy8) (b2i_bf c_12)
      ·
        have c_12 := b2i_1 c_12
        refine lv_iconst (v := 0) hx hb dX5_setMember_15 (by decide) ?_
        refine lv_goto (tgt := 20) hx hb dX5_setMember_16 (by decide) ?_
        exact J_20 _ _ hP hS ls (lv_sub hl [0, 1, 2, 3] rfl)
  exact go _ _ hP hS

set_option maxHeartbeats 800000 in
set_option maxRecDepth 100000 in
theorem m_setMember_1 (l : Launch) (D : va_G) (cI cZ : ClassId) (ad : Nat → Nat) (A : Nat → Prop) (F : Nat → Nat → Int32) (ow : Nat → Int32) (mp : Nat → Int32) (nm : Int32) (gb : Int32) (ob : Int32) (ik : Nat → Int32) (kp : Nat → Int32) (tu : Nat → Int32) (g : Nat → Int32) (hA : apD 16 A ad) (x0 : Int32) (x1 : Int32) (b : Bool)  (hb1 : (inB x0 0 5 && inB x1 0 7) = false) : Met l yX5_setMember wsX5_setMember (rmr 2 42) (va_Pc [.ref (ad 0), .int x0, .int x1, .int (b2i b)] (rdP D ([(cI, .int), (cZ, .boolean)]) (mdW cI cZ ad F ow mp nm gb ob ik kp tu g))) (va_Qi (fun (r : Int32) (_ : Unit) => r = b2i false) (fun _ t => va_P D vwCl (mdW cI cZ ad F ow mp nm gb ob ik kp tu (va_up g 19 1)) t.heap) A) 0 0 A := by
  refine Met.ofW (cc := cX5_setMember) (maxL := 5) (ret := (some .boolean)) (by decide) rfl ?_
  intro p e s m args below meth c s₁ B hml hv
  obtain ⟨hargs, hP, hK, hN⟩ := hv
  have hx := B.exec
  have hb := B.bytes
  have hr := B.returns
  have hts := atoms_spec (ws := wsX5_setMember) B.pre
  have hown : s.vm.findClass RX5 = some m.cls := findClass_of_methodNamed B.named
  have hlocks := B.notSynchronized
  have hen : entryFrame m args 5 = entryFrame m ([.ref (ad 0), .int x0, .int x1, .int (b2i b)] : List Value).toArray 5 := by rw [hargs]
  rw [hen]
  have hl := lv_entry ([.ref (ad 0), .int x0, .int x1, .int (b2i b)]) (n := 5) (Nat.le_of_ble_eq_true rfl)
  rw [lg_entry_eq]
  generalize (lg_sl ([.ref (ad 0), .int x0, .int x1, .int (b2i b)]) ++ List.replicate (5 - (lg_sl ([.ref (ad 0), .int x0, .int x1, .int (b2i b)])).length) Slot.unset).toArray = ls at hl ⊢
  have hl : lv_has ls 5 [(0, .ref (ad 0)), (1, .int x0), (2, .int x1), (3, .int (b2i b))] := hl
  have hS : va_S A s.heap s.heap [] := va_S.rf
  generalize hQ : MQ below (va_Qi (fun (r : Int32) (_ : Unit) => r = b2i false) (fun _ t => va_P D vwCl (mdW cI cZ ad F ow mp nm gb ob ik kp tu (va_up g 19 1)) t.heap) A) args s 0 0 A = Q
  have go : ∀ (H : Heap) (locs : List Loc), va_P D vwCl (mdW cI cZ ad F ow mp nm gb ob ik kp tu g) H → va_S A s.heap H locs → W p l e (headSpec wsX5_setMember (rmr 2 42)).room s m args below meth c H locs 0 0 Q (F0 m 0 ls []) := by
    intro H locs hP hS
    refine lv_aload_n hx hb dX5_setMember_0 rfl (lv_at hl 0 rfl) ?_
    refine lv_iload_n hx hb dX5_setMember_1 rfl (lv_at hl 1 rfl) ?_
    refine vp_callSi (W.runS (As := [.int x0]) (rest := [.ref (ad 0)]) ⟨hx, hb, hml, hown, hts⟩ (k_X5_isGroup l x0) (va_cwS 1 hts gX5_setMember_X5_isGroup rfl rfl rfl (by decide +kernel) ⟨Nat.le_of_ble_eq_true rfl, Nat.le_of_ble_eq_true rfl⟩) ⟨nf_blind, fun U hU hW => ⟨rfl, trivial⟩⟩ rfl rfl hl.1 rfl (lv_room (Nat.le_of_ble_eq_true rfl)) dX5_setMember_2 ⟨Nat.le_of_ble_eq_true rfl, Nat.le_of_ble_eq_true rfl⟩) (fun r er => ?_)
    subst er
    have J_20 : ∀ (H : Heap) (locs : List Loc), va_P D vwCl (mdW cI cZ ad F ow mp nm gb ob ik kp tu g) H → va_S A s.heap H locs → ∀ ls : Array Slot, lv_has ls 5 [(0, .ref (ad 0)), (1, .int x0), (2, .int x1), (3, .int (b2i b))] → W p l e (headSpec wsX5_setMember (rmr 2 42)).room s m args below meth c H locs 0 0 Q (F0 m 20 ls [.int 1, .ref (ad 0)]) := by
      intro  H locs hP hS ls hl
      refine va_calli (va_runV (As := [.int 1]) (rest := []) ⟨hx, hb, hml, hown, hts⟩ (k_X5_isFine l D cI cZ ad A F ow mp nm gb ob ik kp tu g hA 1) (cwV 1 hts gX5_setMember_X5_isFine rfl rfl rfl (by decide +kernel) ⟨Nat.le_of_ble_eq_true rfl, Nat.le_of_ble_eq_true rfl⟩) ⟨rd_blind, va_recv hK hP (ci := 6) (q0 := 0) rfl rfl, rd_pre hP hK hN⟩ rfl rfl hl.1 rfl (lv_room (Nat.le_of_ble_eq_true rfl)) dX5_setMember_20 ⟨Nat.le_of_ble_eq_true rfl, Nat.le_of_ble_eq_true rfl⟩) hS (fun q _ h => h) (fun q h => h) (fun r u t H locs ht hvm hw hB hz1 hk1 hS => ?_)
      have hP := hB
      rw [ht] at hP
      subst hw
      have hP : va_P D vwCl (mdW cI cZ ad F ow mp nm gb ob ik kp tu (va_up g 19 1)) H := hP
      refine top_eq (y := b2i false) (by decide) ?_
      refine lv_if_ne (tgt := 28) hx hb dX5_setMember_23 (by decide) (fun c_23 => absurd rfl c_23) (fun c_23 => ?_)
      refine lv_iconst (v := 0) hx hb dX5_setMember_26 (by decide) ?_
      subst hQ
      have hP : va_P D vwCl (mdW cI cZ ad F ow mp nm gb ob ik kp tu (va_up g 19 1)) H := hP
      have hrt : (0 : Int32) = b2i false := by rfl
      exact W.zret (v := 0) hx hb hr (by rw [hrt]; exact nar_b2i _) (fun t ht _ => ⟨⟨_, (), rfl, hrt, by have e := hP; rw [← ht] at e; exact e⟩, hS.F ht⟩) hS.2.2 dX5_setMember_27
    refine lv_if_eq (tgt := 19) hx hb dX5_setMember_5 (by decide) (fun c_5 => ?_) (fun c_5 => ?_)
    ·
      have c_5 := b2i_0 c_5
      refine lv_iconst (v := 1) hx hb dX5_setMember_19 (by decide) ?_
      exact J_20 _ _ hP hS ls (lv_sub hl [0, 1, 2, 3] rfl)
    ·
      have c_5 := b2i_1 c_5
      refine lv_iload_n hx hb dX5_setMember_8 rfl (lv_at hl 2 rfl) ?_
      refine vp_callSi (W.runS (As := [.int x1]) (rest := [.ref (ad 0)]) ⟨hx, hb, hml, hown, hts⟩ (k_X5_isPerson l x1) (va_cwS 1 hts gX5_setMember_X5_isPerson rfl rfl rfl (by decide +kernel) ⟨Nat.le_of_ble_eq_true rfl, Nat.le_of_ble_eq_true rfl⟩) ⟨nf_blind, fun U hU hW => ⟨rfl, trivial⟩⟩ rfl rfl hl.1 rfl (lv_room (Nat.le_of_ble_eq_true rfl)) dX5_setMember_9 ⟨Nat.le_of_ble_eq_true rfl, Nat.le_of_ble_eq_true rfl⟩) (fun r er => ?_)
      subst er
      refine lv_if_eq (tgt := 19) hx hb dX5_setMember_12 (by decide) (fun c_12 => ?_) (fun c_12 => ?_)
      ·
        have c_12 := b2i_0 c_12
        refine lv_iconst (v := 1) hx hb dX5_setMember_19 (by decide) ?_
        exact J_20 _ _ hP hS ls (lv_sub hl [0, 1, 2, 3] rfl)
      ·
        have c_12 := b2i_1 c_12
        exact absurd (B2f hb1 c_5 c_12) id
  exact go _ _ hP hS

set_option maxHeartbeats 800000 in
set_option maxRecDepth 100000 in
theorem m_nest (l : Launch) (D : va_G) (cI cZ : ClassId) (ad : Nat → Nat) (A : Nat → Prop) (F : Nat → Nat → Int32) (ow : Nat → Int32) (mp : Nat → Int32) (nm : Int32) (gb : Int32) (ob : Int32) (ik : Nat → Int32) (kp : Nat → Int32) (tu : Nat → Int32) (g : Nat → Int32) (hA : apD 16 A ad) (x : Nat) (y : Nat)  (hx6 : x < 6) (hy6 : y < 6) (hc : (hasB (grnds (F 2) ((1 : Int32) <<< (nI y &&& 31)) 6) (nI x)) = false) : Met l yX5_nest wsX5_nest (rmr 2 45) (va_Pc [.ref (ad 0), .int (nI x), .int (nI y)] (rdP D ([(cI, .int), (cZ, .boolean)]) (mdW cI cZ ad F ow mp nm gb ob ik kp tu g))) (va_Qi (fun (r : Int32) (_ : Unit) => r = b2i (hasB (F 2 x ^^^ ((1 : Int32) <<< (nI y &&& 31))) (nI y))) (fun _ t => va_P D vwCl (mdW cI cZ ad (va_up F 2 (upd (F 2) x (F 2 x ^^^ ((1 : Int32) <<< (nI y &&& 31))))) ow mp nm gb ob ik kp tu (va_up g 19 0)) t.heap) A) 0 0 A := by
  refine Met.ofW (cc := cX5_nest) (maxL := 4) (ret := (some .boolean)) (by decide) rfl ?_
  intro p e s m args below meth c s₁ B hml hv
  obtain ⟨hargs, hP, hK, hN⟩ := hv
  have hx := B.exec
  have hb := B.bytes
  have hr := B.returns
  have hts := atoms_spec (ws := wsX5_nest) B.pre
  have hown : s.vm.findClass RX5 = some m.cls := findClass_of_methodNamed B.named
  have hlocks := B.notSynchronized
  have hen : entryFrame m args 4 = entryFrame m ([.ref (ad 0), .int (nI x), .int (nI y)] : List Value).toArray 4 := by rw [hargs]
  rw [hen]
  have hl := lv_entry ([.ref (ad 0), .int (nI x), .int (nI y)]) (n := 4) (Nat.le_of_ble_eq_true rfl)
  rw [lg_entry_eq]
  generalize (lg_sl ([.ref (ad 0), .int (nI x), .int (nI y)]) ++ List.replicate (4 - (lg_sl ([.ref (ad 0), .int (nI x), .int (nI y)])).length) Slot.unset).toArray = ls at hl ⊢
  have hl : lv_has ls 4 [(0, .ref (ad 0)), (1, .int (nI x)), (2, .int (nI y))] := hl
  have hS : va_S A s.heap s.heap [] := va_S.rf
  generalize hQ : MQ below (va_Qi (fun (r : Int32) (_ : Unit) => r = b2i (hasB (F 2 x ^^^ ((1 : Int32) <<< (nI y &&& 31))) (nI y))) (fun _ t => va_P D vwCl (mdW cI cZ ad (va_up F 2 (upd (F 2) x (F 2 x ^^^ ((1 : Int32) <<< (nI y &&& 31))))) ow mp nm gb ob ik kp tu (va_up g 19 0)) t.heap) A) args s 0 0 A = Q
  have go : ∀ (H : Heap) (locs : List Loc), va_P D vwCl (mdW cI cZ ad F ow mp nm gb ob ik kp tu g) H → va_S A s.heap H locs → W p l e (headSpec wsX5_nest (rmr 2 45)).room s m args below meth c H locs 0 0 Q (F0 m 0 ls []) := by
    intro H locs hP hS
    refine lv_iload_n hx hb dX5_nest_0 rfl (lv_at hl 1 rfl) ?_
    refine vp_callSi (W.runS (As := [.int (nI x)]) (rest := []) ⟨hx, hb, hml, hown, hts⟩ (k_X5_isGroup l (nI x)) (va_cwS 1 hts gX5_nest_X5_isGroup rfl rfl rfl (by decide +kernel) ⟨Nat.le_of_ble_eq_true rfl, Nat.le_of_ble_eq_true rfl⟩) ⟨nf_blind, fun U hU hW => ⟨rfl, trivial⟩⟩ rfl rfl hl.1 rfl (lv_room (Nat.le_of_ble_eq_true rfl)) dX5_nest_1 ⟨Nat.le_of_ble_eq_true rfl, Nat.le_of_ble_eq_true rfl⟩) (fun r er => ?_)
    subst er
    have J_35 : ∀ (H : Heap) (locs : List Loc), va_P D vwCl (mdW cI cZ ad F ow mp nm gb ob ik kp tu g) H → va_S A s.heap H locs → ∀ ls : Array Slot, lv_has ls 4 [(0, .ref (ad 0)), (1, .int (nI x)), (2, .int (nI y))] → W p l e (headSpec wsX5_nest (rmr 2 45)).room s m args below meth c H locs 0 0 Q (F0 m 35 ls [.int 0]) := by
      intro  H locs hP hS ls hl
      refine lv_istore_n (lv' := [(3, .int 0), (0, .ref (ad 0)), (1, .int (nI x)), (2, .int (nI y))]) hx hb dX5_nest_35 rfl hl (by decide) rfl (fun ls hl => ?_)
      refine lv_aload_n hx hb dX5_nest_36 rfl (lv_at hl 1 rfl) ?_
      refine lv_iload_n hx hb dX5_nest_37 rfl (lv_at hl 0 rfl) ?_
      refine va_calli (va_runV (As := [.int 0]) (rest := []) ⟨hx, hb, hml, hown, hts⟩ (k_X5_isFine l D cI cZ ad A F ow mp nm gb ob ik kp tu g hA 0) (cwV 1 hts gX5_nest_X5_isFine rfl rfl rfl (by decide +kernel) ⟨Nat.le_of_ble_eq_true rfl, Nat.le_of_ble_eq_true rfl⟩) ⟨rd_blind, va_recv hK hP (ci := 6) (q0 := 0) rfl rfl, rd_pre hP hK hN⟩ rfl rfl hl.1 rfl (lv_room (Nat.le_of_ble_eq_true rfl)) dX5_nest_38 ⟨Nat.le_of_ble_eq_true rfl, Nat.le_of_ble_eq_true rfl⟩) hS (fun q _ h => h) (fun q h => h) (fun r u t H locs ht hvm hw hB hz1 hk1 hS => ?_)
      have hP := hB
      rw [ht] at hP
      subst hw
      have hP : va_P D vwCl (mdW cI cZ ad F ow mp nm gb ob ik kp tu (va_up g 19 0)) H := hP
      refine top_eq (y := b2i true) (by decide) ?_
      refine lv_if_ne (tgt := 46) hx hb dX5_nest_41 (by decide) (fun c_41 => ?_) (fun c_41 => absurd c_41 (by decide))
      refine lv_aload_n hx hb dX5_nest_46 rfl (lv_at hl 1 rfl) ?_
      refine va_get (D := D) (ci := 6) (v := .ref (ad 2)) (C := RX5) (T := TX5) (N := 20) hx hb hts (fun _ h => List.mem_cons_of_mem _ (List.mem_append_right _ (h))) hown hK hP 0 rfl rfl 1 (by decide) (hts _ (List.mem_of_getElem? (i := 1) rfl)) (fun _ h9 => h9) rfl dX5_nest_47 ?_
      refine lv_iload_n hx hb dX5_nest_50 rfl (lv_at hl 2 rfl) ?_
      refine lv_dup2_11 hx hb dX5_nest_51 rfl rfl ?_
      refine ld_i (k := x) hx hb hK hP 2 0 rfl rfl (by omega) (by decide) dX5_nest_52 ?_
      refine lv_iconst (v := 1) hx hb dX5_nest_53 (by decide) ?_
      refine lv_iload_n hx hb dX5_nest_54 rfl (lv_at hl 3 rfl) ?_
      refine lv_ishl hx hb dX5_nest_55 ?_
      refine lv_ixor hx hb dX5_nest_56 ?_
      refine st_i (k := x) hx hb hK hP (md_D hA) hS 2 0 rfl rfl (by omega) (by decide) dX5_nest_57 (fun H locs hP _ hS => ?_)
      have hP : va_P D vwCl (mdW cI cZ ad (va_up F 2 (upd (F 2) x (((F 2) x) ^^^ ((1 : Int32) <<< ((nI y) &&& 31))))) ow mp nm gb ob ik kp tu (va_up g 19 0)) H := hP
      refine lv_aload_n hx hb dX5_nest_58 rfl (lv_at hl 1 rfl) ?_
      refine va_get (D := D) (ci := 6) (v := .ref (ad 2)) (C := RX5) (T := TX5) (N := 20) hx hb hts (fun _ h => List.mem_cons_of_mem _ (List.mem_append_right _ (h))) hown hK hP 0 rfl rfl 1 (by decide) (hts _ (List.mem_of_getElem? (i := 1) rfl)) (fun _ h9 => h9) rfl dX5_nest_59 ?_
      refine lv_iload_n hx hb dX5_nest_62 rfl (lv_at hl 2 rfl) ?_
      refine ld_i (k := x) hx hb hK hP 2 0 rfl rfl (by omega) (by decide) dX5_nest_63 ?_
      refine top_eq (y := ((F 2) x) ^^^ ((1 : Int32) <<< ((nI y) &&& 31))) pk_us ?_
      refine lv_iload_n hx hb dX5_nest_64 rfl (lv_at hl 3 rfl) ?_
      refine vp_callSi (W.runS (As := [.int (((F 2) x) ^^^ ((1 : Int32) <<< ((nI y) &&& 31))), .int (nI y)]) (rest := []) ⟨hx, hb, hml, hown, hts⟩ (k_X5_has l (((F 2) x) ^^^ ((1 : Int32) <<< ((nI y) &&& 31))) (nI y)) (va_cwS 2 hts gX5_nest_X5_has rfl rfl rfl (by decide +kernel) ⟨Nat.le_of_ble_eq_true rfl, Nat.le_of_ble_eq_true rfl⟩) ⟨nf_blind, fun U hU hW => ⟨rfl, trivial⟩⟩ rfl rfl hl.1 rfl (lv_room (Nat.le_of_ble_eq_true rfl)) dX5_nest_65 ⟨Nat.le_of_ble_eq_true rfl, Nat.le_of_ble_eq_true rfl⟩) (fun r er => ?_)
      subst er
      subst hQ
      have hP : va_P D vwCl (mdW cI cZ ad (va_up F 2 (upd (F 2) x (((F 2) x) ^^^ ((1 : Int32) <<< ((nI y) &&& 31))))) ow mp nm gb ob ik kp tu (va_up g 19 0)) H := hP
      have qF2 : upd (F 2) x (((F 2) x) ^^^ ((1 : Int32) <<< ((nI y) &&& 31))) = upd (F 2) x (F 2 x ^^^ ((1 : Int32) <<< (nI y &&& 31))) := by rfl
      have hP : va_P D vwCl (mdW cI cZ ad (va_up F 2 (upd (F 2) x (F 2 x ^^^ ((1 : Int32) <<< (nI y &&& 31))))) ow mp nm gb ob ik kp tu (va_up g 19 0)) H := mdW_P (up_cg rfl 2 qF2) rfl rfl rfl rfl rfl rfl rfl rfl rfl hP
      have hrt : (b2i (hasB (((F 2) x) ^^^ ((1 : Int32) <<< ((nI y) &&& 31))) (nI y)) : Int32) = b2i (hasB (F 2 x ^^^ ((1 : Int32) <<< (nI y &&& 31))) (nI y)) := by rfl
      exact W.zret (v := b2i (hasB (((F 2) x) ^^^ ((1 : Int32) <<< ((nI y) &&& 31))) (nI y))) hx hb hr (by rw [hrt]; exact nar_b2i _) (fun t ht _ => ⟨⟨_, (), rfl, hrt, by have e := hP; rw [← ht] at e; exact e⟩, hS.F ht⟩) hS.2.2 dX5_nest_68
    refine lv_if_eq (tgt := 14) hx hb dX5_nest_4 (by decide) (fun c_4 => ?_) (fun c_4 => ?_)
    ·
      have c_4 := b2i_0 c_4
      exact absurd (inB_g hx6) (b2i_bf c_4)
    ·
      have c_4 := b2i_1 c_4
      refine lv_iload_n hx hb dX5_nest_7 rfl (lv_at hl 2 rfl) ?_
      refine vp_callSi (W.runS (As := [.int (nI y)]) (rest := []) ⟨hx, hb, hml, hown, hts⟩ (k_X5_isGroup l (nI y)) (va_cwS 1 hts gX5_nest_X5_isGroup rfl rfl rfl (by decide +kernel) ⟨Nat.le_of_ble_eq_true rfl, Nat.le_of_ble_eq_true rfl⟩) ⟨nf_blind, fun U hU hW => ⟨rfl, trivial⟩⟩ rfl rfl hl.1 rfl (lv_room (Nat.le_of_ble_eq_true rfl)) dX5_nest_8 ⟨Nat.le_of_ble_eq_true rfl, Nat.le_of_ble_eq_true rfl⟩) (fun r er => ?_)
      subst er
      refine lv_if_ne (tgt := 18) hx hb dX5_nest_11 (by decide) (fun c_11 => ?_) (fun c_11 => ?_)
      ·
        have c_11 := b2i_1 c_11
        refine lv_aload_n hx hb dX5_nest_18 rfl (lv_at hl 0 rfl) ?_
        refine lv_iload_n hx hb dX5_nest_19 rfl (lv_at hl 2 rfl) ?_
        refine vp_callSi (W.runV (As := [.int (nI y)]) (rest := []) ⟨hx, hb, hml, hown, hts⟩ (k_X5_groupsIn l D cI cZ ad F ow mp nm gb ob ik kp tu g y) (cwV 1 hts gX5_nest_X5_groupsIn rfl rfl rfl (by decide +kernel) ⟨Nat.le_of_ble_eq_true rfl, Nat.le_of_ble_eq_true rfl⟩) ⟨rd_blind, va_recv hK hP (ci := 6) (q0 := 0) rfl rfl, rd_pre hP hK hN⟩ rfl rfl hl.1 rfl (lv_room (Nat.le_of_ble_eq_true rfl)) dX5_nest_20 ⟨Nat.le_of_ble_eq_true rfl, Nat.le_of_ble_eq_true rfl⟩) (fun r er => ?_)
        subst er
        refine lv_iload_n hx hb dX5_nest_23 rfl (lv_at hl 1 rfl) ?_
        refine vp_callSi (W.runS (As := [.int (grnds ((F 2)) (1 <<< (nI y &&& 31)) 6), .int (nI x)]) (rest := []) ⟨hx, hb, hml, hown, hts⟩ (k_X5_has l (grnds ((F 2)) (1 <<< (nI y &&& 31)) 6) (nI x)) (va_cwS 2 hts gX5_nest_X5_has rfl rfl rfl (by decide +kernel) ⟨Nat.le_of_ble_eq_true rfl, Nat.le_of_ble_eq_true rfl⟩) ⟨nf_blind, fun U hU hW => ⟨rfl, trivial⟩⟩ rfl rfl hl.1 rfl (lv_room (Nat.le_of_ble_eq_true rfl)) dX5_nest_24 ⟨Nat.le_of_ble_eq_true rfl, Nat.le_of_ble_eq_true rfl⟩) (fun r er => ?_)
        subst er
        refine lv_if_eq (tgt := 34) hx hb dX5_nest_27 (by decide) (fun c_27 => ?_) (fun c_27 => ?_)
        ·
          have c_27 := b2i_0 c_27
          refine lv_iconst (v := 0) hx hb dX5_nest_34 (by decide) ?_
          exact J_35 _ _ hP hS ls (lv_sub hl [0, 1, 2] rfl)
        ·
          have c_27 := b2i_1 c_27
          exact absurd c_27 (b2i_bf hc)
      ·
        have c_11 := b2i_0 c_11
        exact absurd (inB_g hy6) (b2i_bf c_11)
  exact go _ _ hP hS

set_option maxHeartbeats 800000 in
set_option maxRecDepth 100000 in
theorem m_nest_1 (l : Launch) (D : va_G) (cI cZ : ClassId) (ad : Nat → Nat) (A : Nat → Prop) (F : Nat → Nat → Int32) (ow : Nat → Int32) (mp : Nat → Int32) (nm : Int32) (gb : Int32) (ob : Int32) (ik : Nat → Int32) (kp : Nat → Int32) (tu : Nat → Int32) (g : Nat → Int32) (hA : apD 16 A ad) (x0 : Int32) (x1 : Int32)  (hb1 : (inB x0 0 5 && inB x1 0 5) = false) : Met l yX5_nest wsX5_nest (rmr 2 45) (va_Pc [.ref (ad 0), .int x0, .int x1] (rdP D ([(cI, .int), (cZ, .boolean)]) (mdW cI cZ ad F ow mp nm gb ob ik kp tu g))) (va_Qi (fun (r : Int32) (_ : Unit) => r = b2i false) (fun _ t => va_P D vwCl (mdW cI cZ ad F ow mp nm gb ob ik kp tu (va_up g 19 1)) t.heap) A) 0 0 A := by
  refine Met.ofW (cc := cX5_nest) (maxL := 4) (ret := (some .boolean)) (by decide) rfl ?_
  intro p e s m args below meth c s₁ B hml hv
  obtain ⟨hargs, hP, hK, hN⟩ := hv
  have hx := B.exec
  have hb := B.bytes
  have hr := B.returns
  have hts := atoms_spec (ws := wsX5_nest) B.pre
  have hown : s.vm.findClass RX5 = some m.cls := findClass_of_methodNamed B.named
  have hlocks := B.notSynchronized
  have hen : entryFrame m args 4 = entryFrame m ([.ref (ad 0), .int x0, .int x1] : List Value).toArray 4 := by rw [hargs]
  rw [hen]
  have hl := lv_entry ([.ref (ad 0), .int x0, .int x1]) (n := 4) (Nat.le_of_ble_eq_true rfl)
  rw [lg_entry_eq]
  generalize (lg_sl ([.ref (ad 0), .int x0, .int x1]) ++ List.replicate (4 - (lg_sl ([.ref (ad 0), .int x0, .int x1])).length) Slot.unset).toArray = ls at hl ⊢
  have hl : lv_has ls 4 [(0, .ref (ad 0)), (1, .int x0), (2, .int x1)] := hl
  have hS : va_S A s.heap s.heap [] := va_S.rf
  generalize hQ : MQ below (va_Qi (fun (r : Int32) (_ : Unit) => r = b2i false) (fun _ t => va_P D vwCl (mdW cI cZ ad F ow mp nm gb ob ik kp tu (va_up g 19 1)) t.heap) A) args s 0 0 A = Q
  have go : ∀ (H : Heap) (locs : List Loc), va_P D vwCl (mdW cI cZ ad F ow mp nm gb ob ik kp tu g) H → va_S A s.heap H locs → W p l e (headSpec wsX5_nest (rmr 2 45)).room s m args below meth c H locs 0 0 Q (F0 m 0 ls []) := by
    intro H locs hP hS
    refine lv_iload_n hx hb dX5_nest_0 rfl (lv_at hl 1 rfl) ?_
    refine vp_callSi (W.runS (As := [.int x0]) (rest := []) ⟨hx, hb, hml, hown, hts⟩ (k_X5_isGroup l x0) (va_cwS 1 hts gX5_nest_X5_isGroup rfl rfl rfl (by decide +kernel) ⟨Nat.le_of_ble_eq_true rfl, Nat.le_of_ble_eq_true rfl⟩) ⟨nf_blind, fun U hU hW => ⟨rfl, trivial⟩⟩ rfl rfl hl.1 rfl (lv_room (Nat.le_of_ble_eq_true rfl)) dX5_nest_1 ⟨Nat.le_of_ble_eq_true rfl, Nat.le_of_ble_eq_true rfl⟩) (fun r er => ?_)
    subst er
    have J_35 : ∀ (H : Heap) (locs : List Loc), va_P D vwCl (mdW cI cZ ad F ow mp nm gb ob ik kp tu g) H → va_S A s.heap H locs → ∀ ls : Array Slot, lv_has ls 4 [(0, .ref (ad 0)), (1, .int x0), (2, .int x1)] → W p l e (headSpec wsX5_nest (rmr 2 45)).room s m args below meth c H locs 0 0 Q (F0 m 35 ls [.int 1]) := by
      intro  H locs hP hS ls hl
      refine lv_istore_n (lv' := [(3, .int 1), (0, .ref (ad 0)), (1, .int x0), (2, .int x1)]) hx hb dX5_nest_35 rfl hl (by decide) rfl (fun ls hl => ?_)
      refine lv_aload_n hx hb dX5_nest_36 rfl (lv_at hl 1 rfl) ?_
      refine lv_iload_n hx hb dX5_nest_37 rfl (lv_at hl 0 rfl) ?_
      refine va_calli (va_runV (As := [.int 1]) (rest := []) ⟨hx, hb, hml, hown, hts⟩ (k_X5_isFine l D cI cZ ad A F ow mp nm gb ob ik kp tu g hA 1) (cwV 1 hts gX5_nest_X5_isFine rfl rfl rfl (by decide +kernel) ⟨Nat.le_of_ble_eq_true rfl, Nat.le_of_ble_eq_true rfl⟩) ⟨rd_blind, va_recv hK hP (ci := 6) (q0 := 0) rfl rfl, rd_pre hP hK hN⟩ rfl rfl hl.1 rfl (lv_room (Nat.le_of_ble_eq_true rfl)) dX5_nest_38 ⟨Nat.le_of_ble_eq_true rfl, Nat.le_of_ble_eq_true rfl⟩) hS (fun q _ h => h) (fun q h => h) (fun r u t H locs ht hvm hw hB hz1 hk1 hS => ?_)
      have hP := hB
      rw [ht] at hP
      subst hw
      have hP : va_P D vwCl (mdW cI cZ ad F ow mp nm gb ob ik kp tu (va_up g 19 1)) H := hP
      refine top_eq (y := b2i false) (by decide) ?_
      refine lv_if_ne (tgt := 46) hx hb dX5_nest_41 (by decide) (fun c_41 => absurd rfl c_41) (fun c_41 => ?_)
      refine lv_iconst (v := 0) hx hb dX5_nest_44 (by decide) ?_
      subst hQ
      have hP : va_P D vwCl (mdW cI cZ ad F ow mp nm gb ob ik kp tu (va_up g 19 1)) H := hP
      have hrt : (0 : Int32) = b2i false := by rfl
      exact W.zret (v := 0) hx hb hr (by rw [hrt]; exact nar_b2i _) (fun t ht _ => ⟨⟨_, (), rfl, hrt, by have e := hP; rw [← ht] at e; exact e⟩, hS.F ht⟩) hS.2.2 dX5_nest_45
    refine lv_if_eq (tgt := 14) hx hb dX5_nest_4 (by decide) (fun c_4 => ?_) (fun c_4 => ?_)
    ·
      have c_4 := b2i_0 c_4
      refine lv_iconst (v := 1) hx hb dX5_nest_14 (by decide) ?_
      refine lv_goto (tgt := 35) hx hb dX5_nest_15 (by decide) ?_
      exact J_35 _ _ hP hS ls (lv_sub hl [0, 1, 2] rfl)
    ·
      have c_4 := b2i_1 c_4
      refine lv_iload_n hx hb dX5_nest_7 rfl (lv_at hl 2 rfl) ?_
      refine vp_callSi (W.runS (As := [.int x1]) (rest := []) ⟨hx, hb, hml, hown, hts⟩ (k_X5_isGroup l x1) (va_cwS 1 hts gX5_nest_X5_isGroup rfl rfl rfl (by decide +kernel) ⟨Nat.le_of_ble_eq_true rfl, Nat.le_of_ble_eq_true rfl⟩) ⟨nf_blind, fun U hU hW => ⟨rfl, trivial⟩⟩ rfl rfl hl.1 rfl (lv_room (Nat.le_of_ble_eq_true rfl)) dX5_nest_8 ⟨Nat.le_of_ble_eq_true rfl, Nat.le_of_ble_eq_true rfl⟩) (fun r er => ?_)
      subst er
      refine lv_if_ne (tgt := 18) hx hb dX5_nest_11 (by decide) (fun c_11 => ?_) (fun c_11 => ?_)
      ·
        have c_11 := b2i_1 c_11
        exact absurd (B2f hb1 c_4 c_11) id
      ·
        have c_11 := b2i_0 c_11
        refine lv_iconst (v := 1) hx hb dX5_nest_14 (by decide) ?_
        refine lv_goto (tgt := 35) hx hb dX5_nest_15 (by decide) ?_
        exact J_35 _ _ hP hS ls (lv_sub hl [0, 1, 2] rfl)
  exact go _ _ hP hS

set_option maxHeartbeats 800000 in
set_option maxRecDepth 100000 in
theorem m_nest_2 (l : Launch) (D : va_G) (cI cZ : ClassId) (ad : Nat → Nat) (A : Nat → Prop) (F : Nat → Nat → Int32) (ow : Nat → Int32) (mp : Nat → Int32) (nm : Int32) (gb : Int32) (ob : Int32) (ik : Nat → Int32) (kp : Nat → Int32) (tu : Nat → Int32) (g : Nat → Int32) (hA : apD 16 A ad) (x : Nat) (y : Nat)  (hx6 : x < 6) (hy6 : y < 6) (hc : (hasB (grnds (F 2) ((1 : Int32) <<< (nI y &&& 31)) 6) (nI x)) = true) : Met l yX5_nest wsX5_nest (rmr 2 45) (va_Pc [.ref (ad 0), .int (nI x), .int (nI y)] (rdP D ([(cI, .int), (cZ, .boolean)]) (mdW cI cZ ad F ow mp nm gb ob ik kp tu g))) (va_Qi (fun (r : Int32) (_ : Unit) => r = b2i false) (fun _ t => va_P D vwCl (mdW cI cZ ad F ow mp nm gb ob ik kp tu (va_up g 19 2)) t.heap) A) 0 0 A := by
  refine Met.ofW (cc := cX5_nest) (maxL := 4) (ret := (some .boolean)) (by decide) rfl ?_
  intro p e s m args below meth c s₁ B hml hv
  obtain ⟨hargs, hP, hK, hN⟩ := hv
  have hx := B.exec
  have hb := B.bytes
  have hr := B.returns
  have hts := atoms_spec (ws := wsX5_nest) B.pre
  have hown : s.vm.findClass RX5 = some m.cls := findClass_of_methodNamed B.named
  have hlocks := B.notSynchronized
  have hen : entryFrame m args 4 = entryFrame m ([.ref (ad 0), .int (nI x), .int (nI y)] : List Value).toArray 4 := by rw [hargs]
  rw [hen]
  have hl := lv_entry ([.ref (ad 0), .int (nI x), .int (nI y)]) (n := 4) (Nat.le_of_ble_eq_true rfl)
  rw [lg_entry_eq]
  generalize (lg_sl ([.ref (ad 0), .int (nI x), .int (nI y)]) ++ List.replicate (4 - (lg_sl ([.ref (ad 0), .int (nI x), .int (nI y)])).length) Slot.unset).toArray = ls at hl ⊢
  have hl : lv_has ls 4 [(0, .ref (ad 0)), (1, .int (nI x)), (2, .int (nI y))] := hl
  have hS : va_S A s.heap s.heap [] := va_S.rf
  generalize hQ : MQ below (va_Qi (fun (r : Int32) (_ : Unit) => r = b2i false) (fun _ t => va_P D vwCl (mdW cI cZ ad F ow mp nm gb ob ik kp tu (va_up g 19 2)) t.heap) A) args s 0 0 A = Q
  have go : ∀ (H : Heap) (locs : List Loc), va_P D vwCl (mdW cI cZ ad F ow mp nm gb ob ik kp tu g) H → va_S A s.heap H locs → W p l e (headSpec wsX5_nest (rmr 2 45)).room s m args below meth c H locs 0 0 Q (F0 m 0 ls []) := by
    intro H locs hP hS
    refine lv_iload_n hx hb dX5_nest_0 rfl (lv_at hl 1 rfl) ?_
    refine vp_callSi (W.runS (As := [.int (nI x)]) (rest := []) ⟨hx, hb, hml, hown, hts⟩ (k_X5_isGroup l (nI x)) (va_cwS 1 hts gX5_nest_X5_isGroup rfl rfl rfl (by decide +kernel) ⟨Nat.le_of_ble_eq_true rfl, Nat.le_of_ble_eq_true rfl⟩) ⟨nf_blind, fun U hU hW => ⟨rfl, trivial⟩⟩ rfl rfl hl.1 rfl (lv_room (Nat.le_of_ble_eq_true rfl)) dX5_nest_1 ⟨Nat.le_of_ble_eq_true rfl, Nat.le_of_ble_eq_true rfl⟩) (fun r er => ?_)
    subst er
    have J_35 : ∀ (H : Heap) (locs : List Loc), va_P D vwCl (mdW cI cZ ad F ow mp nm gb ob ik kp tu g) H → va_S A s.heap H locs → ∀ ls : Array Slot, lv_has ls 4 [(0, .ref (ad 0)), (1, .int (nI x)), (2, .int (nI y))] → W p l e (headSpec wsX5_nest (rmr 2 45)).room s m args below meth c H locs 0 0 Q (F0 m 35 ls [.int 2]) := by
      intro  H locs hP hS ls hl
      refine lv_istore_n (lv' := [(3, .int 2), (0, .ref (ad 0)), (1, .int (nI x)), (2, .int (nI y))]) hx hb dX5_nest_35 rfl hl (by decide) rfl (fun ls hl => ?_)
      refine lv_aload_n hx hb dX5_nest_36 rfl (lv_at hl 1 rfl) ?_
      refine lv_iload_n hx hb dX5_nest_37 rfl (lv_at hl 0 rfl) ?_
      refine va_calli (va_runV (As := [.int 2]) (rest := []) ⟨hx, hb, hml, hown, hts⟩ (k_X5_isFine l D cI cZ ad A F ow mp nm gb ob ik kp tu g hA 2) (cwV 1 hts gX5_nest_X5_isFine rfl rfl rfl (by decide +kernel) ⟨Nat.le_of_ble_eq_true rfl, Nat.le_of_ble_eq_true rfl⟩) ⟨rd_blind, va_recv hK hP (ci := 6) (q0 := 0) rfl rfl, rd_pre hP hK hN⟩ rfl rfl hl.1 rfl (lv_room (Nat.le_of_ble_eq_true rfl)) dX5_nest_38 ⟨Nat.le_of_ble_eq_true rfl, Nat.le_of_ble_eq_true rfl⟩) hS (fun q _ h => h) (fun q h => h) (fun r u t H locs ht hvm hw hB hz1 hk1 hS => ?_)
      have hP := hB
      rw [ht] at hP
      subst hw
      have hP : va_P D vwCl (mdW cI cZ ad F ow mp nm gb ob ik kp tu (va_up g 19 2)) H := hP
      refine top_eq (y := b2i false) (by decide) ?_
      refine lv_if_ne (tgt := 46) hx hb dX5_nest_41 (by decide) (fun c_41 => absurd rfl c_41) (fun c_41 => ?_)
      refine lv_iconst (v := 0) hx hb dX5_nest_44 (by decide) ?_
      subst hQ
      have hP : va_P D vwCl (mdW cI cZ ad F ow mp nm gb ob ik kp tu (va_up g 19 2)) H := hP
      have hrt : (0 : Int32) = b2i false := by rfl
      exact W.zret (v := 0) hx hb hr (by rw [hrt]; exact nar_b2i _) (fun t ht _ => ⟨⟨_, (), rfl, hrt, by have e := hP; rw [← ht] at e; exact e⟩, hS.F ht⟩) hS.2.2 dX5_nest_45
    refine lv_if_eq (tgt := 14) hx hb dX5_nest_4 (by decide) (fun c_4 => ?_) (fun c_4 => ?_)
    ·
      have c_4 := b2i_0 c_4
      exact absurd (inB_g hx6) (b2i_bf c_4)
    ·
      have c_4 := b2i_1 c_4
      refine lv_iload_n hx hb dX5_nest_7 rfl (lv_at hl 2 rfl) ?_
      refine vp_callSi (W.runS (As := [.int (nI y)]) (rest := []) ⟨hx, hb, hml, hown, hts⟩ (k_X5_isGroup l (nI y)) (va_cwS 1 hts gX5_nest_X5_isGroup rfl rfl rfl (by decide +kernel) ⟨Nat.le_of_ble_eq_true rfl, Nat.le_of_ble_eq_true rfl⟩) ⟨nf_blind, fun U hU hW => ⟨rfl, trivial⟩⟩ rfl rfl hl.1 rfl (lv_room (Nat.le_of_ble_eq_true rfl)) dX5_nest_8 ⟨Nat.le_of_ble_eq_true rfl, Nat.le_of_ble_eq_true rfl⟩) (fun r er => ?_)
      subst er
      refine lv_if_ne (tgt := 18) hx hb dX5_nest_11 (by decide) (fun c_11 => ?_) (fun c_11 => ?_)
      ·
        have c_11 := b2i_1 c_11
        refine lv_aload_n hx hb dX5_nest_18 rfl (lv_at hl 0 rfl) ?_
        refine lv_iload_n hx hb dX5_nest_19 rfl (lv_at hl 2 rfl) ?_
        refine vp_callSi (W.runV (As := [.int (nI y)]) (rest := []) ⟨hx, hb, hml, hown, hts⟩ (k_X5_groupsIn l D cI cZ ad F ow mp nm gb ob ik kp tu g y) (cwV 1 hts gX5_nest_X5_groupsIn rfl rfl rfl (by decide +kernel) ⟨Nat.le_of_ble_eq_true rfl, Nat.le_of_ble_eq_true rfl⟩) ⟨rd_blind, va_recv hK hP (ci := 6) (q0 := 0) rfl rfl, rd_pre hP hK hN⟩ rfl rfl hl.1 rfl (lv_room (Nat.le_of_ble_eq_true rfl)) dX5_nest_20 ⟨Nat.le_of_ble_eq_true rfl, Nat.le_of_ble_eq_true rfl⟩) (fun r er => ?_)
        subst er
        refine lv_iload_n hx hb dX5_nest_23 rfl (lv_at hl 1 rfl) ?_
        refine vp_callSi (W.runS (As := [.int (grnds ((F 2)) (1 <<< (nI y &&& 31)) 6), .int (nI x)]) (rest := []) ⟨hx, hb, hml, hown, hts⟩ (k_X5_has l (grnds ((F 2)) (1 <<< (nI y &&& 31)) 6) (nI x)) (va_cwS 2 hts gX5_nest_X5_has rfl rfl rfl (by decide +kernel) ⟨Nat.le_of_ble_eq_true rfl, Nat.le_of_ble_eq_true rfl⟩) ⟨nf_blind, fun U hU hW => ⟨rfl, trivial⟩⟩ rfl rfl hl.1 rfl (lv_room (Nat.le_of_ble_eq_true rfl)) dX5_nest_24 ⟨Nat.le_of_ble_eq_true rfl, Nat.le_of_ble_eq_true rfl⟩) (fun r er => ?_)
        subst er
        refine lv_if_eq (tgt := 34) hx hb dX5_nest_27 (by decide) (fun c_27 => ?_) (fun c_27 => ?_)
        ·
          have c_27 := b2i_0 c_27
          exact absurd hc (b2i_bf c_27)
        ·
          have c_27 := b2i_1 c_27
          refine lv_iconst (v := 2) hx hb dX5_nest_30 (by decide) ?_
          refine lv_goto (tgt := 35) hx hb dX5_nest_31 (by decide) ?_
          exact J_35 _ _ hP hS ls (lv_sub hl [0, 1, 2] rfl)
      ·
        have c_11 := b2i_0 c_11
        exact absurd (inB_g hy6) (b2i_bf c_11)
  exact go _ _ hP hS

set_option maxHeartbeats 800000 in
set_option maxRecDepth 100000 in
theorem m_members (l : Launch) (D : va_G) (cI cZ : ClassId) (ad : Nat → Nat) (A : Nat → Prop) (F : Nat → Nat → Int32) (ow : Nat → Int32) (mp : Nat → Int32) (nm : Int32) (gb : Int32) (ob : Int32) (ik : Nat → Int32) (kp : Nat → Int32) (tu : Nat → Int32) (g : Nat → Int32) (hA : apD 16 A ad) (x : Nat)  (hx6 : x < 6)  : Met l yX5_members wsX5_members (rmr 3 69) (va_Pc [.ref (ad 0), .int (nI x)] (rdP D ([(cI, .int), (cZ, .boolean)]) (mdW cI cZ ad F ow mp nm gb ob ik kp tu g))) (va_Qi (fun (r : Int32) (_ : Unit) => r = mMem F x) (fun _ t => va_P D vwCl (mdW cI cZ ad F ow mp nm gb ob ik kp tu (va_up g 19 0)) t.heap) A) 0 0 A := by
  refine Met.ofW (cc := cX5_members) (maxL := 2) (ret := (some .int)) (by decide) rfl ?_
  intro p e s m args below meth c s₁ B hml hv
  obtain ⟨hargs, hP, hK, hN⟩ := hv
  have hx := B.exec
  have hb := B.bytes
  have hr := B.returns
  have hts := atoms_spec (ws := wsX5_members) B.pre
  have hown : s.vm.findClass RX5 = some m.cls := findClass_of_methodNamed B.named
  have hlocks := B.notSynchronized
  have hen : entryFrame m args 2 = entryFrame m ([.ref (ad 0), .int (nI x)] : List Value).toArray 2 := by rw [hargs]
  rw [hen]
  have hl := lv_entry ([.ref (ad 0), .int (nI x)]) (n := 2) (Nat.le_of_ble_eq_true rfl)
  rw [lg_entry_eq]
  generalize (lg_sl ([.ref (ad 0), .int (nI x)]) ++ List.replicate (2 - (lg_sl ([.ref (ad 0), .int (nI x)])).length) Slot.unset).toArray = ls at hl ⊢
  have hl : lv_has ls 2 [(0, .ref (ad 0)), (1, .int (nI x))] := hl
  have hS : va_S A s.heap s.heap [] := va_S.rf
  generalize hQ : MQ below (va_Qi (fun (r : Int32) (_ : Unit) => r = mMem F x) (fun _ t => va_P D vwCl (mdW cI cZ ad F ow mp nm gb ob ik kp tu (va_up g 19 0)) t.heap) A) args s 0 0 A = Q
  have go : ∀ (H : Heap) (locs : List Loc), va_P D vwCl (mdW cI cZ ad F ow mp nm gb ob ik kp tu g) H → va_S A s.heap H locs → W p l e (headSpec wsX5_members (rmr 3 69)).room s m args below meth c H locs 0 0 Q (F0 m 0 ls []) := by
    intro H locs hP hS
    refine lv_aload_n hx hb dX5_members_0 rfl (lv_at hl 0 rfl) ?_
    refine lv_iload_n hx hb dX5_members_1 rfl (lv_at hl 1 rfl) ?_
    refine vp_callSi (W.runS (As := [.int (nI x)]) (rest := [.ref (ad 0)]) ⟨hx, hb, hml, hown, hts⟩ (k_X5_isGroup l (nI x)) (va_cwS 1 hts gX5_members_X5_isGroup rfl rfl rfl (by decide +kernel) ⟨Nat.le_of_ble_eq_true rfl, Nat.le_of_ble_eq_true rfl⟩) ⟨nf_blind, fun U hU hW => ⟨rfl, trivial⟩⟩ rfl rfl hl.1 rfl (lv_room (Nat.le_of_ble_eq_true rfl)) dX5_members_2 ⟨Nat.le_of_ble_eq_true rfl, Nat.le_of_ble_eq_true rfl⟩) (fun r er => ?_)
    subst er
    have J_13 : ∀ (H : Heap) (locs : List Loc), va_P D vwCl (mdW cI cZ ad F ow mp nm gb ob ik kp tu g) H → va_S A s.heap H locs → ∀ ls : Array Slot, lv_has ls 2 [(0, .ref (ad 0)), (1, .int (nI x))] → W p l e (headSpec wsX5_members (rmr 3 69)).room s m args below meth c H locs 0 0 Q (F0 m 13 ls [.int 0, .ref (ad 0)]) := by
      intro  H locs hP hS ls hl
      refine va_calli (va_runV (As := [.int 0]) (rest := []) ⟨hx, hb, hml, hown, hts⟩ (k_X5_isFine l D cI cZ ad A F ow mp nm gb ob ik kp tu g hA 0) (cwV 1 hts gX5_members_X5_isFine rfl rfl rfl (by decide +kernel) ⟨Nat.le_of_ble_eq_true rfl, Nat.le_of_ble_eq_true rfl⟩) ⟨rd_blind, va_recv hK hP (ci := 6) (q0 := 0) rfl rfl, rd_pre hP hK hN⟩ rfl rfl hl.1 rfl (lv_room (Nat.le_of_ble_eq_true rfl)) dX5_members_13 ⟨Nat.le_of_ble_eq_true rfl, Nat.le_of_ble_eq_true rfl⟩) hS (fun q _ h => h) (fun q h => h) (fun r u t H locs ht hvm hw hB hz1 hk1 hS => ?_)
      have hP := hB
      rw [ht] at hP
      subst hw
      have hP : va_P D vwCl (mdW cI cZ ad F ow mp nm gb ob ik kp tu (va_up g 19 0)) H := hP
      refine top_eq (y := b2i true) (by decide) ?_
      refine lv_if_eq (tgt := 27) hx hb dX5_members_16 (by decide) (fun c_16 => absurd c_16 (by decide)) (fun c_16 => ?_)
      refine lv_aload_n hx hb dX5_members_19 rfl (lv_at hl 0 rfl) ?_
      refine lv_iload_n hx hb dX5_members_20 rfl (lv_at hl 1 rfl) ?_
      refine vp_callSi (W.runV (As := [.int (nI x)]) (rest := []) ⟨hx, hb, hml, hown, hts⟩ (k_X5_membersOf l D cI cZ ad F ow mp nm gb ob ik kp tu (va_up g 19 0) x) (cwV 1 hts gX5_members_X5_membersOf rfl rfl rfl (by decide +kernel) ⟨Nat.le_of_ble_eq_true rfl, Nat.le_of_ble_eq_true rfl⟩) ⟨rd_blind, va_recv hK hP (ci := 6) (q0 := 0) rfl rfl, rd_pre hP hK hN⟩ rfl rfl hl.1 rfl (lv_room (Nat.le_of_ble_eq_true rfl)) dX5_members_21 ⟨Nat.le_of_ble_eq_true rfl, Nat.le_of_ble_eq_true rfl⟩) (fun r er => ?_)
      subst er
      refine lv_goto (tgt := 28) hx hb dX5_members_24 (by decide) ?_
      subst hQ
      have hP : va_P D vwCl (mdW cI cZ ad F ow mp nm gb ob ik kp tu (va_up g 19 0)) H := hP
      exact W.iret (v := mMem F x) hx hb hr (fun t ht _ => ⟨⟨_, (), rfl, (by rfl), by have e := hP; rw [← ht] at e; exact e⟩, hS.F ht⟩) hS.2.2 dX5_members_28
    refine lv_if_eq (tgt := 12) hx hb dX5_members_5 (by decide) (fun c_5 => ?_) (fun c_5 => ?_)
    ·
      have c_5 := b2i_0 c_5
      exact absurd (inB_g hx6) (b2i_bf c_5)
    ·
      have c_5 := b2i_1 c_5
      refine lv_iconst (v := 0) hx hb dX5_members_8 (by decide) ?_
      refine lv_goto (tgt := 13) hx hb dX5_members_9 (by decide) ?_
      exact J_13 _ _ hP hS ls (lv_sub hl [0, 1] rfl)
  exact go _ _ hP hS

set_option maxHeartbeats 800000 in
set_option maxRecDepth 100000 in
theorem m_members_1 (l : Launch) (D : va_G) (cI cZ : ClassId) (ad : Nat → Nat) (A : Nat → Prop) (F : Nat → Nat → Int32) (ow : Nat → Int32) (mp : Nat → Int32) (nm : Int32) (gb : Int32) (ob : Int32) (ik : Nat → Int32) (kp : Nat → Int32) (tu : Nat → Int32) (g : Nat → Int32) (hA : apD 16 A ad) (x0 : Int32)  (hb1 : inB x0 0 5 = false) : Met l yX5_members wsX5_members (rmr 3 69) (va_Pc [.ref (ad 0), .int x0] (rdP D ([(cI, .int), (cZ, .boolean)]) (mdW cI cZ ad F ow mp nm gb ob ik kp tu g))) (va_Qi (fun (r : Int32) (_ : Unit) => r = 0) (fun _ t => va_P D vwCl (mdW cI cZ ad F ow mp nm gb ob ik kp tu (va_up g 19 1)) t.heap) A) 0 0 A := by
  refine Met.ofW (cc := cX5_members) (maxL := 2) (ret := (some .int)) (by decide) rfl ?_
  intro p e s m args below meth c s₁ B hml hv
  obtain ⟨hargs, hP, hK, hN⟩ := hv
  have hx := B.exec
  have hb := B.bytes
  have hr := B.returns
  have hts := atoms_spec (ws := wsX5_members) B.pre
  have hown : s.vm.findClass RX5 = some m.cls := findClass_of_methodNamed B.named
  have hlocks := B.notSynchronized
  have hen : entryFrame m args 2 = entryFrame m ([.ref (ad 0), .int x0] : List Value).toArray 2 := by rw [hargs]
  rw [hen]
  have hl := lv_entry ([.ref (ad 0), .int x0]) (n := 2) (Nat.le_of_ble_eq_true rfl)
  rw [lg_entry_eq]
  generalize (lg_sl ([.ref (ad 0), .int x0]) ++ List.replicate (2 - (lg_sl ([.ref (ad 0), .int x0])).length) Slot.unset).toArray = ls at hl ⊢
  have hl : lv_has ls 2 [(0, .ref (ad 0)), (1, .int x0)] := hl
  have hS : va_S A s.heap s.heap [] := va_S.rf
  generalize hQ : MQ below (va_Qi (fun (r : Int32) (_ : Unit) => r = 0) (fun _ t => va_P D vwCl (mdW cI cZ ad F ow mp nm gb ob ik kp tu (va_up g 19 1)) t.heap) A) args s 0 0 A = Q
  have go : ∀ (H : Heap) (locs : List Loc), va_P D vwCl (mdW cI cZ ad F ow mp nm gb ob ik kp tu g) H → va_S A s.heap H locs → W p l e (headSpec wsX5_members (rmr 3 69)).room s m args below meth c H locs 0 0 Q (F0 m 0 ls []) := by
    intro H locs hP hS
    refine lv_aload_n hx hb dX5_members_0 rfl (lv_at hl 0 rfl) ?_
    refine lv_iload_n hx hb dX5_members_1 rfl (lv_at hl 1 rfl) ?_
    refine vp_callSi (W.runS (As := [.int x0]) (rest := [.ref (ad 0)]) ⟨hx, hb, hml, hown, hts⟩ (k_X5_isGroup l x0) (va_cwS 1 hts gX5_members_X5_isGroup rfl rfl rfl (by decide +kernel) ⟨Nat.le_of_ble_eq_true rfl, Nat.le_of_ble_eq_true rfl⟩) ⟨nf_blind, fun U hU hW => ⟨rfl, trivial⟩⟩ rfl rfl hl.1 rfl (lv_room (Nat.le_of_ble_eq_true rfl)) dX5_members_2 ⟨Nat.le_of_ble_eq_true rfl, Nat.le_of_ble_eq_true rfl⟩) (fun r er => ?_)
    subst er
    have J_13 : ∀ (H : Heap) (locs : List Loc), va_P D vwCl (mdW cI cZ ad F ow mp nm gb ob ik kp tu g) H → va_S A s.heap H locs → ∀ ls : Array Slot, lv_has ls 2 [(0, .ref (ad 0)), (1, .int x0)] → W p l e (headSpec wsX5_members (rmr 3 69)).room s m args below meth c H locs 0 0 Q (F0 m 13 ls [.int 1, .ref (ad 0)]) := by
      intro  H locs hP hS ls hl
      refine va_calli (va_runV (As := [.int 1]) (rest := []) ⟨hx, hb, hml, hown, hts⟩ (k_X5_isFine l D cI cZ ad A F ow mp nm gb ob ik kp tu g hA 1) (cwV 1 hts gX5_members_X5_isFine rfl rfl rfl (by decide +kernel) ⟨Nat.le_of_ble_eq_true rfl, Nat.le_of_ble_eq_true rfl⟩) ⟨rd_blind, va_recv hK hP (ci := 6) (q0 := 0) rfl rfl, rd_pre hP hK hN⟩ rfl rfl hl.1 rfl (lv_room (Nat.le_of_ble_eq_true rfl)) dX5_members_13 ⟨Nat.le_of_ble_eq_true rfl, Nat.le_of_ble_eq_true rfl⟩) hS (fun q _ h => h) (fun q h => h) (fun r u t H locs ht hvm hw hB hz1 hk1 hS => ?_)
      have hP := hB
      rw [ht] at hP
      subst hw
      have hP : va_P D vwCl (mdW cI cZ ad F ow mp nm gb ob ik kp tu (va_up g 19 1)) H := hP
      refine top_eq (y := b2i false) (by decide) ?_
      refine lv_if_eq (tgt := 27) hx hb dX5_members_16 (by decide) (fun c_16 => ?_) (fun c_16 => absurd rfl c_16)
      refine lv_iconst (v := 0) hx hb dX5_members_27 (by decide) ?_
      subst hQ
      have hP : va_P D vwCl (mdW cI cZ ad F ow mp nm gb ob ik kp tu (va_up g 19 1)) H := hP
      exact W.iret (v := 0) hx hb hr (fun t ht _ => ⟨⟨_, (), rfl, (by rfl), by have e := hP; rw [← ht] at e; exact e⟩, hS.F ht⟩) hS.2.2 dX5_members_28
    refine lv_if_eq (tgt := 12) hx hb dX5_members_5 (by decide) (fun c_5 => ?_) (fun c_5 => ?_)
    ·
      have c_5 := b2i_0 c_5
      refine lv_iconst (v := 1) hx hb dX5_members_12 (by decide) ?_
      exact J_13 _ _ hP hS ls (lv_sub hl [0, 1] rfl)
    ·
      have c_5 := b2i_1 c_5
      exact absurd c_5 (b2i_bf hb1)
  exact go _ _ hP hS

set_option maxHeartbeats 800000 in
set_option maxRecDepth 100000 in
theorem m_addFolder (l : Launch) (D : va_G) (cI cZ : ClassId) (ad : Nat → Nat) (A : Nat → Prop) (F : Nat → Nat → Int32) (ow : Nat → Int32) (mp : Nat → Int32) (nm : Int32) (gb : Int32) (ob : Int32) (ik : Nat → Int32) (kp : Nat → Int32) (tu : Nat → Int32) (g : Nat → Int32) (hA : apD 16 A ad) (x : Nat) (y : Nat)  (nn : Nat) (hM : okM F g nn) (hxn : x < nn) (hy8 : y < 8) (hn20 : nn < 20) : Met l yX5_addFolder wsX5_addFolder (rmr 2 43) (va_Pc [.ref (ad 0), .int (nI x), .int (nI y)] (rdP D ([(cI, .int), (cZ, .boolean)]) (mdW cI cZ ad F ow mp nm gb ob ik kp tu g))) (va_Qi (fun (r : Int32) (_ : Unit) => r = nI nn) (fun _ t => va_P D vwCl (mdW cI cZ ad (va_up (va_up (va_up F 3 (upd (F 3) nn (nI x))) 4 (upd (F 4) nn (nI y))) 5 (upd (F 5) nn 1)) ow mp nm gb ob ik kp tu (va_up (va_up g 6 (nI (nn + 1))) 19 0)) t.heap) A) 0 0 A := by
  refine Met.ofW (cc := cX5_addFolder) (maxL := 3) (ret := (some .int)) (by decide) rfl ?_
  intro p e s m args below meth c s₁ B hml hv
  obtain ⟨hargs, hP, hK, hN⟩ := hv
  have hx := B.exec
  have hb := B.bytes
  have hr := B.returns
  have hts := atoms_spec (ws := wsX5_addFolder) B.pre
  have hown : s.vm.findClass RX5 = some m.cls := findClass_of_methodNamed B.named
  have hlocks := B.notSynchronized
  have hen : entryFrame m args 3 = entryFrame m ([.ref (ad 0), .int (nI x), .int (nI y)] : List Value).toArray 3 := by rw [hargs]
  rw [hen]
  have hl := lv_entry ([.ref (ad 0), .int (nI x), .int (nI y)]) (n := 3) (Nat.le_of_ble_eq_true rfl)
  rw [lg_entry_eq]
  generalize (lg_sl ([.ref (ad 0), .int (nI x), .int (nI y)]) ++ List.replicate (3 - (lg_sl ([.ref (ad 0), .int (nI x), .int (nI y)])).length) Slot.unset).toArray = ls at hl ⊢
  have hl : lv_has ls 3 [(0, .ref (ad 0)), (1, .int (nI x)), (2, .int (nI y))] := hl
  have hS : va_S A s.heap s.heap [] := va_S.rf
  generalize hQ : MQ below (va_Qi (fun (r : Int32) (_ : Unit) => r = nI nn) (fun _ t => va_P D vwCl (mdW cI cZ ad (va_up (va_up (va_up F 3 (upd (F 3) nn (nI x))) 4 (upd (F 4) nn (nI y))) 5 (upd (F 5) nn 1)) ow mp nm gb ob ik kp tu (va_up (va_up g 6 (nI (nn + 1))) 19 0)) t.heap) A) args s 0 0 A = Q
  have go : ∀ (H : Heap) (locs : List Loc), va_P D vwCl (mdW cI cZ ad F ow mp nm gb ob ik kp tu g) H → va_S A s.heap H locs → W p l e (headSpec wsX5_addFolder (rmr 2 43)).room s m args below meth c H locs 0 0 Q (F0 m 0 ls []) := by
    intro H locs hP hS
    refine lv_aload_n hx hb dX5_addFolder_0 rfl (lv_at hl 0 rfl) ?_
    refine lv_aload_n hx hb dX5_addFolder_1 rfl (lv_at hl 0 rfl) ?_
    refine lv_iload_n hx hb dX5_addFolder_2 rfl (lv_at hl 1 rfl) ?_
    refine vp_callSi (W.runV (As := [.int (nI x)]) (rest := [.ref (ad 0)]) ⟨hx, hb, hml, hown, hts⟩ (k_X5_isFolder l D cI cZ ad F ow mp nm gb ob ik kp tu g (nI x)) (cwV 1 hts gX5_addFolder_X5_isFolder rfl rfl rfl (by decide +kernel) ⟨Nat.le_of_ble_eq_true rfl, Nat.le_of_ble_eq_true rfl⟩) ⟨rd_blind, va_recv hK hP (ci := 6) (q0 := 0) rfl rfl, rd_pre hP hK hN⟩ rfl rfl hl.1 rfl (lv_room (Nat.le_of_ble_eq_true rfl)) dX5_addFolder_3 ⟨Nat.le_of_ble_eq_true rfl, Nat.le_of_ble_eq_true rfl⟩) (fun r er => ?_)
    subst er
    have J_34 : ∀ (H : Heap) (locs : List Loc), va_P D vwCl (mdW cI cZ ad F ow mp nm gb ob ik kp tu g) H → va_S A s.heap H locs → ∀ ls : Array Slot, lv_has ls 3 [(0, .ref (ad 0)), (1, .int (nI x)), (2, .int (nI y))] → W p l e (headSpec wsX5_addFolder (rmr 2 43)).room s m args below meth c H locs 0 0 Q (F0 m 34 ls [.int 0, .ref (ad 0)]) := by
      intro  H locs hP hS ls hl
      refine va_calli (va_runV (As := [.int 0]) (rest := []) ⟨hx, hb, hml, hown, hts⟩ (k_X5_isFine l D cI cZ ad A F ow mp nm gb ob ik kp tu g hA 0) (cwV 1 hts gX5_addFolder_X5_isFine rfl rfl rfl (by decide +kernel) ⟨Nat.le_of_ble_eq_true rfl, Nat.le_of_ble_eq_true rfl⟩) ⟨rd_blind, va_recv hK hP (ci := 6) (q0 := 0) rfl rfl, rd_pre hP hK hN⟩ rfl rfl hl.1 rfl (lv_room (Nat.le_of_ble_eq_true rfl)) dX5_addFolder_34 ⟨Nat.le_of_ble_eq_true rfl, Nat.le_of_ble_eq_true rfl⟩) hS (fun q _ h => h) (fun q h => h) (fun r u t H locs ht hvm hw hB hz1 hk1 hS => ?_)
      have hP := hB
      rw [ht] at hP
      subst hw
      have hP : va_P D vwCl (mdW cI cZ ad F ow mp nm gb ob ik kp tu (va_up g 19 0)) H := hP
      refine top_eq (y := b2i true) (by decide) ?_
      refine lv_if_ne (tgt := 42) hx hb dX5_addFolder_37 (by decide) (fun c_37 => ?_) (fun c_37 => absurd c_37 (by decide))
      refine lv_aload_n hx hb dX5_addFolder_42 rfl (lv_at hl 0 rfl) ?_
      refine va_get (D := D) (ci := 6) (v := .ref (ad 3)) (C := RX5) (T := TX5) (N := 20) hx hb hts (fun _ h => List.mem_cons_of_mem _ (List.mem_append_right _ (h))) hown hK hP 0 rfl rfl 2 (by decide) (hts _ (List.mem_of_getElem? (i := 2) rfl)) (fun _ h9 => h9) rfl dX5_addFolder_43 ?_
      refine lv_aload_n hx hb dX5_addFolder_46 rfl (lv_at hl 0 rfl) ?_
      refine va_get (D := D) (ci := 6) (v := .int (g 6)) (C := RX5) (T := TX5) (N := 20) hx hb hts (fun _ h => List.mem_cons_of_mem _ (List.mem_append_right _ (h))) hown hK hP 0 rfl rfl 6 (by decide) (hts _ (List.mem_of_getElem? (i := 1) rfl)) (fun _ h9 => h9) rfl dX5_addFolder_47 ?_
      refine top_eq (y := nI nn) (by exact hM.1) ?_
      refine lv_iload_n hx hb dX5_addFolder_50 rfl (lv_at hl 1 rfl) ?_
      refine st_i (k := nn) hx hb hK hP (md_D hA) hS 3 0 rfl rfl (by omega) (by decide) dX5_addFolder_51 (fun H locs hP _ hS => ?_)
      have hP : va_P D vwCl (mdW cI cZ ad (va_up F 3 (upd (F 3) nn (nI x))) ow mp nm gb ob ik kp tu (va_up g 19 0)) H := hP
      refine lv_aload_n hx hb dX5_addFolder_52 rfl (lv_at hl 0 rfl) ?_
      refine va_get (D := D) (ci := 6) (v := .ref (ad 4)) (C := RX5) (T := TX5) (N := 20) hx hb hts (fun _ h => List.mem_cons_of_mem _ (List.mem_append_right _ (h))) hown hK hP 0 rfl rfl 3 (by decide) (hts _ (List.mem_of_getElem? (i := 3) rfl)) (fun _ h9 => h9) rfl dX5_addFolder_53 ?_
      refine lv_aload_n hx hb dX5_addFolder_56 rfl (lv_at hl 0 rfl) ?_
      refine va_get (D := D) (ci := 6) (v := .int (g 6)) (C := RX5) (T := TX5) (N := 20) hx hb hts (fun _ h => List.mem_cons_of_mem _ (List.mem_append_right _ (h))) hown hK hP 0 rfl rfl 6 (by decide) (hts _ (List.mem_of_getElem? (i := 1) rfl)) (fun _ h9 => h9) rfl dX5_addFolder_57 ?_
      refine top_eq (y := nI nn) (by exact hM.1) ?_
      refine lv_iload_n hx hb dX5_addFolder_60 rfl (lv_at hl 2 rfl) ?_
      refine st_i (k := nn) hx hb hK hP (md_D hA) hS 4 0 rfl rfl (by omega) (by decide) dX5_addFolder_61 (fun H locs hP _ hS => ?_)
      have hP : va_P D vwCl (mdW cI cZ ad (va_up (va_up F 3 (upd (F 3) nn (nI x))) 4 (upd (F 4) nn (nI y))) ow mp nm gb ob ik kp tu (va_up g 19 0)) H := hP
      refine lv_aload_n hx hb dX5_addFolder_62 rfl (lv_at hl 0 rfl) ?_
      refine va_get (D := D) (ci := 6) (v := .ref (ad 5)) (C := RX5) (T := TX5) (N := 20) hx hb hts (fun _ h => List.mem_cons_of_mem _ (List.mem_append_right _ (h))) hown hK hP 0 rfl rfl 4 (by decide) (hts _ (List.mem_of_getElem? (i := 4) rfl)) (fun _ h9 => h9) rfl dX5_addFolder_63 ?_
      refine lv_aload_n hx hb dX5_addFolder_66 rfl (lv_at hl 0 rfl) ?_
      refine va_get (D := D) (ci := 6) (v := .int (g 6)) (C := RX5) (T := TX5) (N := 20) hx hb hts (fun _ h => List.mem_cons_of_mem _ (List.mem_append_right _ (h))) hown hK hP 0 rfl rfl 6 (by decide) (hts _ (List.mem_of_getElem? (i := 1) rfl)) (fun _ h9 => h9) rfl dX5_addFolder_67 ?_
      refine top_eq (y := nI nn) (by exact hM.1) ?_
      refine lv_iconst (v := 1) hx hb dX5_addFolder_70 (by decide) ?_
      refine st_z (k := nn) hx hb hK hP (md_D hA) hS 5 1 rfl rfl (by omega) (by decide) (by rfl) dX5_addFolder_71 (fun H locs hP _ hS => ?_)
      have hP : va_P D vwCl (mdW cI cZ ad (va_up (va_up (va_up F 3 (upd (F 3) nn (nI x))) 4 (upd (F 4) nn (nI y))) 5 (upd (F 5) nn 1)) ow mp nm gb ob ik kp tu (va_up g 19 0)) H := hP
      refine lv_aload_n hx hb dX5_addFolder_72 rfl (lv_at hl 0 rfl) ?_
      refine lv_dup hx hb dX5_addFolder_73 rfl ?_
      refine va_get (D := D) (ci := 6) (v := .int (g 6)) (C := RX5) (T := TX5) (N := 20) hx hb hts (fun _ h => List.mem_cons_of_mem _ (List.mem_append_right _ (h))) hown hK hP 0 rfl rfl 6 (by decide) (hts _ (List.mem_of_getElem? (i := 1) rfl)) (fun _ h9 => h9) rfl dX5_addFolder_74 ?_
      refine top_eq (y := nI nn) (by exact hM.1) ?_
      refine lv_iconst (v := 1) hx hb dX5_addFolder_77 (by decide) ?_
      refine iadd_n (x := nn) (y := 1) hx hb dX5_addFolder_78 ?_
      refine va_put (D := D) (ci := 6) (v := .int (nI (nn + 1))) (ty := .int) (C := RX5) (T := TX5) (N := 20) hx hb hts (fun _ h => List.mem_cons_of_mem _ (List.mem_append_right _ (h))) tyX5 tyX5_ok nmX5 hown hK hP (md_D hA) hS 0 rfl rfl 6 (by decide) (hts _ (List.mem_of_getElem? (i := 1) rfl)) (fun _ h9 => h9) rfl (by decide +kernel) rfl rfl (Nat.le_of_ble_eq_true rfl) dX5_addFolder_79 (fun H locs hP _ hS => ?_)
      have hP : va_P D vwCl (mdW cI cZ ad (va_up (va_up (va_up F 3 (upd (F 3) nn (nI x))) 4 (upd (F 4) nn (nI y))) 5 (upd (F 5) nn 1)) ow mp nm gb ob ik kp tu (va_up (va_up g 6 (nI (nn + 1))) 19 0)) H := hP
      refine lv_aload_n hx hb dX5_addFolder_82 rfl (lv_at hl 0 rfl) ?_
      refine va_get (D := D) (ci := 6) (v := .int (nI (nn + 1))) (C := RX5) (T := TX5) (N := 20) hx hb hts (fun _ h => List.mem_cons_of_mem _ (List.mem_append_right _ (h))) hown hK hP 0 rfl rfl 6 (by decide) (hts _ (List.mem_of_getElem? (i := 1) rfl)) (fun _ h9 => h9) rfl dX5_addFolder_83 ?_
      refine lv_iconst (v := 1) hx hb dX5_addFolder_86 (by decide) ?_
      refine isub_n (x := nn + 1) (y := 1) (by omega) hx hb dX5_addFolder_87 ?_
      subst hQ
      have hP : va_P D vwCl (mdW cI cZ ad (va_up (va_up (va_up F 3 (upd (F 3) nn (nI x))) 4 (upd (F 4) nn (nI y))) 5 (upd (F 5) nn 1)) ow mp nm gb ob ik kp tu (va_up (va_up g 6 (nI (nn + 1))) 19 0)) H := hP
      exact W.iret (v := nI ((nn + 1) - 1)) hx hb hr (fun t ht _ => ⟨⟨_, (), rfl, (by rfl), by have e := hP; rw [← ht] at e; exact e⟩, hS.F ht⟩) hS.2.2 dX5_addFolder_88
    refine lv_if_eq (tgt := 16) hx hb dX5_addFolder_6 (by decide) (fun c_6 => ?_) (fun c_6 => ?_)
    ·
      have c_6 := b2i_0 c_6
      exact absurd (inB_f hM hxn) (b2i_bf c_6)
    ·
      have c_6 := b2i_1 c_6
      refine lv_iload_n hx hb dX5_addFolder_9 rfl (lv_at hl 2 rfl) ?_
      refine vp_callSi (W.runS (As := [.int (nI y)]) (rest := [.ref (ad 0)]) ⟨hx, hb, hml, hown, hts⟩ (k_X5_isPerson l (nI y)) (va_cwS 1 hts gX5_addFolder_X5_isPerson rfl rfl rfl (by decide +kernel) ⟨Nat.le_of_ble_eq_true rfl, Nat.le_of_ble_eq_true rfl⟩) ⟨nf_blind, fun U hU hW => ⟨rfl, trivial⟩⟩ rfl rfl hl.1 rfl (lv_room (Nat.le_of_ble_eq_true rfl)) dX5_addFolder_10 ⟨Nat.le_of_ble_eq_true rfl, Nat.le_of_ble_eq_true rfl⟩) (fun r er => ?_)
      subst er
      refine lv_if_ne (tgt := 20) hx hb dX5_addFolder_13 (by decide) (fun c_13 => ?_) (fun c_13 => ?_)
      ·
        have c_13 := b2i_1 c_13
        refine lv_aload_n hx hb dX5_addFolder_20 rfl (lv_at hl 0 rfl) ?_
        refine va_get (D := D) (ci := 6) (v := .int (g 6)) (C := RX5) (T := TX5) (N := 20) hx hb hts (fun _ h => List.mem_cons_of_mem _ (List.mem_append_right _ (h))) hown hK hP 0 rfl rfl 6 (by decide) (hts _ (List.mem_of_getElem? (i := 1) rfl)) (fun _ h9 => h9) rfl dX5_addFolder_21 ?_
        refine lv_bipush (v := 20) hx hb dX5_addFolder_24 (by decide) ?_
        refine lv_icmp_ne (tgt := 33) hx hb dX5_addFolder_26 (by decide) (fun c_26 => ?_) (fun c_26 => ?_)
        ·
          refine lv_iconst (v := 0) hx hb dX5_addFolder_33 (by decide) ?_
          exact J_34 _ _ hP hS ls (lv_sub hl [0, 1, 2] rfl)
        ·
          exact absurd (nI_ne hM.1 hn20 (by decide) c_26) id
      ·
        have c_13 := b2i_0 c_13
        exact absurd (inB_p hy8) (b2i_bf c_13)
  exact go _ _ hP hS

set_option maxHeartbeats 800000 in
set_option maxRecDepth 100000 in
theorem m_addFolder_1 (l : Launch) (D : va_G) (cI cZ : ClassId) (ad : Nat → Nat) (A : Nat → Prop) (F : Nat → Nat → Int32) (ow : Nat → Int32) (mp : Nat → Int32) (nm : Int32) (gb : Int32) (ob : Int32) (ik : Nat → Int32) (kp : Nat → Int32) (tu : Nat → Int32) (g : Nat → Int32) (hA : apD 16 A ad) (x0 : Int32) (x1 : Int32)  (hb1 : (inB x0 0 (g 6 - 1) && inB x1 0 7) = false) : Met l yX5_addFolder wsX5_addFolder (rmr 2 43) (va_Pc [.ref (ad 0), .int x0, .int x1] (rdP D ([(cI, .int), (cZ, .boolean)]) (mdW cI cZ ad F ow mp nm gb ob ik kp tu g))) (va_Qi (fun (r : Int32) (_ : Unit) => r = 0) (fun _ t => va_P D vwCl (mdW cI cZ ad F ow mp nm gb ob ik kp tu (va_up g 19 1)) t.heap) A) 0 0 A := by
  refine Met.ofW (cc := cX5_addFolder) (maxL := 3) (ret := (some .int)) (by decide) rfl ?_
  intro p e s m args below meth c s₁ B hml hv
  obtain ⟨hargs, hP, hK, hN⟩ := hv
  have hx := B.exec
  have hb := B.bytes
  have hr := B.returns
  have hts := atoms_spec (ws := wsX5_addFolder) B.pre
  have hown : s.vm.findClass RX5 = some m.cls := findClass_of_methodNamed B.named
  have hlocks := B.notSynchronized
  have hen : entryFrame m args 3 = entryFrame m ([.ref (ad 0), .int x0, .int x1] : List Value).toArray 3 := by rw [hargs]
  rw [hen]
  have hl := lv_entry ([.ref (ad 0), .int x0, .int x1]) (n := 3) (Nat.le_of_ble_eq_true rfl)
  rw [lg_entry_eq]
  generalize (lg_sl ([.ref (ad 0), .int x0, .int x1]) ++ List.replicate (3 - (lg_sl ([.ref (ad 0), .int x0, .int x1])).length) Slot.unset).toArray = ls at hl ⊢
  have hl : lv_has ls 3 [(0, .ref (ad 0)), (1, .int x0), (2, .int x1)] := hl
  have hS : va_S A s.heap s.heap [] := va_S.rf
  generalize hQ : MQ below (va_Qi (fun (r : Int32) (_ : Unit) => r = 0) (fun _ t => va_P D vwCl (mdW cI cZ ad F ow mp nm gb ob ik kp tu (va_up g 19 1)) t.heap) A) args s 0 0 A = Q
  have go : ∀ (H : Heap) (locs : List Loc), va_P D vwCl (mdW cI cZ ad F ow mp nm gb ob ik kp tu g) H → va_S A s.heap H locs → W p l e (headSpec wsX5_addFolder (rmr 2 43)).room s m args below meth c H locs 0 0 Q (F0 m 0 ls []) := by
    intro H locs hP hS
    refine lv_aload_n hx hb dX5_addFolder_0 rfl (lv_at hl 0 rfl) ?_
    refine lv_aload_n hx hb dX5_addFolder_1 rfl (lv_at hl 0 rfl) ?_
    refine lv_iload_n hx hb dX5_addFolder_2 rfl (lv_at hl 1 rfl) ?_
    refine vp_callSi (W.runV (As := [.int x0]) (rest := [.ref (ad 0)]) ⟨hx, hb, hml, hown, hts⟩ (k_X5_isFolder l D cI cZ ad F ow mp nm gb ob ik kp tu g x0) (cwV 1 hts gX5_addFolder_X5_isFolder rfl rfl rfl (by decide +kernel) ⟨Nat.le_of_ble_eq_true rfl, Nat.le_of_ble_eq_true rfl⟩) ⟨rd_blind, va_recv hK hP (ci := 6) (q0 := 0) rfl rfl, rd_pre hP hK hN⟩ rfl rfl hl.1 rfl (lv_room (Nat.le_of_ble_eq_true rfl)) dX5_addFolder_3 ⟨Nat.le_of_ble_eq_true rfl, Nat.le_of_ble_eq_true rfl⟩) (fun r er => ?_)
    subst er
    have J_34 : ∀ (H : Heap) (locs : List Loc), va_P D vwCl (mdW cI cZ ad F ow mp nm gb ob ik kp tu g) H → va_S A s.heap H locs → ∀ ls : Array Slot, lv_has ls 3 [(0, .ref (ad 0)), (1, .int x0), (2, .int x1)] → W p l e (headSpec wsX5_addFolder (rmr 2 43)).room s m args below meth c H locs 0 0 Q (F0 m 34 ls [.int 1, .ref (ad 0)]) := by
      intro  H locs hP hS ls hl
      refine va_calli (va_runV (As := [.int 1]) (rest := []) ⟨hx, hb, hml, hown, hts⟩ (k_X5_isFine l D cI cZ ad A F ow mp nm gb ob ik kp tu g hA 1) (cwV 1 hts gX5_addFolder_X5_isFine rfl rfl rfl (by decide +kernel) ⟨Nat.le_of_ble_eq_true rfl, Nat.le_of_ble_eq_true rfl⟩) ⟨rd_blind, va_recv hK hP (ci := 6) (q0 := 0) rfl rfl, rd_pre hP hK hN⟩ rfl rfl hl.1 rfl (lv_room (Nat.le_of_ble_eq_true rfl)) dX5_addFolder_34 ⟨Nat.le_of_ble_eq_true rfl, Nat.le_of_ble_eq_true rfl⟩) hS (fun q _ h => h) (fun q h => h) (fun r u t H locs ht hvm hw hB hz1 hk1 hS => ?_)
      have hP := hB
      rw [ht] at hP
      subst hw
      have hP : va_P D vwCl (mdW cI cZ ad F ow mp nm gb ob ik kp tu (va_up g 19 1)) H := hP
      refine top_eq (y := b2i false) (by decide) ?_
      refine lv_if_ne (tgt := 42) hx hb dX5_addFolder_37 (by decide) (fun c_37 => absurd rfl c_37) (fun c_37 => ?_)
      refine lv_iconst (v := 0) hx hb dX5_addFolder_40 (by decide) ?_
      subst hQ
      have hP : va_P D vwCl (mdW cI cZ ad F ow mp nm gb ob ik kp tu (va_up g 19 1)) H := hP
      exact W.iret (v := 0) hx hb hr (fun t ht _ => ⟨⟨_, (), rfl, (by rfl), by have e := hP; rw [← ht] at e; exact e⟩, hS.F ht⟩) hS.2.2 dX5_addFolder_41
    refine lv_if_eq (tgt := 16) hx hb dX5_addFolder_6 (by decide) (fun c_6 => ?_) (fun c_6 => ?_)
    ·
      have c_6 := b2i_0 c_6
      refine lv_iconst (v := 1) hx hb dX5_addFolder_16 (by decide) ?_
      refine lv_goto (tgt := 34) hx hb dX5_addFolder_17 (by decide) ?_
      exact J_34 _ _ hP hS ls (lv_sub hl [0, 1, 2] rfl)
    ·
      have c_6 := b2i_1 c_6
      refine lv_iload_n hx hb dX5_addFolder_9 rfl (lv_at hl 2 rfl) ?_
      refine vp_callSi (W.runS (As := [.int x1]) (rest := [.ref (ad 0)]) ⟨hx, hb, hml, hown, hts⟩ (k_X5_isPerson l x1) (va_cwS 1 hts gX5_addFolder_X5_isPerson rfl rfl rfl (by decide +kernel) ⟨Nat.le_of_ble_eq_true rfl, Nat.le_of_ble_eq_true rfl⟩) ⟨nf_blind, fun U hU hW => ⟨rfl, trivial⟩⟩ rfl rfl hl.1 rfl (lv_room (Nat.le_of_ble_eq_true rfl)) dX5_addFolder_10 ⟨Nat.le_of_ble_eq_true rfl, Nat.le_of_ble_eq_true rfl⟩) (fun r er => ?_)
      subst er
      refine lv_if_ne (tgt := 20) hx hb dX5_addFolder_13 (by decide) (fun c_13 => ?_) (fun c_13 => ?_)
      ·
        have c_13 := b2i_1 c_13
        exact absurd (B2f hb1 c_6 c_13) id
      ·
        have c_13 := b2i_0 c_13
        refine lv_iconst (v := 1) hx hb dX5_addFolder_16 (by decide) ?_
        refine lv_goto (tgt := 34) hx hb dX5_addFolder_17 (by decide) ?_
        exact J_34 _ _ hP hS ls (lv_sub hl [0, 1, 2] rfl)
  exact go _ _ hP hS

set_option maxHeartbeats 800000 in
set_option maxRecDepth 100000 in
theorem m_addFolder_2 (l : Launch) (D : va_G) (cI cZ : ClassId) (ad : Nat → Nat) (A : Nat → Prop) (F : Nat → Nat → Int32) (ow : Nat → Int32) (mp : Nat → Int32) (nm : Int32) (gb : Int32) (ob : Int32) (ik : Nat → Int32) (kp : Nat → Int32) (tu : Nat → Int32) (g : Nat → Int32) (hA : apD 16 A ad) (x : Nat) (y : Nat)  (nn : Nat) (hM : okM F g nn) (hxn : x < nn) (hy8 : y < 8) (h20 : g 6 = 20) : Met l yX5_addFolder wsX5_addFolder (rmr 2 43) (va_Pc [.ref (ad 0), .int (nI x), .int (nI y)] (rdP D ([(cI, .int), (cZ, .boolean)]) (mdW cI cZ ad F ow mp nm gb ob ik kp tu g))) (va_Qi (fun (r : Int32) (_ : Unit) => r = 0) (fun _ t => va_P D vwCl (mdW cI cZ ad F ow mp nm gb ob ik kp tu (va_up g 19 2)) t.heap) A) 0 0 A := by
  refine Met.ofW (cc := cX5_addFolder) (maxL := 3) (ret := (some .int)) (by decide) rfl ?_
  intro p e s m args below meth c s₁ B hml hv
  obtain ⟨hargs, hP, hK, hN⟩ := hv
  have hx := B.exec
  have hb := B.bytes
  have hr := B.returns
  have hts := atoms_spec (ws := wsX5_addFolder) B.pre
  have hown : s.vm.findClass RX5 = some m.cls := findClass_of_methodNamed B.named
  have hlocks := B.notSynchronized
  have hen : entryFrame m args 3 = entryFrame m ([.ref (ad 0), .int (nI x), .int (nI y)] : List Value).toArray 3 := by rw [hargs]
  rw [hen]
  have hl := lv_entry ([.ref (ad 0), .int (nI x), .int (nI y)]) (n := 3) (Nat.le_of_ble_eq_true rfl)
  rw [lg_entry_eq]
  generalize (lg_sl ([.ref (ad 0), .int (nI x), .int (nI y)]) ++ List.replicate (3 - (lg_sl ([.ref (ad 0), .int (nI x), .int (nI y)])).length) Slot.unset).toArray = ls at hl ⊢
  have hl : lv_has ls 3 [(0, .ref (ad 0)), (1, .int (nI x)), (2, .int (nI y))] := hl
  have hS : va_S A s.heap s.heap [] := va_S.rf
  generalize hQ : MQ below (va_Qi (fun (r : Int32) (_ : Unit) => r = 0) (fun _ t => va_P D vwCl (mdW cI cZ ad F ow mp nm gb ob ik kp tu (va_up g 19 2)) t.heap) A) args s 0 0 A = Q
  have go : ∀ (H : Heap) (locs : List Loc), va_P D vwCl (mdW cI cZ ad F ow mp nm gb ob ik kp tu g) H → va_S A s.heap H locs → W p l e (headSpec wsX5_addFolder (rmr 2 43)).room s m args below meth c H locs 0 0 Q (F0 m 0 ls []) := by
    intro H locs hP hS
    refine lv_aload_n hx hb dX5_addFolder_0 rfl (lv_at hl 0 rfl) ?_
    refine lv_aload_n hx hb dX5_addFolder_1 rfl (lv_at hl 0 rfl) ?_
    refine lv_iload_n hx hb dX5_addFolder_2 rfl (lv_at hl 1 rfl) ?_
    refine vp_callSi (W.runV (As := [.int (nI x)]) (rest := [.ref (ad 0)]) ⟨hx, hb, hml, hown, hts⟩ (k_X5_isFolder l D cI cZ ad F ow mp nm gb ob ik kp tu g (nI x)) (cwV 1 hts gX5_addFolder_X5_isFolder rfl rfl rfl (by decide +kernel) ⟨Nat.le_of_ble_eq_true rfl, Nat.le_of_ble_eq_true rfl⟩) ⟨rd_blind, va_recv hK hP (ci := 6) (q0 := 0) rfl rfl, rd_pre hP hK hN⟩ rfl rfl hl.1 rfl (lv_room (Nat.le_of_ble_eq_true rfl)) dX5_addFolder_3 ⟨Nat.le_of_ble_eq_true rfl, Nat.le_of_ble_eq_true rfl⟩) (fun r er => ?_)
    subst er
    have J_34 : ∀ (H : Heap) (locs : List Loc), va_P D vwCl (mdW cI cZ ad F ow mp nm gb ob ik kp tu g) H → va_S A s.heap H locs → ∀ ls : Array Slot, lv_has ls 3 [(0, .ref (ad 0)), (1, .int (nI x)), (2, .int (nI y))] → W p l e (headSpec wsX5_addFolder (rmr 2 43)).room s m args below meth c H locs 0 0 Q (F0 m 34 ls [.int 2, .ref (ad 0)]) := by
      intro  H locs hP hS ls hl
      refine va_calli (va_runV (As := [.int 2]) (rest := []) ⟨hx, hb, hml, hown, hts⟩ (k_X5_isFine l D cI cZ ad A F ow mp nm gb ob ik kp tu g hA 2) (cwV 1 hts gX5_addFolder_X5_isFine rfl rfl rfl (by decide +kernel) ⟨Nat.le_of_ble_eq_true rfl, Nat.le_of_ble_eq_true rfl⟩) ⟨rd_blind, va_recv hK hP (ci := 6) (q0 := 0) rfl rfl, rd_pre hP hK hN⟩ rfl rfl hl.1 rfl (lv_room (Nat.le_of_ble_eq_true rfl)) dX5_addFolder_34 ⟨Nat.le_of_ble_eq_true rfl, Nat.le_of_ble_eq_true rfl⟩) hS (fun q _ h => h) (fun q h => h) (fun r u t H locs ht hvm hw hB hz1 hk1 hS => ?_)
      have hP := hB
      rw [ht] at hP
      subst hw
      have hP : va_P D vwCl (mdW cI cZ ad F ow mp nm gb ob ik kp tu (va_up g 19 2)) H := hP
      refine top_eq (y := b2i false) (by decide) ?_
      refine lv_if_ne (tgt := 42) hx hb dX5_addFolder_37 (by decide) (fun c_37 => absurd rfl c_37) (fun c_37 => ?_)
      refine lv_iconst (v := 0) hx hb dX5_addFolder_40 (by decide) ?_
      subst hQ
      have hP : va_P D vwCl (mdW cI cZ ad F ow mp nm gb ob ik kp tu (va_up g 19 2)) H := hP
      exact W.iret (v := 0) hx hb hr (fun t ht _ => ⟨⟨_, (), rfl, (by rfl), by have e := hP; rw [← ht] at e; exact e⟩, hS.F ht⟩) hS.2.2 dX5_addFolder_41
    refine lv_if_eq (tgt := 16) hx hb dX5_addFolder_6 (by decide) (fun c_6 => ?_) (fun c_6 => ?_)
    ·
      have c_6 := b2i_0 c_6
      exact absurd (inB_f hM hxn) (b2i_bf c_6)
    ·
      have c_6 := b2i_1 c_6
      refine lv_iload_n hx hb dX5_addFolder_9 rfl (lv_at hl 2 rfl) ?_
      refine vp_callSi (W.runS (As := [.int (nI y)]) (rest := [.ref (ad 0)]) ⟨hx, hb, hml, hown, hts⟩ (k_X5_isPerson l (nI y)) (va_cwS 1 hts gX5_addFolder_X5_isPerson rfl rfl rfl (by decide +kernel) ⟨Nat.le_of_ble_eq_true rfl, Nat.le_of_ble_eq_true rfl⟩) ⟨nf_blind, fun U hU hW => ⟨rfl, trivial⟩⟩ rfl rfl hl.1 rfl (lv_room (Nat.le_of_ble_eq_true rfl)) dX5_addFolder_10 ⟨Nat.le_of_ble_eq_true rfl, Nat.le_of_ble_eq_true rfl⟩) (fun r er => ?_)
      subst er
      refine lv_if_ne (tgt := 20) hx hb dX5_addFolder_13 (by decide) (fun c_13 => ?_) (fun c_13 => ?_)
      ·
        have c_13 := b2i_1 c_13
        refine lv_aload_n hx hb dX5_addFolder_20 rfl (lv_at hl 0 rfl) ?_
        refine va_get (D := D) (ci := 6) (v := .int (g 6)) (C := RX5) (T := TX5) (N := 20) hx hb hts (fun _ h => List.mem_cons_of_mem _ (List.mem_append_right _ (h))) hown hK hP 0 rfl rfl 6 (by decide) (hts _ (List.mem_of_getElem? (i := 1) rfl)) (fun _ h9 => h9) rfl dX5_addFolder_21 ?_
        refine lv_bipush (v := 20) hx hb dX5_addFolder_24 (by decide) ?_
        refine lv_icmp_ne (tgt := 33) hx hb dX5_addFolder_26 (by decide) (fun c_26 => ?_) (fun c_26 => ?_)
        ·
          exact absurd h20 c_26
        ·
          refine lv_iconst (v := 2) hx hb dX5_addFolder_29 (by decide) ?_
          refine lv_goto (tgt := 34) hx hb dX5_addFolder_30 (by decide) ?_
          exact J_34 _ _ hP hS ls (lv_sub hl [0, 1, 2] rfl)
      ·
        have c_13 := b2i_0 c_13
        exact absurd (inB_p hy8) (b2i_bf c_13)
  exact go _ _ hP hS

set_option maxHeartbeats 800000 in
set_option maxRecDepth 100000 in
theorem m_setOwner (l : Launch) (D : va_G) (cI cZ : ClassId) (ad : Nat → Nat) (A : Nat → Prop) (F : Nat → Nat → Int32) (ow : Nat → Int32) (mp : Nat → Int32) (nm : Int32) (gb : Int32) (ob : Int32) (ik : Nat → Int32) (kp : Nat → Int32) (tu : Nat → Int32) (g : Nat → Int32) (hA : apD 16 A ad) (x : Nat) (y : Nat)  (nn : Nat) (hM : okM F g nn) (hxn : x < nn) (hy8 : y < 8)  : Met l yX5_setOwner wsX5_setOwner (rmr 2 43) (va_Pc [.ref (ad 0), .int (nI x), .int (nI y)] (rdP D ([(cI, .int), (cZ, .boolean)]) (mdW cI cZ ad F ow mp nm gb ob ik kp tu g))) (va_Qi (fun (r : Int32) (_ : Unit) => r = F 4 x) (fun _ t => va_P D vwCl (mdW cI cZ ad (va_up F 4 (upd (F 4) x (nI y))) ow mp nm gb ob ik kp tu (va_up g 19 0)) t.heap) A) 0 0 A := by
  refine Met.ofW (cc := cX5_setOwner) (maxL := 4) (ret := (some .int)) (by decide) rfl ?_
  intro p e s m args below meth c s₁ B hml hv
  obtain ⟨hargs, hP, hK, hN⟩ := hv
  have hx := B.exec
  have hb := B.bytes
  have hr := B.returns
  have hts := atoms_spec (ws := wsX5_setOwner) B.pre
  have hown : s.vm.findClass RX5 = some m.cls := findClass_of_methodNamed B.named
  have hlocks := B.notSynchronized
  have hen : entryFrame m args 4 = entryFrame m ([.ref (ad 0), .int (nI x), .int (nI y)] : List Value).toArray 4 := by rw [hargs]
  rw [hen]
  have hl := lv_entry ([.ref (ad 0), .int (nI x), .int (nI y)]) (n := 4) (Nat.le_of_ble_eq_true rfl)
  rw [lg_entry_eq]
  generalize (lg_sl ([.ref (ad 0), .int (nI x), .int (nI y)]) ++ List.replicate (4 - (lg_sl ([.ref (ad 0), .int (nI x), .int (nI y)])).length) Slot.unset).toArray = ls at hl ⊢
  have hl : lv_has ls 4 [(0, .ref (ad 0)), (1, .int (nI x)), (2, .int (nI y))] := hl
  have hS : va_S A s.heap s.heap [] := va_S.rf
  generalize hQ : MQ below (va_Qi (fun (r : Int32) (_ : Unit) => r = F 4 x) (fun _ t => va_P D vwCl (mdW cI cZ ad (va_up F 4 (upd (F 4) x (nI y))) ow mp nm gb ob ik kp tu (va_up g 19 0)) t.heap) A) args s 0 0 A = Q
  have go : ∀ (H : Heap) (locs : List Loc), va_P D vwCl (mdW cI cZ ad F ow mp nm gb ob ik kp tu g) H → va_S A s.heap H locs → W p l e (headSpec wsX5_setOwner (rmr 2 43)).room s m args below meth c H locs 0 0 Q (F0 m 0 ls []) := by
    intro H locs hP hS
    have hnn := hM.2.1.2
    refine lv_aload_n hx hb dX5_setOwner_0 rfl (lv_at hl 0 rfl) ?_
    refine lv_aload_n hx hb dX5_setOwner_1 rfl (lv_at hl 0 rfl) ?_
    refine lv_iload_n hx hb dX5_setOwner_2 rfl (lv_at hl 1 rfl) ?_
    refine vp_callSi (W.runV (As := [.int (nI x)]) (rest := [.ref (ad 0)]) ⟨hx, hb, hml, hown, hts⟩ (k_X5_isFolder l D cI cZ ad F ow mp nm gb ob ik kp tu g (nI x)) (cwV 1 hts gX5_setOwner_X5_isFolder rfl rfl rfl (by decide +kernel) ⟨Nat.le_of_ble_eq_true rfl, Nat.le_of_ble_eq_true rfl⟩) ⟨rd_blind, va_recv hK hP (ci := 6) (q0 := 0) rfl rfl, rd_pre hP hK hN⟩ rfl rfl hl.1 rfl (lv_room (Nat.le_of_ble_eq_true rfl)) dX5_setOwner_3 ⟨Nat.le_of_ble_eq_true rfl, Nat.le_of_ble_eq_true rfl⟩) (fun r er => ?_)
    subst er
    have J_21 : ∀ (H : Heap) (locs : List Loc), va_P D vwCl (mdW cI cZ ad F ow mp nm gb ob ik kp tu g) H → va_S A s.heap H locs → ∀ ls : Array Slot, lv_has ls 4 [(0, .ref (ad 0)), (1, .int (nI x)), (2, .int (nI y))] → W p l e (headSpec wsX5_setOwner (rmr 2 43)).room s m args below meth c H locs 0 0 Q (F0 m 21 ls [.int 0, .ref (ad 0)]) := by
      intro  H locs hP hS ls hl
      refine va_calli (va_runV (As := [.int 0]) (rest := []) ⟨hx, hb, hml, hown, hts⟩ (k_X5_isFine l D cI cZ ad A F ow mp nm gb ob ik kp tu g hA 0) (cwV 1 hts gX5_setOwner_X5_isFine rfl rfl rfl (by decide +kernel) ⟨Nat.le_of_ble_eq_true rfl, Nat.le_of_ble_eq_true rfl⟩) ⟨rd_blind, va_recv hK hP (ci := 6) (q0 := 0) rfl rfl, rd_pre hP hK hN⟩ rfl rfl hl.1 rfl (lv_room (Nat.le_of_ble_eq_true rfl)) dX5_setOwner_21 ⟨Nat.le_of_ble_eq_true rfl, Nat.le_of_ble_eq_true rfl⟩) hS (fun q _ h => h) (fun q h => h) (fun r u t H locs ht hvm hw hB hz1 hk1 hS => ?_)
      have hP := hB
      rw [ht] at hP
      subst hw
      have hP : va_P D vwCl (mdW cI cZ ad F ow mp nm gb ob ik kp tu (va_up g 19 0)) H := hP
      refine top_eq (y := b2i true) (by decide) ?_
      refine lv_if_ne (tgt := 29) hx hb dX5_setOwner_24 (by decide) (fun c_24 => ?_) (fun c_24 => absurd c_24 (by decide))
      refine lv_aload_n hx hb dX5_setOwner_29 rfl (lv_at hl 0 rfl) ?_
      refine va_get (D := D) (ci := 6) (v := .ref (ad 4)) (C := RX5) (T := TX5) (N := 20) hx hb hts (fun _ h => List.mem_cons_of_mem _ (List.mem_append_right _ (h))) hown hK hP 0 rfl rfl 3 (by decide) (hts _ (List.mem_of_getElem? (i := 1) rfl)) (fun _ h9 => h9) rfl dX5_setOwner_30 ?_
      refine lv_iload_n hx hb dX5_setOwner_33 rfl (lv_at hl 1 rfl) ?_
      refine ld_i (k := x) hx hb hK hP 4 0 rfl rfl (by omega) (by decide) dX5_setOwner_34 ?_
      refine lv_istore_n (lv' := [(3, .int ((F 4) x)), (0, .ref (ad 0)), (1, .int (nI x)), (2, .int (nI y))]) hx hb dX5_setOwner_35 rfl hl (by decide) rfl (fun ls hl => ?_)
      refine lv_aload_n hx hb dX5_setOwner_36 rfl (lv_at hl 1 rfl) ?_
      refine va_get (D := D) (ci := 6) (v := .ref (ad 4)) (C := RX5) (T := TX5) (N := 20) hx hb hts (fun _ h => List.mem_cons_of_mem _ (List.mem_append_right _ (h))) hown hK hP 0 rfl rfl 3 (by decide) (hts _ (List.mem_of_getElem? (i := 1) rfl)) (fun _ h9 => h9) rfl dX5_setOwner_37 ?_
      refine lv_iload_n hx hb dX5_setOwner_40 rfl (lv_at hl 2 rfl) ?_
      refine lv_iload_n hx hb dX5_setOwner_41 rfl (lv_at hl 3 rfl) ?_
      refine st_i (k := x) hx hb hK hP (md_D hA) hS 4 0 rfl rfl (by omega) (by decide) dX5_setOwner_42 (fun H locs hP _ hS => ?_)
      have hP : va_P D vwCl (mdW cI cZ ad (va_up F 4 (upd (F 4) x (nI y))) ow mp nm gb ob ik kp tu (va_up g 19 0)) H := hP
      refine lv_iload_n hx hb dX5_setOwner_43 rfl (lv_at hl 0 rfl) ?_
      subst hQ
      have hP : va_P D vwCl (mdW cI cZ ad (va_up F 4 (upd (F 4) x (nI y))) ow mp nm gb ob ik kp tu (va_up g 19 0)) H := hP
      exact W.iret (v := (F 4) x) hx hb hr (fun t ht _ => ⟨⟨_, (), rfl, (by rfl), by have e := hP; rw [← ht] at e; exact e⟩, hS.F ht⟩) hS.2.2 dX5_setOwner_44
    refine lv_if_eq (tgt := 20) hx hb dX5_setOwner_6 (by decide) (fun c_6 => ?_) (fun c_6 => ?_)
    ·
      have c_6 := b2i_0 c_6
      exact absurd (inB_f hM hxn) (b2i_bf c_6)
    ·
      have c_6 := b2i_1 c_6
      refine lv_iload_n hx hb dX5_setOwner_9 rfl (lv_at hl 2 rfl) ?_
      refine vp_callSi (W.runS (As := [.int (nI y)]) (rest := [.ref (ad 0)]) ⟨hx, hb, hml, hown, hts⟩ (k_X5_isPerson l (nI y)) (va_cwS 1 hts gX5_setOwner_X5_isPerson rfl rfl rfl (by decide +kernel) ⟨Nat.le_of_ble_eq_true rfl, Nat.le_of_ble_eq_true rfl⟩) ⟨nf_blind, fun U hU hW => ⟨rfl, trivial⟩⟩ rfl rfl hl.1 rfl (lv_room (Nat.le_of_ble_eq_true rfl)) dX5_setOwner_10 ⟨Nat.le_of_ble_eq_true rfl, Nat.le_of_ble_eq_true rfl⟩) (fun r er => ?_)
      subst er
      refine lv_if_eq (tgt := 20) hx hb dX5_setOwner_13 (by decide) (fun c_13 => ?_) (fun c_13 => ?_)
      ·
        have c_13 := b2i_0 c_13
        exact absurd (inB_p hy8) (b2i_bf c_13)
      ·
        have c_13 := b2i_1 c_13
        refine lv_iconst (v := 0) hx hb dX5_setOwner_16 (by decide) ?_
        refine lv_goto (tgt := 21) hx hb dX5_setOwner_17 (by decide) ?_
        exact J_21 _ _ hP hS ls (lv_sub hl [0, 1, 2] rfl)
  exact go _ _ hP hS

set_option maxHeartbeats 800000 in
set_option maxRecDepth 100000 in
theorem m_setOwner_1 (l : Launch) (D : va_G) (cI cZ : ClassId) (ad : Nat → Nat) (A : Nat → Prop) (F : Nat → Nat → Int32) (ow : Nat → Int32) (mp : Nat → Int32) (nm : Int32) (gb : Int32) (ob : Int32) (ik : Nat → Int32) (kp : Nat → Int32) (tu : Nat → Int32) (g : Nat → Int32) (hA : apD 16 A ad) (x0 : Int32) (x1 : Int32)  (hb1 : (inB x0 0 (g 6 - 1) && inB x1 0 7) = false) : Met l yX5_setOwner wsX5_setOwner (rmr 2 43) (va_Pc [.ref (ad 0), .int x0, .int x1] (rdP D ([(cI, .int), (cZ, .boolean)]) (mdW cI cZ ad F ow mp nm gb ob ik kp tu g))) (va_Qi (fun (r : Int32) (_ : Unit) => r = 0) (fun _ t => va_P D vwCl (mdW cI cZ ad F ow mp nm gb ob ik kp tu (va_up g 19 1)) t.heap) A) 0 0 A := by
  refine Met.ofW (cc := cX5_setOwner) (maxL := 4) (ret := (some .int)) (by decide) rfl ?_
  intro p e s m args below meth c s₁ B hml hv
  obtain ⟨hargs, hP, hK, hN⟩ := hv
  have hx := B.exec
  have hb := B.bytes
  have hr := B.returns
  have hts := atoms_spec (ws := wsX5_setOwner) B.pre
  have hown : s.vm.findClass RX5 = some m.cls := findClass_of_methodNamed B.named
  have hlocks := B.notSynchronized
  have hen : entryFrame m args 4 = entryFrame m ([.ref (ad 0), .int x0, .int x1] : List Value).toArray 4 := by rw [hargs]
  rw [hen]
  have hl := lv_entry ([.ref (ad 0), .int x0, .int x1]) (n := 4) (Nat.le_of_ble_eq_true rfl)
  rw [lg_entry_eq]
  generalize (lg_sl ([.ref (ad 0), .int x0, .int x1]) ++ List.replicate (4 - (lg_sl ([.ref (ad 0), .int x0, .int x1])).length) Slot.unset).toArray = ls at hl ⊢
  have hl : lv_has ls 4 [(0, .ref (ad 0)), (1, .int x0), (2, .int x1)] := hl
  have hS : va_S A s.heap s.heap [] := va_S.rf
  generalize hQ : MQ below (va_Qi (fun (r : Int32) (_ : Unit) => r = 0) (fun _ t => va_P D vwCl (mdW cI cZ ad F ow mp nm gb ob ik kp tu (va_up g 19 1)) t.heap) A) args s 0 0 A = Q
  have go : ∀ (H : Heap) (locs : List Loc), va_P D vwCl (mdW cI cZ ad F ow mp nm gb ob ik kp tu g) H → va_S A s.heap H locs → W p l e (headSpec wsX5_setOwner (rmr 2 43)).room s m args below meth c H locs 0 0 Q (F0 m 0 ls []) := by
    intro H locs hP hS
    refine lv_aload_n hx hb dX5_setOwner_0 rfl (lv_at hl 0 rfl) ?_
    refine lv_aload_n hx hb dX5_setOwner_1 rfl (lv_at hl 0 rfl) ?_
    refine lv_iload_n hx hb dX5_setOwner_2 rfl (lv_at hl 1 rfl) ?_
    refine vp_callSi (W.runV (As := [.int x0]) (rest := [.ref (ad 0)]) ⟨hx, hb, hml, hown, hts⟩ (k_X5_isFolder l D cI cZ ad F ow mp nm gb ob ik kp tu g x0) (cwV 1 hts gX5_setOwner_X5_isFolder rfl rfl rfl (by decide +kernel) ⟨Nat.le_of_ble_eq_true rfl, Nat.le_of_ble_eq_true rfl⟩) ⟨rd_blind, va_recv hK hP (ci := 6) (q0 := 0) rfl rfl, rd_pre hP hK hN⟩ rfl rfl hl.1 rfl (lv_room (Nat.le_of_ble_eq_true rfl)) dX5_setOwner_3 ⟨Nat.le_of_ble_eq_true rfl, Nat.le_of_ble_eq_true rfl⟩) (fun r er => ?_)
    subst er
    have J_21 : ∀ (H : Heap) (locs : List Loc), va_P D vwCl (mdW cI cZ ad F ow mp nm gb ob ik kp tu g) H → va_S A s.heap H locs → ∀ ls : Array Slot, lv_has ls 4 [(0, .ref (ad 0)), (1, .int x0), (2, .int x1)] → W p l e (headSpec wsX5_setOwner (rmr 2 43)).room s m args below meth c H locs 0 0 Q (F0 m 21 ls [.int 1, .ref (ad 0)]) := by
      intro  H locs hP hS ls hl
      refine va_calli (va_runV (As := [.int 1]) (rest := []) ⟨hx, hb, hml, hown, hts⟩ (k_X5_isFine l D cI cZ ad A F ow mp nm gb ob ik kp tu g hA 1) (cwV 1 hts gX5_setOwner_X5_isFine rfl rfl rfl (by decide +kernel) ⟨Nat.le_of_ble_eq_true rfl, Nat.le_of_ble_eq_true rfl⟩) ⟨rd_blind, va_recv hK hP (ci := 6) (q0 := 0) rfl rfl, rd_pre hP hK hN⟩ rfl rfl hl.1 rfl (lv_room (Nat.le_of_ble_eq_true rfl)) dX5_setOwner_21 ⟨Nat.le_of_ble_eq_true rfl, Nat.le_of_ble_eq_true rfl⟩) hS (fun q _ h => h) (fun q h => h) (fun r u t H locs ht hvm hw hB hz1 hk1 hS => ?_)
      have hP := hB
      rw [ht] at hP
      subst hw
      have hP : va_P D vwCl (mdW cI cZ ad F ow mp nm gb ob ik kp tu (va_up g 19 1)) H := hP
      refine top_eq (y := b2i false) (by decide) ?_
      refine lv_if_ne (tgt := 29) hx hb dX5_setOwner_24 (by decide) (fun c_24 => absurd rfl c_24) (fun c_24 => ?_)
      refine lv_iconst (v := 0) hx hb dX5_setOwner_27 (by decide) ?_
      subst hQ
      have hP : va_P D vwCl (mdW cI cZ ad F ow mp nm gb ob ik kp tu (va_up g 19 1)) H := hP
      exact W.iret (v := 0) hx hb hr (fun t ht _ => ⟨⟨_, (), rfl, (by rfl), by have e := hP; rw [← ht] at e; exact e⟩, hS.F ht⟩) hS.2.2 dX5_setOwner_28
    refine lv_if_eq (tgt := 20) hx hb dX5_setOwner_6 (by decide) (fun c_6 => ?_) (fun c_6 => ?_)
    ·
      have c_6 := b2i_0 c_6
      refine lv_iconst (v := 1) hx hb dX5_setOwner_20 (by decide) ?_
      exact J_21 _ _ hP hS ls (lv_sub hl [0, 1, 2] rfl)
    ·
      have c_6 := b2i_1 c_6
      refine lv_iload_n hx hb dX5_setOwner_9 rfl (lv_at hl 2 rfl) ?_
      refine vp_callSi (W.runS (As := [.int x1]) (rest := [.ref (ad 0)]) ⟨hx, hb, hml, hown, hts⟩ (k_X5_isPerson l x1) (va_cwS 1 hts gX5_setOwner_X5_isPerson rfl rfl rfl (by decide +kernel) ⟨Nat.le_of_ble_eq_true rfl, Nat.le_of_ble_eq_true rfl⟩) ⟨nf_blind, fun U hU hW => ⟨rfl, trivial⟩⟩ rfl rfl hl.1 rfl (lv_room (Nat.le_of_ble_eq_true rfl)) dX5_setOwner_10 ⟨Nat.le_of_ble_eq_true rfl, Nat.le_of_ble_eq_true rfl⟩) (fun r er => ?_)
      subst er
      refine lv_if_eq (tgt := 20) hx hb dX5_setOwner_13 (by decide) (fun c_13 => ?_) (fun c_13 => ?_)
      ·
        have c_13 := b2i_0 c_13
        refine lv_iconst (v := 1) hx hb dX5_setOwner_20 (by decide) ?_
        exact J_21 _ _ hP hS ls (lv_sub hl [0, 1, 2] rfl)
      ·
        have c_13 := b2i_1 c_13
        exact absurd (B2f hb1 c_6 c_13) id
  exact go _ _ hP hS

set_option maxHeartbeats 800000 in
set_option maxRecDepth 100000 in
theorem m_setInherits (l : Launch) (D : va_G) (cI cZ : ClassId) (ad : Nat → Nat) (A : Nat → Prop) (F : Nat → Nat → Int32) (ow : Nat → Int32) (mp : Nat → Int32) (nm : Int32) (gb : Int32) (ob : Int32) (ik : Nat → Int32) (kp : Nat → Int32) (tu : Nat → Int32) (g : Nat → Int32) (hA : apD 16 A ad) (x : Nat) (b : Bool)  (nn : Nat) (hM : okM F g nn) (hxn : x < nn) (hBo : okB F ik tu)  : Met l yX5_setInherits wsX5_setInherits (rmr 2 43) (va_Pc [.ref (ad 0), .int (nI x), .int (b2i b)] (rdP D ([(cI, .int), (cZ, .boolean)]) (mdW cI cZ ad F ow mp nm gb ob ik kp tu g))) (va_Qi (fun (r : Int32) (_ : Unit) => r = b2i (toB (F 5 x))) (fun _ t => va_P D vwCl (mdW cI cZ ad (va_up F 5 (upd (F 5) x (b2i b))) ow mp nm gb ob ik kp tu (va_up g 19 0)) t.heap) A) 0 0 A := by
  refine Met.ofW (cc := cX5_setInherits) (maxL := 4) (ret := (some .boolean)) (by decide) rfl ?_
  intro p e s m args below meth c s₁ B hml hv
  obtain ⟨hargs, hP, hK, hN⟩ := hv
  have hx := B.exec
  have hb := B.bytes
  have hr := B.returns
  have hts := atoms_spec (ws := wsX5_setInherits) B.pre
  have hown : s.vm.findClass RX5 = some m.cls := findClass_of_methodNamed B.named
  have hlocks := B.notSynchronized
  have hen : entryFrame m args 4 = entryFrame m ([.ref (ad 0), .int (nI x), .int (b2i b)] : List Value).toArray 4 := by rw [hargs]
  rw [hen]
  have hl := lv_entry ([.ref (ad 0), .int (nI x), .int (b2i b)]) (n := 4) (Nat.le_of_ble_eq_true rfl)
  rw [lg_entry_eq]
  generalize (lg_sl ([.ref (ad 0), .int (nI x), .int (b2i b)]) ++ List.replicate (4 - (lg_sl ([.ref (ad 0), .int (nI x), .int (b2i b)])).length) Slot.unset).toArray = ls at hl ⊢
  have hl : lv_has ls 4 [(0, .ref (ad 0)), (1, .int (nI x)), (2, .int (b2i b))] := hl
  have hS : va_S A s.heap s.heap [] := va_S.rf
  generalize hQ : MQ below (va_Qi (fun (r : Int32) (_ : Unit) => r = b2i (toB (F 5 x))) (fun _ t => va_P D vwCl (mdW cI cZ ad (va_up F 5 (upd (F 5) x (b2i b))) ow mp nm gb ob ik kp tu (va_up g 19 0)) t.heap) A) args s 0 0 A = Q
  have go : ∀ (H : Heap) (locs : List Loc), va_P D vwCl (mdW cI cZ ad F ow mp nm gb ob ik kp tu g) H → va_S A s.heap H locs → W p l e (headSpec wsX5_setInherits (rmr 2 43)).room s m args below meth c H locs 0 0 Q (F0 m 0 ls []) := by
    intro H locs hP hS
    have hnn := hM.2.1.2
    refine lv_aload_n hx hb dX5_setInherits_0 rfl (lv_at hl 0 rfl) ?_
    refine lv_aload_n hx hb dX5_setInherits_1 rfl (lv_at hl 0 rfl) ?_
    refine lv_iload_n hx hb dX5_setInherits_2 rfl (lv_at hl 1 rfl) ?_
    refine vp_callSi (W.runV (As := [.int (nI x)]) (rest := [.ref (ad 0)]) ⟨hx, hb, hml, hown, hts⟩ (k_X5_isFolder l D cI cZ ad F ow mp nm gb ob ik kp tu g (nI x)) (cwV 1 hts gX5_setInherits_X5_isFolder rfl rfl rfl (by decide +kernel) ⟨Nat.le_of_ble_eq_true rfl, Nat.le_of_ble_eq_true rfl⟩) ⟨rd_blind, va_recv hK hP (ci := 6) (q0 := 0) rfl rfl, rd_pre hP hK hN⟩ rfl rfl hl.1 rfl (lv_room (Nat.le_of_ble_eq_true rfl)) dX5_setInherits_3 ⟨Nat.le_of_ble_eq_true rfl, Nat.le_of_ble_eq_true rfl⟩) (fun r er => ?_)
    subst er
    have J_14 : ∀ (H : Heap) (locs : List Loc), va_P D vwCl (mdW cI cZ ad F ow mp nm gb ob ik kp tu g) H → va_S A s.heap H locs → ∀ ls : Array Slot, lv_has ls 4 [(0, .ref (ad 0)), (1, .int (nI x)), (2, .int (b2i b))] → W p l e (headSpec wsX5_setInherits (rmr 2 43)).room s m args below meth c H locs 0 0 Q (F0 m 14 ls [.int 0, .ref (ad 0)]) := by
      intro  H locs hP hS ls hl
      refine va_calli (va_runV (As := [.int 0]) (rest := []) ⟨hx, hb, hml, hown, hts⟩ (k_X5_isFine l D cI cZ ad A F ow mp nm gb ob ik kp tu g hA 0) (cwV 1 hts gX5_setInherits_X5_isFine rfl rfl rfl (by decide +kernel) ⟨Nat.le_of_ble_eq_true rfl, Nat.le_of_ble_eq_true rfl⟩) ⟨rd_blind, va_recv hK hP (ci := 6) (q0 := 0) rfl rfl, rd_pre hP hK hN⟩ rfl rfl hl.1 rfl (lv_room (Nat.le_of_ble_eq_true rfl)) dX5_setInherits_14 ⟨Nat.le_of_ble_eq_true rfl, Nat.le_of_ble_eq_true rfl⟩) hS (fun q _ h => h) (fun q h => h) (fun r u t H locs ht hvm hw hB hz1 hk1 hS => ?_)
      have hP := hB
      rw [ht] at hP
      subst hw
      have hP : va_P D vwCl (mdW cI cZ ad F ow mp nm gb ob ik kp tu (va_up g 19 0)) H := hP
      refine top_eq (y := b2i true) (by decide) ?_
      refine lv_if_ne (tgt := 22) hx hb dX5_setInherits_17 (by decide) (fun c_17 => ?_) (fun c_17 => absurd c_17 (by decide))
      refine lv_aload_n hx hb dX5_setInherits_22 rfl (lv_at hl 0 rfl) ?_
      refine va_get (D := D) (ci := 6) (v := .ref (ad 5)) (C := RX5) (T := TX5) (N := 20) hx hb hts (fun _ h => List.mem_cons_of_mem _ (List.mem_append_right _ (h))) hown hK hP 0 rfl rfl 4 (by decide) (hts _ (List.mem_of_getElem? (i := 1) rfl)) (fun _ h9 => h9) rfl dX5_setInherits_23 ?_
      refine lv_iload_n hx hb dX5_setInherits_26 rfl (lv_at hl 1 rfl) ?_
      refine ld_z (k := x) hx hb hK hP 5 1 rfl rfl (by omega) (by decide) dX5_setInherits_27 ?_
      refine top_eq (y := b2i (toB (F 5 x))) (by exact of_b2i (hBo.1 x)) ?_
      refine lv_istore_n (lv' := [(3, .int (b2i (toB (F 5 x)))), (0, .ref (ad 0)), (1, .int (nI x)), (2, .int (b2i b))]) hx hb dX5_setInherits_28 rfl hl (by decide) rfl (fun ls hl => ?_)
      refine lv_aload_n hx hb dX5_setInherits_29 rfl (lv_at hl 1 rfl) ?_
      refine va_get (D := D) (ci := 6) (v := .ref (ad 5)) (C := RX5) (T := TX5) (N := 20) hx hb hts (fun _ h => List.mem_cons_of_mem _ (List.mem_append_right _ (h))) hown hK hP 0 rfl rfl 4 (by decide) (hts _ (List.mem_of_getElem? (i := 1) rfl)) (fun _ h9 => h9) rfl dX5_setInherits_30 ?_
      refine lv_iload_n hx hb dX5_setInherits_33 rfl (lv_at hl 2 rfl) ?_
      refine lv_iload_n hx hb dX5_setInherits_34 rfl (lv_at hl 3 rfl) ?_
      refine st_z (k := x) hx hb hK hP (md_D hA) hS 5 1 rfl rfl (by omega) (by decide) (by exact vpn_b2i _) dX5_setInherits_35 (fun H locs hP _ hS => ?_)
      have hP : va_P D vwCl (mdW cI cZ ad (va_up F 5 (upd (F 5) x (b2i b))) ow mp nm gb ob ik kp tu (va_up g 19 0)) H := hP
      refine lv_iload_n hx hb dX5_setInherits_36 rfl (lv_at hl 0 rfl) ?_
      subst hQ
      have hP : va_P D vwCl (mdW cI cZ ad (va_up F 5 (upd (F 5) x (b2i b))) ow mp nm gb ob ik kp tu (va_up g 19 0)) H := hP
      have hrt : (b2i (toB (F 5 x)) : Int32) = b2i (toB (F 5 x)) := by rfl
      exact W.zret (v := b2i (toB (F 5 x))) hx hb hr (by rw [hrt]; exact nar_b2i _) (fun t ht _ => ⟨⟨_, (), rfl, hrt, by have e := hP; rw [← ht] at e; exact e⟩, hS.F ht⟩) hS.2.2 dX5_setInherits_37
    refine lv_if_eq (tgt := 13) hx hb dX5_setInherits_6 (by decide) (fun c_6 => ?_) (fun c_6 => ?_)
    ·
      have c_6 := b2i_0 c_6
      exact absurd (inB_f hM hxn) (b2i_bf c_6)
    ·
      have c_6 := b2i_1 c_6
      refine lv_iconst (v := 0) hx hb dX5_setInherits_9 (by decide) ?_
      refine lv_goto (tgt := 14) hx hb dX5_setInherits_10 (by decide) ?_
      exact J_14 _ _ hP hS ls (lv_sub hl [0, 1, 2] rfl)
  exact go _ _ hP hS

set_option maxHeartbeats 800000 in
set_option maxRecDepth 100000 in
theorem m_setInherits_1 (l : Launch) (D : va_G) (cI cZ : ClassId) (ad : Nat → Nat) (A : Nat → Prop) (F : Nat → Nat → Int32) (ow : Nat → Int32) (mp : Nat → Int32) (nm : Int32) (gb : Int32) (ob : Int32) (ik : Nat → Int32) (kp : Nat → Int32) (tu : Nat → Int32) (g : Nat → Int32) (hA : apD 16 A ad) (x0 : Int32) (b : Bool)  (hb1 : inB x0 0 (g 6 - 1) = false) : Met l yX5_setInherits wsX5_setInherits (rmr 2 43) (va_Pc [.ref (ad 0), .int x0, .int (b2i b)] (rdP D ([(cI, .int), (cZ, .boolean)]) (mdW cI cZ ad F ow mp nm gb ob ik kp tu g))) (va_Qi (fun (r : Int32) (_ : Unit) => r = b2i false) (fun _ t => va_P D vwCl (mdW cI cZ ad F ow mp nm gb ob ik kp tu (va_up g 19 1)) t.heap) A) 0 0 A := by
  refine Met.ofW (cc := cX5_setInherits) (maxL := 4) (ret := (some .boolean)) (by decide) rfl ?_
  intro p e s m args below meth c s₁ B hml hv
  obtain ⟨hargs, hP, hK, hN⟩ := hv
  have hx := B.exec
  have hb := B.bytes
  have hr := B.returns
  have hts := atoms_spec (ws := wsX5_setInherits) B.pre
  have hown : s.vm.findClass RX5 = some m.cls := findClass_of_methodNamed B.named
  have hlocks := B.notSynchronized
  have hen : entryFrame m args 4 = entryFrame m ([.ref (ad 0), .int x0, .int (b2i b)] : List Value).toArray 4 := by rw [hargs]
  rw [hen]
  have hl := lv_entry ([.ref (ad 0), .int x0, .int (b2i b)]) (n := 4) (Nat.le_of_ble_eq_true rfl)
  rw [lg_entry_eq]
  generalize (lg_sl ([.ref (ad 0), .int x0, .int (b2i b)]) ++ List.replicate (4 - (lg_sl ([.ref (ad 0), .int x0, .int (b2i b)])).length) Slot.unset).toArray = ls at hl ⊢
  have hl : lv_has ls 4 [(0, .ref (ad 0)), (1, .int x0), (2, .int (b2i b))] := hl
  have hS : va_S A s.heap s.heap [] := va_S.rf
  generalize hQ : MQ below (va_Qi (fun (r : Int32) (_ : Unit) => r = b2i false) (fun _ t => va_P D vwCl (mdW cI cZ ad F ow mp nm gb ob ik kp tu (va_up g 19 1)) t.heap) A) args s 0 0 A = Q
  have go : ∀ (H : Heap) (locs : List Loc), va_P D vwCl (mdW cI cZ ad F ow mp nm gb ob ik kp tu g) H → va_S A s.heap H locs → W p l e (headSpec wsX5_setInherits (rmr 2 43)).room s m args below meth c H locs 0 0 Q (F0 m 0 ls []) := by
    intro H locs hP hS
    refine lv_aload_n hx hb dX5_setInherits_0 rfl (lv_at hl 0 rfl) ?_
    refine lv_aload_n hx hb dX5_setInherits_1 rfl (lv_at hl 0 rfl) ?_
    refine lv_iload_n hx hb dX5_setInherits_2 rfl (lv_at hl 1 rfl) ?_
    refine vp_callSi (W.runV (As := [.int x0]) (rest := [.ref (ad 0)]) ⟨hx, hb, hml, hown, hts⟩ (k_X5_isFolder l D cI cZ ad F ow mp nm gb ob ik kp tu g x0) (cwV 1 hts gX5_setInherits_X5_isFolder rfl rfl rfl (by decide +kernel) ⟨Nat.le_of_ble_eq_true rfl, Nat.le_of_ble_eq_true rfl⟩) ⟨rd_blind, va_recv hK hP (ci := 6) (q0 := 0) rfl rfl, rd_pre hP hK hN⟩ rfl rfl hl.1 rfl (lv_room (Nat.le_of_ble_eq_true rfl)) dX5_setInherits_3 ⟨Nat.le_of_ble_eq_true rfl, Nat.le_of_ble_eq_true rfl⟩) (fun r er => ?_)
    subst er
    have J_14 : ∀ (H : Heap) (locs : List Loc), va_P D vwCl (mdW cI cZ ad F ow mp nm gb ob ik kp tu g) H → va_S A s.heap H locs → ∀ ls : Array Slot, lv_has ls 4 [(0, .ref (ad 0)), (1, .int x0), (2, .int (b2i b))] → W p l e (headSpec wsX5_setInherits (rmr 2 43)).room s m args below meth c H locs 0 0 Q (F0 m 14 ls [.int 1, .ref (ad 0)]) := by
      intro  H locs hP hS ls hl
      refine va_calli (va_runV (As := [.int 1]) (rest := []) ⟨hx, hb, hml, hown, hts⟩ (k_X5_isFine l D cI cZ ad A F ow mp nm gb ob ik kp tu g hA 1) (cwV 1 hts gX5_setInherits_X5_isFine rfl rfl rfl (by decide +kernel) ⟨Nat.le_of_ble_eq_true rfl, Nat.le_of_ble_eq_true rfl⟩) ⟨rd_blind, va_recv hK hP (ci := 6) (q0 := 0) rfl rfl, rd_pre hP hK hN⟩ rfl rfl hl.1 rfl (lv_room (Nat.le_of_ble_eq_true rfl)) dX5_setInherits_14 ⟨Nat.le_of_ble_eq_true rfl, Nat.le_of_ble_eq_true rfl⟩) hS (fun q _ h => h) (fun q h => h) (fun r u t H locs ht hvm hw hB hz1 hk1 hS => ?_)
      have hP := hB
      rw [ht] at hP
      subst hw
      have hP : va_P D vwCl (mdW cI cZ ad F ow mp nm gb ob ik kp tu (va_up g 19 1)) H := hP
      refine top_eq (y := b2i false) (by decide) ?_
      refine lv_if_ne (tgt := 22) hx hb dX5_setInherits_17 (by decide) (fun c_17 => absurd rfl c_17) (fun c_17 => ?_)
      refine lv_iconst (v := 0) hx hb dX5_setInherits_20 (by decide) ?_
      subst hQ
      have hP : va_P D vwCl (mdW cI cZ ad F ow mp nm gb ob ik kp tu (va_up g 19 1)) H := hP
      have hrt : (0 : Int32) = b2i false := by rfl
      exact W.zret (v := 0) hx hb hr (by rw [hrt]; exact nar_b2i _) (fun t ht _ => ⟨⟨_, (), rfl, hrt, by have e := hP; rw [← ht] at e; exact e⟩, hS.F ht⟩) hS.2.2 dX5_setInherits_21
    refine lv_if_eq (tgt := 13) hx hb dX5_setInherits_6 (by decide) (fun c_6 => ?_) (fun c_6 => ?_)
    ·
      have c_6 := b2i_0 c_6
      refine lv_iconst (v := 1) hx hb dX5_setInherits_13 (by decide) ?_
      exact J_14 _ _ hP hS ls (lv_sub hl [0, 1, 2] rfl)
    ·
      have c_6 := b2i_1 c_6
      exact absurd c_6 (b2i_bf hb1)
  exact go _ _ hP hS

set_option maxHeartbeats 800000 in
set_option maxRecDepth 100000 in
theorem m_allow (l : Launch) (D : va_G) (cI cZ : ClassId) (ad : Nat → Nat) (A : Nat → Prop) (F : Nat → Nat → Int32) (ow : Nat → Int32) (mp : Nat → Int32) (nm : Int32) (gb : Int32) (ob : Int32) (ik : Nat → Int32) (kp : Nat → Int32) (tu : Nat → Int32) (g : Nat → Int32) (hA : apD 16 A ad) (x : Nat) (w : Nat) (b : Bool) (r : Int32) (sc : Int32)  (nn : Nat) (hM : okM F g nn) (hxn : x < nn) (hw : w < 14) (hr7 : inB r 1 7 = true) (hs2 : inB sc 0 2 = true) (hl6 : i2n (F 6 x) < 6) : Met l yX5_allow wsX5_allow (rmr 2 43) (va_Pc [.ref (ad 0), .int (nI x), .int (nI w), .int (b2i b), .int r, .int sc] (rdP D ([(cI, .int), (cZ, .boolean)]) (mdW cI cZ ad F ow mp nm gb ob ik kp tu g))) (va_Qi (fun (r : Int32) (_ : Unit) => r = nI (i2n (F 6 x) + 1)) (fun _ t => va_P D vwCl (mdW cI cZ ad (va_up (va_up (va_up (va_up (va_up F 6 (upd (F 6) x (nI (i2n (F 6 x) + 1)))) 7 (upd (F 7) (6 * x + i2n (F 6 x)) (nI w))) 8 (upd (F 8) (6 * x + i2n (F 6 x)) (b2i b))) 9 (upd (F 9) (6 * x + i2n (F 6 x)) r)) 10 (upd (F 10) (6 * x + i2n (F 6 x)) sc)) ow mp nm gb ob ik kp tu (va_up g 19 0)) t.heap) A) 0 0 A := by
  refine Met.ofW (cc := cX5_allow) (maxL := 8) (ret := (some .int)) (by decide) rfl ?_
  intro p e s m args below meth c s₁ B hml hv
  obtain ⟨hargs, hP, hK, hN⟩ := hv
  have hx := B.exec
  have hb := B.bytes
  have hr := B.returns
  have hts := atoms_spec (ws := wsX5_allow) B.pre
  have hown : s.vm.findClass RX5 = some m.cls := findClass_of_methodNamed B.named
  have hlocks := B.notSynchronized
  have hen : entryFrame m args 8 = entryFrame m ([.ref (ad 0), .int (nI x), .int (nI w), .int (b2i b), .int r, .int sc] : List Value).toArray 8 := by rw [hargs]
  rw [hen]
  have hl := lv_entry ([.ref (ad 0), .int (nI x), .int (nI w), .int (b2i b), .int r, .int sc]) (n := 8) (Nat.le_of_ble_eq_true rfl)
  rw [lg_entry_eq]
  generalize (lg_sl ([.ref (ad 0), .int (nI x), .int (nI w), .int (b2i b), .int r, .int sc]) ++ List.replicate (8 - (lg_sl ([.ref (ad 0), .int (nI x), .int (nI w), .int (b2i b), .int r, .int sc])).length) Slot.unset).toArray = ls at hl ⊢
  have hl : lv_has ls 8 [(0, .ref (ad 0)), (1, .int (nI x)), (2, .int (nI w)), (3, .int (b2i b)), (4, .int r), (5, .int sc)] := hl
  have hS : va_S A s.heap s.heap [] := va_S.rf
  generalize hQ : MQ below (va_Qi (fun (r : Int32) (_ : Unit) => r = nI (i2n (F 6 x) + 1)) (fun _ t => va_P D vwCl (mdW cI cZ ad (va_up (va_up (va_up (va_up (va_up F 6 (upd (F 6) x (nI (i2n (F 6 x) + 1)))) 7 (upd (F 7) (6 * x + i2n (F 6 x)) (nI w))) 8 (upd (F 8) (6 * x + i2n (F 6 x)) (b2i b))) 9 (upd (F 9) (6 * x + i2n (F 6 x)) r)) 10 (upd (F 10) (6 * x + i2n (F 6 x)) sc)) ow mp nm gb ob ik kp tu (va_up g 19 0)) t.heap) A) args s 0 0 A = Q
  have go : ∀ (H : Heap) (locs : List Loc), va_P D vwCl (mdW cI cZ ad F ow mp nm gb ob ik kp tu g) H → va_S A s.heap H locs → W p l e (headSpec wsX5_allow (rmr 2 43)).room s m args below meth c H locs 0 0 Q (F0 m 0 ls []) := by
    intro H locs hP hS
    have hnn := hM.2.1.2
    refine lv_aload_n hx hb dX5_allow_0 rfl (lv_at hl 0 rfl) ?_
    refine lv_iload_n hx hb dX5_allow_1 rfl (lv_at hl 1 rfl) ?_
    refine vp_callSi (W.runV (As := [.int (nI x)]) (rest := []) ⟨hx, hb, hml, hown, hts⟩ (k_X5_isFolder l D cI cZ ad F ow mp nm gb ob ik kp tu g (nI x)) (cwV 1 hts gX5_allow_X5_isFolder rfl rfl rfl (by decide +kernel) ⟨Nat.le_of_ble_eq_true rfl, Nat.le_of_ble_eq_true rfl⟩) ⟨rd_blind, va_recv hK hP (ci := 6) (q0 := 0) rfl rfl, rd_pre hP hK hN⟩ rfl rfl hl.1 rfl (lv_room (Nat.le_of_ble_eq_true rfl)) dX5_allow_2 ⟨Nat.le_of_ble_eq_true rfl, Nat.le_of_ble_eq_true rfl⟩) (fun r er => ?_)
    subst er
    have J_48 : ∀ (H : Heap) (locs : List Loc), va_P D vwCl (mdW cI cZ ad F ow mp nm gb ob ik kp tu g) H → va_S A s.heap H locs → ∀ ls : Array Slot, lv_has ls 8 [(0, .ref (ad 0)), (1, .int (nI x)), (2, .int (nI w)), (3, .int (b2i b)), (4, .int r), (5, .int sc)] → W p l e (headSpec wsX5_allow (rmr 2 43)).room s m args below meth c H locs 0 0 Q (F0 m 48 ls [.int 0]) := by
      intro  H locs hP hS ls hl
      refine lv_istore (lv' := [(6, .int 0), (0, .ref (ad 0)), (1, .int (nI x)), (2, .int (nI w)), (3, .int (b2i b)), (4, .int r), (5, .int sc)]) hx hb dX5_allow_48 hl (by decide) rfl (fun ls hl => ?_)
      refine lv_aload_n hx hb dX5_allow_50 rfl (lv_at hl 1 rfl) ?_
      refine lv_iload hx hb dX5_allow_51 (lv_at hl 0 rfl) ?_
      refine lv_if_ne (tgt := 71) hx hb dX5_allow_53 (by decide) (fun c_53 => absurd (by decide) c_53) (fun c_53 => ?_)
      refine lv_aload_n hx hb dX5_allow_56 rfl (lv_at hl 1 rfl) ?_
      refine va_get (D := D) (ci := 6) (v := .ref (ad 6)) (C := RX5) (T := TX5) (N := 20) hx hb hts (fun _ h => List.mem_cons_of_mem _ (List.mem_append_right _ (h))) hown hK hP 0 rfl rfl 5 (by decide) (hts _ (List.mem_of_getElem? (i := 1) rfl)) (fun _ h9 => h9) rfl dX5_allow_57 ?_
      refine lv_iload_n hx hb dX5_allow_60 rfl (lv_at hl 2 rfl) ?_
      refine ld_i (k := x) hx hb hK hP 6 0 rfl rfl (by omega) (by decide) dX5_allow_61 ?_
      refine lv_bipush (v := 6) hx hb dX5_allow_62 (by decide) ?_
      have J_73 : ∀ (H : Heap) (locs : List Loc), va_P D vwCl (mdW cI cZ ad F ow mp nm gb ob ik kp tu g) H → va_S A s.heap H locs → ∀ ls : Array Slot, lv_has ls 8 [(0, .ref (ad 0)), (1, .int (nI x)), (2, .int (nI w)), (3, .int (b2i b)), (4, .int r), (5, .int sc), (6, .int 0)] → W p l e (headSpec wsX5_allow (rmr 2 43)).room s m args below meth c H locs 0 0 Q (F0 m 73 ls [.int 0, .ref (ad 0)]) := by
        intro  H locs hP hS ls hl
        refine va_calli (va_runV (As := [.int 0]) (rest := []) ⟨hx, hb, hml, hown, hts⟩ (k_X5_isFine l D cI cZ ad A F ow mp nm gb ob ik kp tu g hA 0) (cwV 1 hts gX5_allow_X5_isFine rfl rfl rfl (by decide +kernel) ⟨Nat.le_of_ble_eq_true rfl, Nat.le_of_ble_eq_true rfl⟩) ⟨rd_blind, va_recv hK hP (ci := 6) (q0 := 0) rfl rfl, rd_pre hP hK hN⟩ rfl rfl hl.1 rfl (lv_room (Nat.le_of_ble_eq_true rfl)) dX5_allow_73 ⟨Nat.le_of_ble_eq_true rfl, Nat.le_of_ble_eq_true rfl⟩) hS (fun q _ h => h) (fun q h => h) (fun r u t H locs ht hvm hw hB hz1 hk1 hS => ?_)
        have hP := hB
        rw [ht] at hP
        subst hw
        have hP : va_P D vwCl (mdW cI cZ ad F ow mp nm gb ob ik kp tu (va_up g 19 0)) H := hP
        refine top_eq (y := b2i true) (by decide) ?_
        refine lv_if_ne (tgt := 81) hx hb dX5_allow_76 (by decide) (fun c_76 => ?_) (fun c_76 => absurd c_76 (by decide))
        refine lv_bipush (v := 6) hx hb dX5_allow_81 (by decide) ?_
        refine lv_iload_n hx hb dX5_allow_83 rfl (lv_at hl 1 rfl) ?_
        refine imul_n (x := 6) (y := x) hx hb dX5_allow_84 ?_
        refine lv_aload_n hx hb dX5_allow_85 rfl (lv_at hl 0 rfl) ?_
        refine va_get (D := D) (ci := 6) (v := .ref (ad 6)) (C := RX5) (T := TX5) (N := 20) hx hb hts (fun _ h => List.mem_cons_of_mem _ (List.mem_append_right _ (h))) hown hK hP 0 rfl rfl 5 (by decide) (hts _ (List.mem_of_getElem? (i := 1) rfl)) (fun _ h9 => h9) rfl dX5_allow_86 ?_
        refine lv_iload_n hx hb dX5_allow_89 rfl (lv_at hl 1 rfl) ?_
        refine ld_i (k := x) hx hb hK hP 6 0 rfl rfl (by omega) (by decide) dX5_allow_90 ?_
        refine top_eq (y := nI (i2n (F 6 x))) (by exact (hM.len hxn).1) ?_
        refine iadd_n (x := 6 * x) (y := i2n (F 6 x)) hx hb dX5_allow_91 ?_
        refine lv_istore (lv' := [(7, .int (nI ((6 * x) + (i2n (F 6 x))))), (0, .ref (ad 0)), (1, .int (nI x)), (2, .int (nI w)), (3, .int (b2i b)), (4, .int r), (5, .int sc), (6, .int 0)]) hx hb dX5_allow_92 hl (by decide) rfl (fun ls hl => ?_)
        refine lv_aload_n hx hb dX5_allow_94 rfl (lv_at hl 1 rfl) ?_
        refine va_get (D := D) (ci := 6) (v := .ref (ad 7)) (C := RX5) (T := TX5) (N := 20) hx hb hts (fun _ h => List.mem_cons_of_mem _ (List.mem_append_right _ (h))) hown hK hP 0 rfl rfl 7 (by decide) (hts _ (List.mem_of_getElem? (i := 2) rfl)) (fun _ h9 => h9) rfl dX5_allow_95 ?_
        refine lv_iload hx hb dX5_allow_98 (lv_at hl 0 rfl) ?_
        refine lv_iload_n hx hb dX5_allow_100 rfl (lv_at hl 3 rfl) ?_
        refine st_i (k := (6 * x) + (i2n (F 6 x))) hx hb hK hP (md_D hA) hS 7 0 rfl rfl (by omega) (by decide) dX5_allow_101 (fun H locs hP _ hS => ?_)
        have hP : va_P D vwCl (mdW cI cZ ad (va_up F 7 (upd (F 7) ((6 * x) + (i2n (F 6 x))) (nI w))) ow mp nm gb ob ik kp tu (va_up g 19 0)) H := hP
        refine lv_aload_n hx hb dX5_allow_102 rfl (lv_at hl 1 rfl) ?_
        refine va_get (D := D) (ci := 6) (v := .ref (ad 8)) (C := RX5) (T := TX5) (N := 20) hx hb hts (fun _ h => List.mem_cons_of_mem _ (List.mem_append_right _ (h))) hown hK hP 0 rfl rfl 8 (by decide) (hts _ (List.mem_of_getElem? (i := 3) rfl)) (fun _ h9 => h9) rfl dX5_allow_103 ?_
        refine lv_iload hx hb dX5_allow_106 (lv_at hl 0 rfl) ?_
        refine lv_iload_n hx hb dX5_allow_108 rfl (lv_at hl 4 rfl) ?_
        refine st_z (k := (6 * x) + (i2n (F 6 x))) hx hb hK hP (md_D hA) hS 8 1 rfl rfl (by omega) (by decide) (by exact vpn_b2i _) dX5_allow_109 (fun H locs hP _ hS => ?_)
        have hP : va_P D vwCl (mdW cI cZ ad (va_up (va_up F 7 (upd (F 7) ((6 * x) + (i2n (F 6 x))) (nI w))) 8 (upd (F 8) ((6 * x) + (i2n (F 6 x))) (b2i b))) ow mp nm gb ob ik kp tu (va_up g 19 0)) H := hP
        refine lv_aload_n hx hb dX5_allow_110 rfl (lv_at hl 1 rfl) ?_
        refine va_get (D := D) (ci := 6) (v := .ref (ad 9)) (C := RX5) (T := TX5) (N := 20) hx hb hts (fun _ h => List.mem_cons_of_mem _ (List.mem_append_right _ (h))) hown hK hP 0 rfl rfl 9 (by decide) (hts _ (List.mem_of_getElem? (i := 4) rfl)) (fun _ h9 => h9) rfl dX5_allow_111 ?_
        refine lv_iload hx hb dX5_allow_114 (lv_at hl 0 rfl) ?_
        refine lv_iload hx hb dX5_allow_116 (lv_at hl 5 rfl) ?_
        refine st_i (k := (6 * x) + (i2n (F 6 x))) hx hb hK hP (md_D hA) hS 9 0 rfl rfl (by omega) (by decide) dX5_allow_118 (fun H locs hP _ hS => ?_)
        have hP : va_P D vwCl (mdW cI cZ ad (va_up (va_up (va_up F 7 (upd (F 7) ((6 * x) + (i2n (F 6 x))) (nI w))) 8 (upd (F 8) ((6 * x) + (i2n (F 6 x))) (b2i b))) 9 (upd (F 9) ((6 * x) + (i2n (F 6 x))) r)) ow mp nm gb ob ik kp tu (va_up g 19 0)) H := hP
        refine lv_aload_n hx hb dX5_allow_119 rfl (lv_at hl 1 rfl) ?_
        refine va_get (D := D) (ci := 6) (v := .ref (ad 10)) (C := RX5) (T := TX5) (N := 20) hx hb hts (fun _ h => List.mem_cons_of_mem _ (List.mem_append_right _ (h))) hown hK hP 0 rfl rfl 10 (by decide) (hts _ (List.mem_of_getElem? (i := 5) rfl)) (fun _ h9 => h9) rfl dX5_allow_120 ?_
        refine lv_iload hx hb dX5_allow_123 (lv_at hl 0 rfl) ?_
        refine lv_iload hx hb dX5_allow_125 (lv_at hl 6 rfl) ?_
        refine st_i (k := (6 * x) + (i2n (F 6 x))) hx hb hK hP (md_D hA) hS 10 0 rfl rfl (by omega) (by decide) dX5_allow_127 (fun H locs hP _ hS => ?_)
        have hP : va_P D vwCl (mdW cI cZ ad (va_up (va_up (va_up (va_up F 7 (upd (F 7) ((6 * x) + (i2n (F 6 x))) (nI w))) 8 (upd (F 8) ((6 * x) + (i2n (F 6 x))) (b2i b))) 9 (upd (F 9) ((6 * x) + (i2n (F 6 x))) r)) 10 (upd (F 10) ((6 * x) + (i2n (F 6 x))) sc)) ow mp nm gb ob ik kp tu (va_up g 19 0)) H := hP
        refine lv_aload_n hx hb dX5_allow_128 rfl (lv_at hl 1 rfl) ?_
        refine va_get (D := D) (ci := 6) (v := .ref (ad 6)) (C := RX5) (T := TX5) (N := 20) hx hb hts (fun _ h => List.mem_cons_of_mem _ (List.mem_append_right _ (h))) hown hK hP 0 rfl rfl 5 (by decide) (hts _ (List.mem_of_getElem? (i := 1) rfl)) (fun _ h9 => h9) rfl dX5_allow_129 ?_
        refine lv_iload_n hx hb dX5_allow_132 rfl (lv_at hl 2 rfl) ?_
        refine lv_dup2_11 hx hb dX5_allow_133 rfl rfl ?_
        refine ld_i (k := x) hx hb hK hP 6 0 rfl rfl (by omega) (by decide) dX5_allow_134 ?_
        refine top_eq (y := nI (i2n (F 6 x))) (by exact (hM.len hxn).1) ?_
        refine lv_iconst (v := 1) hx hb dX5_allow_135 (by decide) ?_
        refine iadd_n (x := i2n (F 6 x)) (y := 1) hx hb dX5_allow_136 ?_
        refine st_i (k := x) hx hb hK hP (md_D hA) hS 6 0 rfl rfl (by omega) (by decide) dX5_allow_137 (fun H locs hP _ hS => ?_)
        have hP : va_P D vwCl (mdW cI cZ ad (va_up (va_up (va_up (va_up (va_up F 6 (upd (F 6) x (nI ((i2n (F 6 x)) + 1)))) 7 (upd (F 7) ((6 * x) + (i2n (F 6 x))) (nI w))) 8 (upd (F 8) ((6 * x) + (i2n (F 6 x))) (b2i b))) 9 (upd (F 9) ((6 * x) + (i2n (F 6 x))) r)) 10 (upd (F 10) ((6 * x) + (i2n (F 6 x))) sc)) ow mp nm gb ob ik kp tu (va_up g 19 0)) H := hP
        refine lv_aload_n hx hb dX5_allow_138 rfl (lv_at hl 1 rfl) ?_
        refine va_get (D := D) (ci := 6) (v := .ref (ad 6)) (C := RX5) (T := TX5) (N := 20) hx hb hts (fun _ h => List.mem_cons_of_mem _ (List.mem_append_right _ (h))) hown hK hP 0 rfl rfl 5 (by decide) (hts _ (List.mem_of_getElem? (i := 1) rfl)) (fun _ h9 => h9) rfl dX5_allow_139 ?_
        refine lv_iload_n hx hb dX5_allow_142 rfl (lv_at hl 2 rfl) ?_
        refine ld_i (k := x) hx hb hK hP 6 0 rfl rfl (by omega) (by decide) dX5_allow_143 ?_
        refine top_eq (y := nI ((i2n (F 6 x)) + 1)) pk_us ?_
        subst hQ
        have hP : va_P D vwCl (mdW cI cZ ad (va_up (va_up (va_up (va_up (va_up F 6 (upd (F 6) x (nI ((i2n (F 6 x)) + 1)))) 7 (upd (F 7) ((6 * x) + (i2n (F 6 x))) (nI w))) 8 (upd (F 8) ((6 * x) + (i2n (F 6 x))) (b2i b))) 9 (upd (F 9) ((6 * x) + (i2n (F 6 x))) r)) 10 (upd (F 10) ((6 * x) + (i2n (F 6 x))) sc)) ow mp nm gb ob ik kp tu (va_up g 19 0)) H := hP
        have qF6 : upd (F 6) x (nI ((i2n (F 6 x)) + 1)) = upd (F 6) x (nI (i2n (F 6 x) + 1)) := by rfl
        have qF7 : upd (F 7) ((6 * x) + (i2n (F 6 x))) (nI w) = upd (F 7) (6 * x + i2n (F 6 x)) (nI w) := by rfl
        have qF8 : upd (F 8) ((6 * x) + (i2n (F 6 x))) (b2i b) = upd (F 8) (6 * x + i2n (F 6 x)) (b2i b) := by rfl
        have qF9 : upd (F 9) ((6 * x) + (i2n (F 6 x))) r = upd (F 9) (6 * x + i2n (F 6 x)) r := by rfl
        have qF10 : upd (F 10) ((6 * x) + (i2n (F 6 x))) sc = upd (F 10) (6 * x + i2n (F 6 x)) sc := by rfl
        have hP : va_P D vwCl (mdW cI cZ ad (va_up (va_up (va_up (va_up (va_up F 6 (upd (F 6) x (nI (i2n (F 6 x) + 1)))) 7 (upd (F 7) (6 * x + i2n (F 6 x)) (nI w))) 8 (upd (F 8) (6 * x + i2n (F 6 x)) (b2i b))) 9 (upd (F 9) (6 * x + i2n (F 6 x)) r)) 10 (upd (F 10) (6 * x + i2n (F 6 x)) sc)) ow mp nm gb ob ik kp tu (va_up g 19 0)) H := mdW_P (up_cg (up_cg (up_cg (up_cg (up_cg rfl 6 qF6) 7 qF7) 8 qF8) 9 qF9) 10 qF10) rfl rfl rfl rfl rfl rfl rfl rfl rfl hP
        exact W.iret (v := nI ((i2n (F 6 x)) + 1)) hx hb hr (fun t ht _ => ⟨⟨_, (), rfl, (by rfl), by have e := hP; rw [← ht] at e; exact e⟩, hS.F ht⟩) hS.2.2 dX5_allow_144
      refine lv_icmp_ne (tgt := 71) hx hb dX5_allow_64 (by decide) (fun c_64 => ?_) (fun c_64 => ?_)
      ·
        refine lv_iload hx hb dX5_allow_71 (lv_at hl 0 rfl) ?_
        exact J_73 _ _ hP hS ls (lv_sub hl [1, 2, 3, 4, 5, 6, 0] rfl)
      ·
        exact absurd (nI_ne (hM.len hxn).1 hl6 (by decide) c_64) id
    refine lv_if_eq (tgt := 18) hx hb dX5_allow_5 (by decide) (fun c_5 => ?_) (fun c_5 => ?_)
    ·
      have c_5 := b2i_0 c_5
      exact absurd (inB_f hM hxn) (b2i_bf c_5)
    ·
      have c_5 := b2i_1 c_5
      refine lv_iload_n hx hb dX5_allow_8 rfl (lv_at hl 2 rfl) ?_
      refine lv_iconst (v := 0) hx hb dX5_allow_9 (by decide) ?_
      refine lv_bipush (v := 13) hx hb dX5_allow_10 (by decide) ?_
      refine vp_callSi (W.runS (As := [.int (nI w), .int 0, .int 13]) (rest := []) ⟨hx, hb, hml, hown, hts⟩ (k_X5_in l (nI w) 0 13) (va_cwS 3 hts gX5_allow_X5_in rfl rfl rfl (by decide +kernel) ⟨Nat.le_of_ble_eq_true rfl, Nat.le_of_ble_eq_true rfl⟩) ⟨nf_blind, fun U hU hW => ⟨rfl, trivial⟩⟩ rfl rfl hl.1 rfl (lv_room (Nat.le_of_ble_eq_true rfl)) dX5_allow_12 ⟨Nat.le_of_ble_eq_true rfl, Nat.le_of_ble_eq_true rfl⟩) (fun r er => ?_)
      subst er
      refine lv_if_ne (tgt := 22) hx hb dX5_allow_15 (by decide) (fun c_15 => ?_) (fun c_15 => ?_)
      ·
        have c_15 := b2i_1 c_15
        refine lv_iload hx hb dX5_allow_22 (lv_at hl 4 rfl) ?_
        refine lv_iconst (v := 1) hx hb dX5_allow_24 (by decide) ?_
        refine lv_bipush (v := 7) hx hb dX5_allow_25 (by decide) ?_
        refine vp_callSi (W.runS (As := [.int r, .int 1, .int 7]) (rest := []) ⟨hx, hb, hml, hown, hts⟩ (k_X5_in l r 1 7) (va_cwS 3 hts gX5_allow_X5_in rfl rfl rfl (by decide +kernel) ⟨Nat.le_of_ble_eq_true rfl, Nat.le_of_ble_eq_true rfl⟩) ⟨nf_blind, fun U hU hW => ⟨rfl, trivial⟩⟩ rfl rfl hl.1 rfl (lv_room (Nat.le_of_ble_eq_true rfl)) dX5_allow_27 ⟨Nat.le_of_ble_eq_true rfl, Nat.le_of_ble_eq_true rfl⟩) (fun r er => ?_)
        subst er
        refine lv_if_eq (tgt := 43) hx hb dX5_allow_30 (by decide) (fun c_30 => ?_) (fun c_30 => ?_)
        ·
          have c_30 := b2i_0 c_30
          exact absurd hr7 (b2i_bf c_30)
        ·
          have c_30 := b2i_1 c_30
          refine lv_iload hx hb dX5_allow_33 (lv_at hl 5 rfl) ?_
          refine lv_iconst (v := 0) hx hb dX5_allow_35 (by decide) ?_
          refine lv_iconst (v := 2) hx hb dX5_allow_36 (by decide) ?_
          refine vp_callSi (W.runS (As := [.int sc, .int 0, .int 2]) (rest := []) ⟨hx, hb, hml, hown, hts⟩ (k_X5_in l sc 0 2) (va_cwS 3 hts gX5_allow_X5_in rfl rfl rfl (by decide +kernel) ⟨Nat.le_of_ble_eq_true rfl, Nat.le_of_ble_eq_true rfl⟩) ⟨nf_blind, fun U hU hW => ⟨rfl, trivial⟩⟩ rfl rfl hl.1 rfl (lv_room (Nat.le_of_ble_eq_true rfl)) dX5_allow_37 ⟨Nat.le_of_ble_eq_true rfl, Nat.le_of_ble_eq_true rfl⟩) (fun r er => ?_)
          subst er
          refine lv_if_ne (tgt := 47) hx hb dX5_allow_40 (by decide) (fun c_40 => ?_) (fun c_40 => ?_)
          ·
            have c_40 := b2i_1 c_40
            refine lv_iconst (v := 0) hx hb dX5_allow_47 (by decide) ?_
            exact J_48 _ _ hP hS ls (lv_sub hl [0, 1, 2, 3, 4, 5] rfl)
          ·
            have c_40 := b2i_0 c_40
            exact absurd hs2 (b2i_bf c_40)
      ·
        have c_15 := b2i_0 c_15
        exact absurd (inB_t (N := 13) (show w ≤ 13 by omega) (by decide)) (b2i_bf c_15)
  exact go _ _ hP hS

set_option maxHeartbeats 800000 in
set_option maxRecDepth 100000 in
theorem m_allow_1 (l : Launch) (D : va_G) (cI cZ : ClassId) (ad : Nat → Nat) (A : Nat → Prop) (F : Nat → Nat → Int32) (ow : Nat → Int32) (mp : Nat → Int32) (nm : Int32) (gb : Int32) (ob : Int32) (ik : Nat → Int32) (kp : Nat → Int32) (tu : Nat → Int32) (g : Nat → Int32) (hA : apD 16 A ad) (x0 : Int32) (x1 : Int32) (b : Bool) (x2 : Int32) (x3 : Int32)  (hb1 : (inB x0 0 (g 6 - 1) && inB x1 0 13) = false) : Met l yX5_allow wsX5_allow (rmr 2 43) (va_Pc [.ref (ad 0), .int x0, .int x1, .int (b2i b), .int x2, .int x3] (rdP D ([(cI, .int), (cZ, .boolean)]) (mdW cI cZ ad F ow mp nm gb ob ik kp tu g))) (va_Qi (fun (r : Int32) (_ : Unit) => r = 0) (fun _ t => va_P D vwCl (mdW cI cZ ad F ow mp nm gb ob ik kp tu (va_up g 19 1)) t.heap) A) 0 0 A := by
  refine Met.ofW (cc := cX5_allow) (maxL := 8) (ret := (some .int)) (by decide) rfl ?_
  intro p e s m args below meth c s₁ B hml hv
  obtain ⟨hargs, hP, hK, hN⟩ := hv
  have hx := B.exec
  have hb := B.bytes
  have hr := B.returns
  have hts := atoms_spec (ws := wsX5_allow) B.pre
  have hown : s.vm.findClass RX5 = some m.cls := findClass_of_methodNamed B.named
  have hlocks := B.notSynchronized
  have hen : entryFrame m args 8 = entryFrame m ([.ref (ad 0), .int x0, .int x1, .int (b2i b), .int x2, .int x3] : List Value).toArray 8 := by rw [hargs]
  rw [hen]
  have hl := lv_entry ([.ref (ad 0), .int x0, .int x1, .int (b2i b), .int x2, .int x3]) (n := 8) (Nat.le_of_ble_eq_true rfl)
  rw [lg_entry_eq]
  generalize (lg_sl ([.ref (ad 0), .int x0, .int x1, .int (b2i b), .int x2, .int x3]) ++ List.replicate (8 - (lg_sl ([.ref (ad 0), .int x0, .int x1, .int (b2i b), .int x2, .int x3])).length) Slot.unset).toArray = ls at hl ⊢
  have hl : lv_has ls 8 [(0, .ref (ad 0)), (1, .int x0), (2, .int x1), (3, .int (b2i b)), (4, .int x2), (5, .int x3)] := hl
  have hS : va_S A s.heap s.heap [] := va_S.rf
  generalize hQ : MQ below (va_Qi (fun (r : Int32) (_ : Unit) => r = 0) (fun _ t => va_P D vwCl (mdW cI cZ ad F ow mp nm gb ob ik kp tu (va_up g 19 1)) t.heap) A) args s 0 0 A = Q
  have go : ∀ (H : Heap) (locs : List Loc), va_P D vwCl (mdW cI cZ ad F ow mp nm gb ob ik kp tu g) H → va_S A s.heap H locs → W p l e (headSpec wsX5_allow (rmr 2 43)).room s m args below meth c H locs 0 0 Q (F0 m 0 ls []) := by
    intro H locs hP hS
    refine lv_aload_n hx hb dX5_allow_0 rfl (lv_at hl 0 rfl) ?_
    refine lv_iload_n hx hb dX5_allow_1 rfl (lv_at hl 1 rfl) ?_
    refine vp_callSi (W.runV (As := [.int x0]) (rest := []) ⟨hx, hb, hml, hown, hts⟩ (k_X5_isFolder l D cI cZ ad F ow mp nm gb ob ik kp tu g x0) (cwV 1 hts gX5_allow_X5_isFolder rfl rfl rfl (by decide +kernel) ⟨Nat.le_of_ble_eq_true rfl, Nat.le_of_ble_eq_true rfl⟩) ⟨rd_blind, va_recv hK hP (ci := 6) (q0 := 0) rfl rfl, rd_pre hP hK hN⟩ rfl rfl hl.1 rfl (lv_room (Nat.le_of_ble_eq_true rfl)) dX5_allow_2 ⟨Nat.le_of_ble_eq_true rfl, Nat.le_of_ble_eq_true rfl⟩) (fun r er => ?_)
    subst er
    have J_48 : ∀ (H : Heap) (locs : List Loc), va_P D vwCl (mdW cI cZ ad F ow mp nm gb ob ik kp tu g) H → va_S A s.heap H locs → ∀ ls : Array Slot, lv_has ls 8 [(0, .ref (ad 0)), (1, .int x0), (2, .int x1), (3, .int (b2i b)), (4, .int x2), (5, .int x3)] → W p l e (headSpec wsX5_allow (rmr 2 43)).room s m args below meth c H locs 0 0 Q (F0 m 48 ls [.int 1]) := by
      intro  H locs hP hS ls hl
      refine lv_istore (lv' := [(6, .int 1), (0, .ref (ad 0)), (1, .int x0), (2, .int x1), (3, .int (b2i b)), (4, .int x2), (5, .int x3)]) hx hb dX5_allow_48 hl (by decide) rfl (fun ls hl => ?_)
      refine lv_aload_n hx hb dX5_allow_50 rfl (lv_at hl 1 rfl) ?_
      refine lv_iload hx hb dX5_allow_51 (lv_at hl 0 rfl) ?_
      refine lv_if_ne (tgt := 71) hx hb dX5_allow_53 (by decide) (fun c_53 => ?_) (fun c_53 => absurd c_53 (by decide))
      refine lv_iload hx hb dX5_allow_71 (lv_at hl 0 rfl) ?_
      refine va_calli (va_runV (As := [.int 1]) (rest := []) ⟨hx, hb, hml, hown, hts⟩ (k_X5_isFine l D cI cZ ad A F ow mp nm gb ob ik kp tu g hA 1) (cwV 1 hts gX5_allow_X5_isFine rfl rfl rfl (by decide +kernel) ⟨Nat.le_of_ble_eq_true rfl, Nat.le_of_ble_eq_true rfl⟩) ⟨rd_blind, va_recv hK hP (ci := 6) (q0 := 0) rfl rfl, rd_pre hP hK hN⟩ rfl rfl hl.1 rfl (lv_room (Nat.le_of_ble_eq_true rfl)) dX5_allow_73 ⟨Nat.le_of_ble_eq_true rfl, Nat.le_of_ble_eq_true rfl⟩) hS (fun q _ h => h) (fun q h => h) (fun r u t H locs ht hvm hw hB hz1 hk1 hS => ?_)
      have hP := hB
      rw [ht] at hP
      subst hw
      have hP : va_P D vwCl (mdW cI cZ ad F ow mp nm gb ob ik kp tu (va_up g 19 1)) H := hP
      refine top_eq (y := b2i false) (by decide) ?_
      refine lv_if_ne (tgt := 81) hx hb dX5_allow_76 (by decide) (fun c_76 => absurd rfl c_76) (fun c_76 => ?_)
      refine lv_iconst (v := 0) hx hb dX5_allow_79 (by decide) ?_
      subst hQ
      have hP : va_P D vwCl (mdW cI cZ ad F ow mp nm gb ob ik kp tu (va_up g 19 1)) H := hP
      exact W.iret (v := 0) hx hb hr (fun t ht _ => ⟨⟨_, (), rfl, (by rfl), by have e := hP; rw [← ht] at e; exact e⟩, hS.F ht⟩) hS.2.2 dX5_allow_80
    refine lv_if_eq (tgt := 18) hx hb dX5_allow_5 (by decide) (fun c_5 => ?_) (fun c_5 => ?_)
    ·
      have c_5 := b2i_0 c_5
      refine lv_iconst (v := 1) hx hb dX5_allow_18 (by decide) ?_
      refine lv_goto (tgt := 48) hx hb dX5_allow_19 (by decide) ?_
      exact J_48 _ _ hP hS ls (lv_sub hl [0, 1, 2, 3, 4, 5] rfl)
    ·
      have c_5 := b2i_1 c_5
      refine lv_iload_n hx hb dX5_allow_8 rfl (lv_at hl 2 rfl) ?_
      refine lv_iconst (v := 0) hx hb dX5_allow_9 (by decide) ?_
      refine lv_bipush (v := 13) hx hb dX5_allow_10 (by decide) ?_
      refine vp_callSi (W.runS (As := [.int x1, .int 0, .int 13]) (rest := []) ⟨hx, hb, hml, hown, hts⟩ (k_X5_in l x1 0 13) (va_cwS 3 hts gX5_allow_X5_in rfl rfl rfl (by decide +kernel) ⟨Nat.le_of_ble_eq_true rfl, Nat.le_of_ble_eq_true rfl⟩) ⟨nf_blind, fun U hU hW => ⟨rfl, trivial⟩⟩ rfl rfl hl.1 rfl (lv_room (Nat.le_of_ble_eq_true rfl)) dX5_allow_12 ⟨Nat.le_of_ble_eq_true rfl, Nat.le_of_ble_eq_true rfl⟩) (fun r er => ?_)
      subst er
      refine lv_if_ne (tgt := 22) hx hb dX5_allow_15 (by decide) (fun c_15 => ?_) (fun c_15 => ?_)
      ·
        have c_15 := b2i_1 c_15
        exact absurd (B2f hb1 c_5 c_15) id
      ·
        have c_15 := b2i_0 c_15
        refine lv_iconst (v := 1) hx hb dX5_allow_18 (by decide) ?_
        refine lv_goto (tgt := 48) hx hb dX5_allow_19 (by decide) ?_
        exact J_48 _ _ hP hS ls (lv_sub hl [0, 1, 2, 3, 4, 5] rfl)
  exact go _ _ hP hS

set_option maxHeartbeats 800000 in
set_option maxRecDepth 100000 in
theorem m_allow_2 (l : Launch) (D : va_G) (cI cZ : ClassId) (ad : Nat → Nat) (A : Nat → Prop) (F : Nat → Nat → Int32) (ow : Nat → Int32) (mp : Nat → Int32) (nm : Int32) (gb : Int32) (ob : Int32) (ik : Nat → Int32) (kp : Nat → Int32) (tu : Nat → Int32) (g : Nat → Int32) (hA : apD 16 A ad) (x : Nat) (w : Nat) (b : Bool) (x2 : Int32) (x3 : Int32)  (nn : Nat) (hM : okM F g nn) (hxn : x < nn) (hw : w < 14) (hb2 : (inB x2 1 7 && inB x3 0 2) = false) : Met l yX5_allow wsX5_allow (rmr 2 43) (va_Pc [.ref (ad 0), .int (nI x), .int (nI w), .int (b2i b), .int x2, .int x3] (rdP D ([(cI, .int), (cZ, .boolean)]) (mdW cI cZ ad F ow mp nm gb ob ik kp tu g))) (va_Qi (fun (r : Int32) (_ : Unit) => r = 0) (fun _ t => va_P D vwCl (mdW cI cZ ad F ow mp nm gb ob ik kp tu (va_up g 19 2)) t.heap) A) 0 0 A := by
  refine Met.ofW (cc := cX5_allow) (maxL := 8) (ret := (some .int)) (by decide) rfl ?_
  intro p e s m args below meth c s₁ B hml hv
  obtain ⟨hargs, hP, hK, hN⟩ := hv
  have hx := B.exec
  have hb := B.bytes
  have hr := B.returns
  have hts := atoms_spec (ws := wsX5_allow) B.pre
  have hown : s.vm.findClass RX5 = some m.cls := findClass_of_methodNamed B.named
  have hlocks := B.notSynchronized
  have hen : entryFrame m args 8 = entryFrame m ([.ref (ad 0), .int (nI x), .int (nI w), .int (b2i b), .int x2, .int x3] : List Value).toArray 8 := by rw [hargs]
  rw [hen]
  have hl := lv_entry ([.ref (ad 0), .int (nI x), .int (nI w), .int (b2i b), .int x2, .int x3]) (n := 8) (Nat.le_of_ble_eq_true rfl)
  rw [lg_entry_eq]
  generalize (lg_sl ([.ref (ad 0), .int (nI x), .int (nI w), .int (b2i b), .int x2, .int x3]) ++ List.replicate (8 - (lg_sl ([.ref (ad 0), .int (nI x), .int (nI w), .int (b2i b), .int x2, .int x3])).length) Slot.unset).toArray = ls at hl ⊢
  have hl : lv_has ls 8 [(0, .ref (ad 0)), (1, .int (nI x)), (2, .int (nI w)), (3, .int (b2i b)), (4, .int x2), (5, .int x3)] := hl
  have hS : va_S A s.heap s.heap [] := va_S.rf
  generalize hQ : MQ below (va_Qi (fun (r : Int32) (_ : Unit) => r = 0) (fun _ t => va_P D vwCl (mdW cI cZ ad F ow mp nm gb ob ik kp tu (va_up g 19 2)) t.heap) A) args s 0 0 A = Q
  have go : ∀ (H : Heap) (locs : List Loc), va_P D vwCl (mdW cI cZ ad F ow mp nm gb ob ik kp tu g) H → va_S A s.heap H locs → W p l e (headSpec wsX5_allow (rmr 2 43)).room s m args below meth c H locs 0 0 Q (F0 m 0 ls []) := by
    intro H locs hP hS
    refine lv_aload_n hx hb dX5_allow_0 rfl (lv_at hl 0 rfl) ?_
    refine lv_iload_n hx hb dX5_allow_1 rfl (lv_at hl 1 rfl) ?_
    refine vp_callSi (W.runV (As := [.int (nI x)]) (rest := []) ⟨hx, hb, hml, hown, hts⟩ (k_X5_isFolder l D cI cZ ad F ow mp nm gb ob ik kp tu g (nI x)) (cwV 1 hts gX5_allow_X5_isFolder rfl rfl rfl (by decide +kernel) ⟨Nat.le_of_ble_eq_true rfl, Nat.le_of_ble_eq_true rfl⟩) ⟨rd_blind, va_recv hK hP (ci := 6) (q0 := 0) rfl rfl, rd_pre hP hK hN⟩ rfl rfl hl.1 rfl (lv_room (Nat.le_of_ble_eq_true rfl)) dX5_allow_2 ⟨Nat.le_of_ble_eq_true rfl, Nat.le_of_ble_eq_true rfl⟩) (fun r er => ?_)
    subst er
    have J_48 : ∀ (H : Heap) (locs : List Loc), va_P D vwCl (mdW cI cZ ad F ow mp nm gb ob ik kp tu g) H → va_S A s.heap H locs → ∀ ls : Array Slot, lv_has ls 8 [(0, .ref (ad 0)), (1, .int (nI x)), (2, .int (nI w)), (3, .int (b2i b)), (4, .int x2), (5, .int x3)] → W p l e (headSpec wsX5_allow (rmr 2 43)).room s m args below meth c H locs 0 0 Q (F0 m 48 ls [.int 2]) := by
      intro  H locs hP hS ls hl
      refine lv_istore (lv' := [(6, .int 2), (0, .ref (ad 0)), (1, .int (nI x)), (2, .int (nI w)), (3, .int (b2i b)), (4, .int x2), (5, .int x3)]) hx hb dX5_allow_48 hl (by decide) rfl (fun ls hl => ?_)
      refine lv_aload_n hx hb dX5_allow_50 rfl (lv_at hl 1 rfl) ?_
      refine lv_iload hx hb dX5_allow_51 (lv_at hl 0 rfl) ?_
      refine lv_if_ne (tgt := 71) hx hb dX5_allow_53 (by decide) (fun c_53 => ?_) (fun c_53 => absurd c_53 (by decide))
      refine lv_iload hx hb dX5_allow_71 (lv_at hl 0 rfl) ?_
      refine va_calli (va_runV (As := [.int 2]) (rest := []) ⟨hx, hb, hml, hown, hts⟩ (k_X5_isFine l D cI cZ ad A F ow mp nm gb ob ik kp tu g hA 2) (cwV 1 hts gX5_allow_X5_isFine rfl rfl rfl (by decide +kernel) ⟨Nat.le_of_ble_eq_true rfl, Nat.le_of_ble_eq_true rfl⟩) ⟨rd_blind, va_recv hK hP (ci := 6) (q0 := 0) rfl rfl, rd_pre hP hK hN⟩ rfl rfl hl.1 rfl (lv_room (Nat.le_of_ble_eq_true rfl)) dX5_allow_73 ⟨Nat.le_of_ble_eq_true rfl, Nat.le_of_ble_eq_true rfl⟩) hS (fun q _ h => h) (fun q h => h) (fun r u t H locs ht hvm hw hB hz1 hk1 hS => ?_)
      have hP := hB
      rw [ht] at hP
      subst hw
      have hP : va_P D vwCl (mdW cI cZ ad F ow mp nm gb ob ik kp tu (va_up g 19 2)) H := hP
      refine top_eq (y := b2i false) (by decide) ?_
      refine lv_if_ne (tgt := 81) hx hb dX5_allow_76 (by decide) (fun c_76 => absurd rfl c_76) (fun c_76 => ?_)
      refine lv_iconst (v := 0) hx hb dX5_allow_79 (by decide) ?_
      subst hQ
      have hP : va_P D vwCl (mdW cI cZ ad F ow mp nm gb ob ik kp tu (va_up g 19 2)) H := hP
      exact W.iret (v := 0) hx hb hr (fun t ht _ => ⟨⟨_, (), rfl, (by rfl), by have e := hP; rw [← ht] at e; exact e⟩, hS.F ht⟩) hS.2.2 dX5_allow_80
    refine lv_if_eq (tgt := 18) hx hb dX5_allow_5 (by decide) (fun c_5 => ?_) (fun c_5 => ?_)
    ·
      have c_5 := b2i_0 c_5
      exact absurd (inB_f hM hxn) (b2i_bf c_5)
    ·
      have c_5 := b2i_1 c_5
      refine lv_iload_n hx hb dX5_allow_8 rfl (lv_at hl 2 rfl) ?_
      refine lv_iconst (v := 0) hx hb dX5_allow_9 (by decide) ?_
      refine lv_bipush (v := 13) hx hb dX5_allow_10 (by decide) ?_
      refine vp_callSi (W.runS (As := [.int (nI w), .int 0, .int 13]) (rest := []) ⟨hx, hb, hml, hown, hts⟩ (k_X5_in l (nI w) 0 13) (va_cwS 3 hts gX5_allow_X5_in rfl rfl rfl (by decide +kernel) ⟨Nat.le_of_ble_eq_true rfl, Nat.le_of_ble_eq_true rfl⟩) ⟨nf_blind, fun U hU hW => ⟨rfl, trivial⟩⟩ rfl rfl hl.1 rfl (lv_room (Nat.le_of_ble_eq_true rfl)) dX5_allow_12 ⟨Nat.le_of_ble_eq_true rfl, Nat.le_of_ble_eq_true rfl⟩) (fun r er => ?_)
      subst er
      refine lv_if_ne (tgt := 22) hx hb dX5_allow_15 (by decide) (fun c_15 => ?_) (fun c_15 => ?_)
      ·
        have c_15 := b2i_1 c_15
        refine lv_iload hx hb dX5_allow_22 (lv_at hl 4 rfl) ?_
        refine lv_iconst (v := 1) hx hb dX5_allow_24 (by decide) ?_
        refine lv_bipush (v := 7) hx hb dX5_allow_25 (by decide) ?_
        refine vp_callSi (W.runS (As := [.int x2, .int 1, .int 7]) (rest := []) ⟨hx, hb, hml, hown, hts⟩ (k_X5_in l x2 1 7) (va_cwS 3 hts gX5_allow_X5_in rfl rfl rfl (by decide +kernel) ⟨Nat.le_of_ble_eq_true rfl, Nat.le_of_ble_eq_true rfl⟩) ⟨nf_blind, fun U hU hW => ⟨rfl, trivial⟩⟩ rfl rfl hl.1 rfl (lv_room (Nat.le_of_ble_eq_true rfl)) dX5_allow_27 ⟨Nat.le_of_ble_eq_true rfl, Nat.le_of_ble_eq_true rfl⟩) (fun r er => ?_)
        subst er
        refine lv_if_eq (tgt := 43) hx hb dX5_allow_30 (by decide) (fun c_30 => ?_) (fun c_30 => ?_)
        ·
          have c_30 := b2i_0 c_30
          refine lv_iconst (v := 2) hx hb dX5_allow_43 (by decide) ?_
          refine lv_goto (tgt := 48) hx hb dX5_allow_44 (by decide) ?_
          exact J_48 _ _ hP hS ls (lv_sub hl [0, 1, 2, 3, 4, 5] rfl)
        ·
          have c_30 := b2i_1 c_30
          refine lv_iload hx hb dX5_allow_33 (lv_at hl 5 rfl) ?_
          refine lv_iconst (v := 0) hx hb dX5_allow_35 (by decide) ?_
          refine lv_iconst (v := 2) hx hb dX5_allow_36 (by decide) ?_
          refine vp_callSi (W.runS (As := [.int x3, .int 0, .int 2]) (rest := []) ⟨hx, hb, hml, hown, hts⟩ (k_X5_in l x3 0 2) (va_cwS 3 hts gX5_allow_X5_in rfl rfl rfl (by decide +kernel) ⟨Nat.le_of_ble_eq_true rfl, Nat.le_of_ble_eq_true rfl⟩) ⟨nf_blind, fun U hU hW => ⟨rfl, trivial⟩⟩ rfl rfl hl.1 rfl (lv_room (Nat.le_of_ble_eq_true rfl)) dX5_allow_37 ⟨Nat.le_of_ble_eq_true rfl, Nat.le_of_ble_eq_true rfl⟩) (fun r er => ?_)
          subst er
          refine lv_if_ne (tgt := 47) hx hb dX5_allow_40 (by decide) (fun c_40 => ?_) (fun c_40 => ?_)
          ·
            have c_40 := b2i_1 c_40
            exact absurd (B2f hb2 c_30 c_40) id
          ·
            have c_40 := b2i_0 c_40
            refine lv_iconst (v := 2) hx hb dX5_allow_43 (by decide) ?_
            refine lv_goto (tgt := 48) hx hb dX5_allow_44 (by decide) ?_
            exact J_48 _ _ hP hS ls (lv_sub hl [0, 1, 2, 3, 4, 5] rfl)
      ·
        have c_15 := b2i_0 c_15
        exact absurd (inB_t (N := 13) (show w ≤ 13 by omega) (by decide)) (b2i_bf c_15)
  exact go _ _ hP hS

set_option maxHeartbeats 800000 in
set_option maxRecDepth 100000 in
theorem m_allow_3 (l : Launch) (D : va_G) (cI cZ : ClassId) (ad : Nat → Nat) (A : Nat → Prop) (F : Nat → Nat → Int32) (ow : Nat → Int32) (mp : Nat → Int32) (nm : Int32) (gb : Int32) (ob : Int32) (ik : Nat → Int32) (kp : Nat → Int32) (tu : Nat → Int32) (g : Nat → Int32) (hA : apD 16 A ad) (x : Nat) (w : Nat) (b : Bool) (r : Int32) (sc : Int32)  (nn : Nat) (hM : okM F g nn) (hxn : x < nn) (hw : w < 14) (hr7 : inB r 1 7 = true) (hs2 : inB sc 0 2 = true) (h6 : F 6 x = 6) : Met l yX5_allow wsX5_allow (rmr 2 43) (va_Pc [.ref (ad 0), .int (nI x), .int (nI w), .int (b2i b), .int r, .int sc] (rdP D ([(cI, .int), (cZ, .boolean)]) (mdW cI cZ ad F ow mp nm gb ob ik kp tu g))) (va_Qi (fun (r : Int32) (_ : Unit) => r = 0) (fun _ t => va_P D vwCl (mdW cI cZ ad F ow mp nm gb ob ik kp tu (va_up g 19 3)) t.heap) A) 0 0 A := by
  refine Met.ofW (cc := cX5_allow) (maxL := 8) (ret := (some .int)) (by decide) rfl ?_
  intro p e s m args below meth c s₁ B hml hv
  obtain ⟨hargs, hP, hK, hN⟩ := hv
  have hx := B.exec
  have hb := B.bytes
  have hr := B.returns
  have hts := atoms_spec (ws := wsX5_allow) B.pre
  have hown : s.vm.findClass RX5 = some m.cls := findClass_of_methodNamed B.named
  have hlocks := B.notSynchronized
  have hen : entryFrame m args 8 = entryFrame m ([.ref (ad 0), .int (nI x), .int (nI w), .int (b2i b), .int r, .int sc] : List Value).toArray 8 := by rw [hargs]
  rw [hen]
  have hl := lv_entry ([.ref (ad 0), .int (nI x), .int (nI w), .int (b2i b), .int r, .int sc]) (n := 8) (Nat.le_of_ble_eq_true rfl)
  rw [lg_entry_eq]
  generalize (lg_sl ([.ref (ad 0), .int (nI x), .int (nI w), .int (b2i b), .int r, .int sc]) ++ List.replicate (8 - (lg_sl ([.ref (ad 0), .int (nI x), .int (nI w), .int (b2i b), .int r, .int sc])).length) Slot.unset).toArray = ls at hl ⊢
  have hl : lv_has ls 8 [(0, .ref (ad 0)), (1, .int (nI x)), (2, .int (nI w)), (3, .int (b2i b)), (4, .int r), (5, .int sc)] := hl
  have hS : va_S A s.heap s.heap [] := va_S.rf
  generalize hQ : MQ below (va_Qi (fun (r : Int32) (_ : Unit) => r = 0) (fun _ t => va_P D vwCl (mdW cI cZ ad F ow mp nm gb ob ik kp tu (va_up g 19 3)) t.heap) A) args s 0 0 A = Q
  have go : ∀ (H : Heap) (locs : List Loc), va_P D vwCl (mdW cI cZ ad F ow mp nm gb ob ik kp tu g) H → va_S A s.heap H locs → W p l e (headSpec wsX5_allow (rmr 2 43)).room s m args below meth c H locs 0 0 Q (F0 m 0 ls []) := by
    intro H locs hP hS
    have hnn := hM.2.1.2
    refine lv_aload_n hx hb dX5_allow_0 rfl (lv_at hl 0 rfl) ?_
    refine lv_iload_n hx hb dX5_allow_1 rfl (lv_at hl 1 rfl) ?_
    refine vp_callSi (W.runV (As := [.int (nI x)]) (rest := []) ⟨hx, hb, hml, hown, hts⟩ (k_X5_isFolder l D cI cZ ad F ow mp nm gb ob ik kp tu g (nI x)) (cwV 1 hts gX5_allow_X5_isFolder rfl rfl rfl (by decide +kernel) ⟨Nat.le_of_ble_eq_true rfl, Nat.le_of_ble_eq_true rfl⟩) ⟨rd_blind, va_recv hK hP (ci := 6) (q0 := 0) rfl rfl, rd_pre hP hK hN⟩ rfl rfl hl.1 rfl (lv_room (Nat.le_of_ble_eq_true rfl)) dX5_allow_2 ⟨Nat.le_of_ble_eq_true rfl, Nat.le_of_ble_eq_true rfl⟩) (fun r er => ?_)
    subst er
    have J_48 : ∀ (H : Heap) (locs : List Loc), va_P D vwCl (mdW cI cZ ad F ow mp nm gb ob ik kp tu g) H → va_S A s.heap H locs → ∀ ls : Array Slot, lv_has ls 8 [(0, .ref (ad 0)), (1, .int (nI x)), (2, .int (nI w)), (3, .int (b2i b)), (4, .int r), (5, .int sc)] → W p l e (headSpec wsX5_allow (rmr 2 43)).room s m args below meth c H locs 0 0 Q (F0 m 48 ls [.int 0]) := by
      intro  H locs hP hS ls hl
      refine lv_istore (lv' := [(6, .int 0), (0, .ref (ad 0)), (1, .int (nI x)), (2, .int (nI w)), (3, .int (b2i b)), (4, .int r), (5, .int sc)]) hx hb dX5_allow_48 hl (by decide) rfl (fun ls hl => ?_)
      refine lv_aload_n hx hb dX5_allow_50 rfl (lv_at hl 1 rfl) ?_
      refine lv_iload hx hb dX5_allow_51 (lv_at hl 0 rfl) ?_
      refine lv_if_ne (tgt := 71) hx hb dX5_allow_53 (by decide) (fun c_53 => absurd (by decide) c_53) (fun c_53 => ?_)
      refine lv_aload_n hx hb dX5_allow_56 rfl (lv_at hl 1 rfl) ?_
      refine va_get (D := D) (ci := 6) (v := .ref (ad 6)) (C := RX5) (T := TX5) (N := 20) hx hb hts (fun _ h => List.mem_cons_of_mem _ (List.mem_append_right _ (h))) hown hK hP 0 rfl rfl 5 (by decide) (hts _ (List.mem_of_getElem? (i := 1) rfl)) (fun _ h9 => h9) rfl dX5_allow_57 ?_
      refine lv_iload_n hx hb dX5_allow_60 rfl (lv_at hl 2 rfl) ?_
      refine ld_i (k := x) hx hb hK hP 6 0 rfl rfl (by omega) (by decide) dX5_allow_61 ?_
      refine lv_bipush (v := 6) hx hb dX5_allow_62 (by decide) ?_
      have J_73 : ∀ (H : Heap) (locs : List Loc), va_P D vwCl (mdW cI cZ ad F ow mp nm gb ob ik kp tu g) H → va_S A s.heap H locs → ∀ ls : Array Slot, lv_has ls 8 [(0, .ref (ad 0)), (1, .int (nI x)), (2, .int (nI w)), (3, .int (b2i b)), (4, .int r), (5, .int sc), (6, .int 0)] → W p l e (headSpec wsX5_allow (rmr 2 43)).room s m args below meth c H locs 0 0 Q (F0 m 73 ls [.int 3, .ref (ad 0)]) := by
        intro  H locs hP hS ls hl
        refine va_calli (va_runV (As := [.int 3]) (rest := []) ⟨hx, hb, hml, hown, hts⟩ (k_X5_isFine l D cI cZ ad A F ow mp nm gb ob ik kp tu g hA 3) (cwV 1 hts gX5_allow_X5_isFine rfl rfl rfl (by decide +kernel) ⟨Nat.le_of_ble_eq_true rfl, Nat.le_of_ble_eq_true rfl⟩) ⟨rd_blind, va_recv hK hP (ci := 6) (q0 := 0) rfl rfl, rd_pre hP hK hN⟩ rfl rfl hl.1 rfl (lv_room (Nat.le_of_ble_eq_true rfl)) dX5_allow_73 ⟨Nat.le_of_ble_eq_true rfl, Nat.le_of_ble_eq_true rfl⟩) hS (fun q _ h => h) (fun q h => h) (fun r u t H locs ht hvm hw hB hz1 hk1 hS => ?_)
        have hP := hB
        rw [ht] at hP
        subst hw
        have hP : va_P D vwCl (mdW cI cZ ad F ow mp nm gb ob ik kp tu (va_up g 19 3)) H := hP
        refine top_eq (y := b2i false) (by decide) ?_
        refine lv_if_ne (tgt := 81) hx hb dX5_allow_76 (by decide) (fun c_76 => absurd rfl c_76) (fun c_76 => ?_)
        refine lv_iconst (v := 0) hx hb dX5_allow_79 (by decide) ?_
        subst hQ
        have hP : va_P D vwCl (mdW cI cZ ad F ow mp nm gb ob ik kp tu (va_up g 19 3)) H := hP
        exact W.iret (v := 0) hx hb hr (fun t ht _ => ⟨⟨_, (), rfl, (by rfl), by have e := hP; rw [← ht] at e; exact e⟩, hS.F ht⟩) hS.2.2 dX5_allow_80
      refine lv_icmp_ne (tgt := 71) hx hb dX5_allow_64 (by decide) (fun c_64 => ?_) (fun c_64 => ?_)
      ·
        exact absurd h6 c_64
      ·
        refine lv_iconst (v := 3) hx hb dX5_allow_67 (by decide) ?_
        refine lv_goto (tgt := 73) hx hb dX5_allow_68 (by decide) ?_
        exact J_73 _ _ hP hS ls (lv_sub hl [1, 2, 3, 4, 5, 6, 0] rfl)
    refine lv_if_eq (tgt := 18) hx hb dX5_allow_5 (by decide) (fun c_5 => ?_) (fun c_5 => ?_)
    ·
      have c_5 := b2i_0 c_5
      exact absurd (inB_f hM hxn) (b2i_bf c_5)
    ·
      have c_5 := b2i_1 c_5
      refine lv_iload_n hx hb dX5_allow_8 rfl (lv_at hl 2 rfl) ?_
      refine lv_iconst (v := 0) hx hb dX5_allow_9 (by decide) ?_
      refine lv_bipush (v := 13) hx hb dX5_allow_10 (by decide) ?_
      refine vp_callSi (W.runS (As := [.int (nI w), .int 0, .int 13]) (rest := []) ⟨hx, hb, hml, hown, hts⟩ (k_X5_in l (nI w) 0 13) (va_cwS 3 hts gX5_allow_X5_in rfl rfl rfl (by decide +kernel) ⟨Nat.le_of_ble_eq_true rfl, Nat.le_of_ble_eq_true rfl⟩) ⟨nf_blind, fun U hU hW => ⟨rfl, trivial⟩⟩ rfl rfl hl.1 rfl (lv_room (Nat.le_of_ble_eq_true rfl)) dX5_allow_12 ⟨Nat.le_of_ble_eq_true rfl, Nat.le_of_ble_eq_true rfl⟩) (fun r er => ?_)
      subst er
      refine lv_if_ne (tgt := 22) hx hb dX5_allow_15 (by decide) (fun c_15 => ?_) (fun c_15 => ?_)
      ·
        have c_15 := b2i_1 c_15
        refine lv_iload hx hb dX5_allow_22 (lv_at hl 4 rfl) ?_
        refine lv_iconst (v := 1) hx hb dX5_allow_24 (by decide) ?_
        refine lv_bipush (v := 7) hx hb dX5_allow_25 (by decide) ?_
        refine vp_callSi (W.runS (As := [.int r, .int 1, .int 7]) (rest := []) ⟨hx, hb, hml, hown, hts⟩ (k_X5_in l r 1 7) (va_cwS 3 hts gX5_allow_X5_in rfl rfl rfl (by decide +kernel) ⟨Nat.le_of_ble_eq_true rfl, Nat.le_of_ble_eq_true rfl⟩) ⟨nf_blind, fun U hU hW => ⟨rfl, trivial⟩⟩ rfl rfl hl.1 rfl (lv_room (Nat.le_of_ble_eq_true rfl)) dX5_allow_27 ⟨Nat.le_of_ble_eq_true rfl, Nat.le_of_ble_eq_true rfl⟩) (fun r er => ?_)
        subst er
        refine lv_if_eq (tgt := 43) hx hb dX5_allow_30 (by decide) (fun c_30 => ?_) (fun c_30 => ?_)
        ·
          have c_30 := b2i_0 c_30
          exact absurd hr7 (b2i_bf c_30)
        ·
          have c_30 := b2i_1 c_30
          refine lv_iload hx hb dX5_allow_33 (lv_at hl 5 rfl) ?_
          refine lv_iconst (v := 0) hx hb dX5_allow_35 (by decide) ?_
          refine lv_iconst (v := 2) hx hb dX5_allow_36 (by decide) ?_
          refine vp_callSi (W.runS (As := [.int sc, .int 0, .int 2]) (rest := []) ⟨hx, hb, hml, hown, hts⟩ (k_X5_in l sc 0 2) (va_cwS 3 hts gX5_allow_X5_in rfl rfl rfl (by decide +kernel) ⟨Nat.le_of_ble_eq_true rfl, Nat.le_of_ble_eq_true rfl⟩) ⟨nf_blind, fun U hU hW => ⟨rfl, trivial⟩⟩ rfl rfl hl.1 rfl (lv_room (Nat.le_of_ble_eq_true rfl)) dX5_allow_37 ⟨Nat.le_of_ble_eq_true rfl, Nat.le_of_ble_eq_true rfl⟩) (fun r er => ?_)
          subst er
          refine lv_if_ne (tgt := 47) hx hb dX5_allow_40 (by decide) (fun c_40 => ?_) (fun c_40 => ?_)
          ·
            have c_40 := b2i_1 c_40
            refine lv_iconst (v := 0) hx hb dX5_allow_47 (by decide) ?_
            exact J_48 _ _ hP hS ls (lv_sub hl [0, 1, 2, 3, 4, 5] rfl)
          ·
            have c_40 := b2i_0 c_40
            exact absurd hs2 (b2i_bf c_40)
      ·
        have c_15 := b2i_0 c_15
        exact absurd (inB_t (N := 13) (show w ≤ 13 by omega) (by decide)) (b2i_bf c_15)
  exact go _ _ hP hS

set_option maxHeartbeats 800000 in
set_option maxRecDepth 100000 in
theorem m_drop (l : Launch) (D : va_G) (cI cZ : ClassId) (ad : Nat → Nat) (A : Nat → Prop) (F : Nat → Nat → Int32) (ow : Nat → Int32) (mp : Nat → Int32) (nm : Int32) (gb : Int32) (ob : Int32) (ik : Nat → Int32) (kp : Nat → Int32) (tu : Nat → Int32) (g : Nat → Int32) (hA : apD 16 A ad) (x : Nat) (y : Nat)  (nn : Nat) (hM : okM F g nn) (hxn : x < nn) (hBo : okB F ik tu) (hyl : y < i2n (F 6 x)) : Met l yX5_drop wsX5_drop (rmr 2 43) (va_Pc [.ref (ad 0), .int (nI x), .int (nI y)] (rdP D ([(cI, .int), (cZ, .boolean)]) (mdW cI cZ ad F ow mp nm gb ob ik kp tu g))) (va_Qi (fun (r : Int32) (_ : Unit) => r = F 9 (6 * x + y)) (fun _ t => va_P D vwCl (mdW cI cZ ad (va_up (va_up (va_up (va_up (va_up F 6 (upd (F 6) x (nI (i2n (F 6 x) - 1)))) 7 (shl (F 7) (6 * x + y) (i2n (F 6 x) - 1 - y))) 8 (shl (F 8) (6 * x + y) (i2n (F 6 x) - 1 - y))) 9 (shl (F 9) (6 * x + y) (i2n (F 6 x) - 1 - y))) 10 (shl (F 10) (6 * x + y) (i2n (F 6 x) - 1 - y))) ow mp nm gb ob ik kp tu (va_up g 19 0)) t.heap) A) 0 0 A := by
  refine Met.ofW (cc := cX5_drop) (maxL := 5) (ret := (some .int)) (by decide) rfl ?_
  intro p e s m args below meth c s₁ B hml hv
  obtain ⟨hargs, hP, hK, hN⟩ := hv
  have hx := B.exec
  have hb := B.bytes
  have hr := B.returns
  have hts := atoms_spec (ws := wsX5_drop) B.pre
  have hown : s.vm.findClass RX5 = some m.cls := findClass_of_methodNamed B.named
  have hlocks := B.notSynchronized
  have hen : entryFrame m args 5 = entryFrame m ([.ref (ad 0), .int (nI x), .int (nI y)] : List Value).toArray 5 := by rw [hargs]
  rw [hen]
  have hl := lv_entry ([.ref (ad 0), .int (nI x), .int (nI y)]) (n := 5) (Nat.le_of_ble_eq_true rfl)
  rw [lg_entry_eq]
  generalize (lg_sl ([.ref (ad 0), .int (nI x), .int (nI y)]) ++ List.replicate (5 - (lg_sl ([.ref (ad 0), .int (nI x), .int (nI y)])).length) Slot.unset).toArray = ls at hl ⊢
  have hl : lv_has ls 5 [(0, .ref (ad 0)), (1, .int (nI x)), (2, .int (nI y))] := hl
  have hS : va_S A s.heap s.heap [] := va_S.rf
  generalize hQ : MQ below (va_Qi (fun (r : Int32) (_ : Unit) => r = F 9 (6 * x + y)) (fun _ t => va_P D vwCl (mdW cI cZ ad (va_up (va_up (va_up (va_up (va_up F 6 (upd (F 6) x (nI (i2n (F 6 x) - 1)))) 7 (shl (F 7) (6 * x + y) (i2n (F 6 x) - 1 - y))) 8 (shl (F 8) (6 * x + y) (i2n (F 6 x) - 1 - y))) 9 (shl (F 9) (6 * x + y) (i2n (F 6 x) - 1 - y))) 10 (shl (F 10) (6 * x + y) (i2n (F 6 x) - 1 - y))) ow mp nm gb ob ik kp tu (va_up g 19 0)) t.heap) A) args s 0 0 A = Q
  have go : ∀ (H : Heap) (locs : List Loc), va_P D vwCl (mdW cI cZ ad F ow mp nm gb ob ik kp tu g) H → va_S A s.heap H locs → W p l e (headSpec wsX5_drop (rmr 2 43)).room s m args below meth c H locs 0 0 Q (F0 m 0 ls []) := by
    intro H locs hP hS
    have hnn := hM.2.1.2
    have hl6 := (hM.len hxn).2
    refine lv_aload_n hx hb dX5_drop_0 rfl (lv_at hl 0 rfl) ?_
    refine lv_aload_n hx hb dX5_drop_1 rfl (lv_at hl 0 rfl) ?_
    refine lv_iload_n hx hb dX5_drop_2 rfl (lv_at hl 1 rfl) ?_
    refine vp_callSi (W.runV (As := [.int (nI x)]) (rest := [.ref (ad 0)]) ⟨hx, hb, hml, hown, hts⟩ (k_X5_isFolder l D cI cZ ad F ow mp nm gb ob ik kp tu g (nI x)) (cwV 1 hts gX5_drop_X5_isFolder rfl rfl rfl (by decide +kernel) ⟨Nat.le_of_ble_eq_true rfl, Nat.le_of_ble_eq_true rfl⟩) ⟨rd_blind, va_recv hK hP (ci := 6) (q0 := 0) rfl rfl, rd_pre hP hK hN⟩ rfl rfl hl.1 rfl (lv_room (Nat.le_of_ble_eq_true rfl)) dX5_drop_3 ⟨Nat.le_of_ble_eq_true rfl, Nat.le_of_ble_eq_true rfl⟩) (fun r er => ?_)
    subst er
    have J_30 : ∀ (H : Heap) (locs : List Loc), va_P D vwCl (mdW cI cZ ad F ow mp nm gb ob ik kp tu g) H → va_S A s.heap H locs → ∀ ls : Array Slot, lv_has ls 5 [(0, .ref (ad 0)), (1, .int (nI x)), (2, .int (nI y))] → W p l e (headSpec wsX5_drop (rmr 2 43)).room s m args below meth c H locs 0 0 Q (F0 m 30 ls [.int 0, .ref (ad 0)]) := by
      intro  H locs hP hS ls hl
      refine va_calli (va_runV (As := [.int 0]) (rest := []) ⟨hx, hb, hml, hown, hts⟩ (k_X5_isFine l D cI cZ ad A F ow mp nm gb ob ik kp tu g hA 0) (cwV 1 hts gX5_drop_X5_isFine rfl rfl rfl (by decide +kernel) ⟨Nat.le_of_ble_eq_true rfl, Nat.le_of_ble_eq_true rfl⟩) ⟨rd_blind, va_recv hK hP (ci := 6) (q0 := 0) rfl rfl, rd_pre hP hK hN⟩ rfl rfl hl.1 rfl (lv_room (Nat.le_of_ble_eq_true rfl)) dX5_drop_30 ⟨Nat.le_of_ble_eq_true rfl, Nat.le_of_ble_eq_true rfl⟩) hS (fun q _ h => h) (fun q h => h) (fun r u t H locs ht hvm hw hB hz1 hk1 hS => ?_)
      have hP := hB
      rw [ht] at hP
      subst hw
      have hP : va_P D vwCl (mdW cI cZ ad F ow mp nm gb ob ik kp tu (va_up g 19 0)) H := hP
      refine top_eq (y := b2i true) (by decide) ?_
      refine lv_if_ne (tgt := 38) hx hb dX5_drop_33 (by decide) (fun c_33 => ?_) (fun c_33 => absurd c_33 (by decide))
      refine lv_aload_n hx hb dX5_drop_38 rfl (lv_at hl 0 rfl) ?_
      refine va_get (D := D) (ci := 6) (v := .ref (ad 9)) (C := RX5) (T := TX5) (N := 20) hx hb hts (fun _ h => List.mem_cons_of_mem _ (List.mem_append_right _ (h))) hown hK hP 0 rfl rfl 9 (by decide) (hts _ (List.mem_of_getElem? (i := 2) rfl)) (fun _ h9 => h9) rfl dX5_drop_39 ?_
      refine lv_bipush (v := 6) hx hb dX5_drop_42 (by decide) ?_
      refine lv_iload_n hx hb dX5_drop_44 rfl (lv_at hl 1 rfl) ?_
      refine imul_n (x := 6) (y := x) hx hb dX5_drop_45 ?_
      refine lv_iload_n hx hb dX5_drop_46 rfl (lv_at hl 2 rfl) ?_
      refine iadd_n (x := 6 * x) (y := y) hx hb dX5_drop_47 ?_
      refine ld_i (k := (6 * x) + y) hx hb hK hP 9 0 rfl rfl (by omega) (by decide) dX5_drop_48 ?_
      refine lv_istore_n (lv' := [(3, .int ((F 9) ((6 * x) + y))), (0, .ref (ad 0)), (1, .int (nI x)), (2, .int (nI y))]) hx hb dX5_drop_49 rfl hl (by decide) rfl (fun ls hl => ?_)
      refine lv_aload_n hx hb dX5_drop_50 rfl (lv_at hl 1 rfl) ?_
      refine va_get (D := D) (ci := 6) (v := .ref (ad 6)) (C := RX5) (T := TX5) (N := 20) hx hb hts (fun _ h => List.mem_cons_of_mem _ (List.mem_append_right _ (h))) hown hK hP 0 rfl rfl 5 (by decide) (hts _ (List.mem_of_getElem? (i := 1) rfl)) (fun _ h9 => h9) rfl dX5_drop_51 ?_
      refine lv_iload_n hx hb dX5_drop_54 rfl (lv_at hl 2 rfl) ?_
      refine lv_dup2_11 hx hb dX5_drop_55 rfl rfl ?_
      refine ld_i (k := x) hx hb hK hP 6 0 rfl rfl (by omega) (by decide) dX5_drop_56 ?_
      refine top_eq (y := nI (i2n (F 6 x))) (by exact (hM.len hxn).1) ?_
      refine lv_iconst (v := 1) hx hb dX5_drop_57 (by decide) ?_
      refine isub_n (x := i2n (F 6 x)) (y := 1) (by omega) hx hb dX5_drop_58 ?_
      refine st_i (k := x) hx hb hK hP (md_D hA) hS 6 0 rfl rfl (by omega) (by decide) dX5_drop_59 (fun H locs hP _ hS => ?_)
      have hP : va_P D vwCl (mdW cI cZ ad (va_up F 6 (upd (F 6) x (nI ((i2n (F 6 x)) - 1)))) ow mp nm gb ob ik kp tu (va_up g 19 0)) H := hP
      refine lv_bipush (v := 6) hx hb dX5_drop_60 (by decide) ?_
      refine lv_iload_n hx hb dX5_drop_62 rfl (lv_at hl 2 rfl) ?_
      refine imul_n (x := 6) (y := x) hx hb dX5_drop_63 ?_
      refine lv_iload_n hx hb dX5_drop_64 rfl (lv_at hl 3 rfl) ?_
      refine iadd_n (x := 6 * x) (y := y) hx hb dX5_drop_65 ?_
      refine lv_istore (lv' := [(4, .int (nI ((6 * x) + y))), (3, .int ((F 9) ((6 * x) + y))), (0, .ref (ad 0)), (1, .int (nI x)), (2, .int (nI y))]) hx hb dX5_drop_66 hl (by decide) rfl (fun ls hl => ?_)
      have L_68 : ∀ fz i : Nat, i ≤ (i2n (F 6 x) - 1 - y) → (i2n (F 6 x) - 1 - y) - i < fz → ∀ (kF7 : Nat → Int32), kF7 = (shl (F 7) (6 * x + y) i) → ∀ (kF8 : Nat → Int32), kF8 = (shl (F 8) (6 * x + y) i) → ∀ (kF9 : Nat → Int32), kF9 = (shl (F 9) (6 * x + y) i) → ∀ (kF10 : Nat → Int32), kF10 = (shl (F 10) (6 * x + y) i) → ∀ (H : Heap) (locs : List Loc), va_P D vwCl (mdW cI cZ ad (va_up (va_up (va_up (va_up (va_up F 6 (upd (F 6) x (nI ((i2n (F 6 x)) - 1)))) 7 kF7) 8 kF8) 9 kF9) 10 kF10) ow mp nm gb ob ik kp tu (va_up g 19 0)) H → va_S A s.heap H locs → ∀ ls : Array Slot, lv_has ls 5 [(0, .ref (ad 0)), (1, .int (nI x)), (2, .int (nI y)), (3, .int ((F 9) ((6 * x) + y))), (4, .int (nI ((6 * x + y) + i)))] → W p l e (headSpec wsX5_drop (rmr 2 43)).room s m args below meth c H locs 0 0 Q (F0 m 68 ls []) := by
        intro fz
        induction fz with
        | zero => intro i _ h; exact absurd h (Nat.not_lt_zero _)
        | succ fz ih_68 =>
          intro i hi_68 hn_68 kF7 ekF7 kF8 ekF8 kF9 ekF9 kF10 ekF10 H locs hP hS ls hl
          subst ekF7
          subst ekF8
          subst ekF9
          subst ekF10
          rcases Nat.lt_or_ge i (i2n (F 6 x) - 1 - y) with h_i | h_i
          ·
            refine lv_iload hx hb dX5_drop_68 (lv_at hl 4 rfl) ?_
            refine lv_bipush (v := 6) hx hb dX5_drop_70 (by decide) ?_
            refine lv_iload_n hx hb dX5_drop_72 rfl (lv_at hl 1 rfl) ?_
            refine imul_n (x := 6) (y := x) hx hb dX5_drop_73 ?_
            refine lv_aload_n hx hb dX5_drop_74 rfl (lv_at hl 0 rfl) ?_
            refine va_get (D := D) (ci := 6) (v := .ref (ad 6)) (C := RX5) (T := TX5) (N := 20) hx hb hts (fun _ h => List.mem_cons_of_mem _ (List.mem_append_right _ (h))) hown hK hP 0 rfl rfl 5 (by decide) (hts _ (List.mem_of_getElem? (i := 1) rfl)) (fun _ h9 => h9) rfl dX5_drop_75 ?_
            refine lv_iload_n hx hb dX5_drop_78 rfl (lv_at hl 1 rfl) ?_
            refine ld_i (k := x) hx hb hK hP 6 0 rfl rfl (by omega) (by decide) dX5_drop_79 ?_
            refine top_eq (y := nI ((i2n (F 6 x)) - 1)) pk_us ?_
            refine iadd_n (x := 6 * x) (y := (i2n (F 6 x)) - 1) hx hb dX5_drop_80 ?_
            refine lv_icmp_ge (tgt := 154) hx hb dX5_drop_81 (by decide) (fun c_81 => absurd c_81 (nI_ge (by omega) (by omega))) (fun c_81 => ?_)
            refine lv_aload_n hx hb dX5_drop_84 rfl (lv_at hl 0 rfl) ?_
            refine va_get (D := D) (ci := 6) (v := .ref (ad 7)) (C := RX5) (T := TX5) (N := 20) hx hb hts (fun _ h => List.mem_cons_of_mem _ (List.mem_append_right _ (h))) hown hK hP 0 rfl rfl 7 (by decide) (hts _ (List.mem_of_getElem? (i := 3) rfl)) (fun _ h9 => h9) rfl dX5_drop_85 ?_
            refine lv_iload hx hb dX5_drop_88 (lv_at hl 4 rfl) ?_
            refine lv_aload_n hx hb dX5_drop_90 rfl (lv_at hl 0 rfl) ?_
            refine va_get (D := D) (ci := 6) (v := .ref (ad 7)) (C := RX5) (T := TX5) (N := 20) hx hb hts (fun _ h => List.mem_cons_of_mem _ (List.mem_append_right _ (h))) hown hK hP 0 rfl rfl 7 (by decide) (hts _ (List.mem_of_getElem? (i := 3) rfl)) (fun _ h9 => h9) rfl dX5_drop_91 ?_
            refine lv_iload hx hb dX5_drop_94 (lv_at hl 4 rfl) ?_
            refine lv_iconst (v := 1) hx hb dX5_drop_96 (by decide) ?_
            refine iadd_n (x := (6 * x + y) + i) (y := 1) hx hb dX5_drop_97 ?_
            refine ld_i (k := ((6 * x + y) + i) + 1) hx hb hK hP 7 0 rfl rfl (by omega) (by decide) dX5_drop_98 ?_
            refine st_i (k := (6 * x + y) + i) hx hb hK hP (md_D hA) hS 7 0 rfl rfl (by omega) (by decide) dX5_drop_99 (fun H locs hP _ hS => ?_)
            have hP : va_P D vwCl (mdW cI cZ ad (va_up (va_up (va_up (va_up (va_up F 6 (upd (F 6) x (nI ((i2n (F 6 x)) - 1)))) 7 (upd (shl (F 7) (6 * x + y) i) ((6 * x + y) + i) ((shl (F 7) (6 * x + y) i) (((6 * x + y) + i) + 1)))) 8 (shl (F 8) (6 * x + y) i)) 9 (shl (F 9) (6 * x + y) i)) 10 (shl (F 10) (6 * x + y) i)) ow mp nm gb ob ik kp tu (va_up g 19 0)) H := hP
            refine lv_aload_n hx hb dX5_drop_100 rfl (lv_at hl 0 rfl) ?_
            refine va_get (D := D) (ci := 6) (v := .ref (ad 8)) (C := RX5) (T := TX5) (N := 20) hx hb hts (fun _ h => List.mem_cons_of_mem _ (List.mem_append_right _ (h))) hown hK hP 0 rfl rfl 8 (by decide) (hts _ (List.mem_of_getElem? (i := 4) rfl)) (fun _ h9 => h9) rfl dX5_drop_101 ?_
            refine lv_iload hx hb dX5_drop_104 (lv_at hl 4 rfl) ?_
            refine lv_aload_n hx hb dX5_drop_106 rfl (lv_at hl 0 rfl) ?_
            refine va_get (D := D) (ci := 6) (v := .ref (ad 8)) (C := RX5) (T := TX5) (N := 20) hx hb hts (fun _ h => List.mem_cons_of_mem _ (List.mem_append_right _ (h))) hown hK hP 0 rfl rfl 8 (by decide) (hts _ (List.mem_of_getElem? (i := 4) rfl)) (fun _ h9 => h9) rfl dX5_drop_107 ?_
            refine lv_iload hx hb dX5_drop_110 (lv_at hl 4 rfl) ?_
            refine lv_iconst (v := 1) hx hb dX5_drop_112 (by decide) ?_
            refine iadd_n (x := (6 * x + y) + i) (y := 1) hx hb dX5_drop_113 ?_
            refine ld_z (k := ((6 * x + y) + i) + 1) hx hb hK hP 8 1 rfl rfl (by omega) (by decide) dX5_drop_114 ?_
            refine st_z (k := (6 * x + y) + i) hx hb hK hP (md_D hA) hS 8 1 rfl rfl (by omega) (by decide) (by exact vpn_of (shl_bool hBo.2.1 _ _ _)) dX5_drop_115 (fun H locs hP _ hS => ?_)
            have hP : va_P D vwCl (mdW cI cZ ad (va_up (va_up (va_up (va_up (va_up F 6 (upd (F 6) x (nI ((i2n (F 6 x)) - 1)))) 7 (upd (shl (F 7) (6 * x + y) i) ((6 * x + y) + i) ((shl (F 7) (6 * x + y) i) (((6 * x + y) + i) + 1)))) 8 (upd (shl (F 8) (6 * x + y) i) ((6 * x + y) + i) ((shl (F 8) (6 * x + y) i) (((6 * x + y) + i) + 1)))) 9 (shl (F 9) (6 * x + y) i)) 10 (shl (F 10) (6 * x + y) i)) ow mp nm gb ob ik kp tu (va_up g 19 0)) H := hP
            refine lv_aload_n hx hb dX5_drop_116 rfl (lv_at hl 0 rfl) ?_
            refine va_get (D := D) (ci := 6) (v := .ref (ad 9)) (C := RX5) (T := TX5) (N := 20) hx hb hts (fun _ h => List.mem_cons_of_mem _ (List.mem_append_right _ (h))) hown hK hP 0 rfl rfl 9 (by decide) (hts _ (List.mem_of_getElem? (i := 2) rfl)) (fun _ h9 => h9) rfl dX5_drop_117 ?_
            refine lv_iload hx hb dX5_drop_120 (lv_at hl 4 rfl) ?_
            refine lv_aload_n hx hb dX5_drop_122 rfl (lv_at hl 0 rfl) ?_
            refine va_get (D := D) (ci := 6) (v := .ref (ad 9)) (C := RX5) (T := TX5) (N := 20) hx hb hts (fun _ h => List.mem_cons_of_mem _ (List.mem_append_right _ (h))) hown hK hP 0 rfl rfl 9 (by decide) (hts _ (List.mem_of_getElem? (i := 2) rfl)) (fun _ h9 => h9) rfl dX5_drop_123 ?_
            refine lv_iload hx hb dX5_drop_126 (lv_at hl 4 rfl) ?_
            refine lv_iconst (v := 1) hx hb dX5_drop_128 (by decide) ?_
            refine iadd_n (x := (6 * x + y) + i) (y := 1) hx hb dX5_drop_129 ?_
            refine ld_i (k := ((6 * x + y) + i) + 1) hx hb hK hP 9 0 rfl rfl (by omega) (by decide) dX5_drop_130 ?_
            refine st_i (k := (6 * x + y) + i) hx hb hK hP (md_D hA) hS 9 0 rfl rfl (by omega) (by decide) dX5_drop_131 (fun H locs hP _ hS => ?_)
            have hP : va_P D vwCl (mdW cI cZ ad (va_up (va_up (va_up (va_up (va_up F 6 (upd (F 6) x (nI ((i2n (F 6 x)) - 1)))) 7 (upd (shl (F 7) (6 * x + y) i) ((6 * x + y) + i) ((shl (F 7) (6 * x + y) i) (((6 * x + y) + i) + 1)))) 8 (upd (shl (F 8) (6 * x + y) i) ((6 * x + y) + i) ((shl (F 8) (6 * x + y) i) (((6 * x + y) + i) + 1)))) 9 (upd (shl (F 9) (6 * x + y) i) ((6 * x + y) + i) ((shl (F 9) (6 * x + y) i) (((6 * x + y) + i) + 1)))) 10 (shl (F 10) (6 * x + y) i)) ow mp nm gb ob ik kp tu (va_up g 19 0)) H := hP
            refine lv_aload_n hx hb dX5_drop_132 rfl (lv_at hl 0 rfl) ?_
            refine va_get (D := D) (ci := 6) (v := .ref (ad 10)) (C := RX5) (T := TX5) (N := 20) hx hb hts (fun _ h => List.mem_cons_of_mem _ (List.mem_append_right _ (h))) hown hK hP 0 rfl rfl 10 (by decide) (hts _ (List.mem_of_getElem? (i := 5) rfl)) (fun _ h9 => h9) rfl dX5_drop_133 ?_
            refine lv_iload hx hb dX5_drop_136 (lv_at hl 4 rfl) ?_
            refine lv_aload_n hx hb dX5_drop_138 rfl (lv_at hl 0 rfl) ?_
            refine va_get (D := D) (ci := 6) (v := .ref (ad 10)) (C := RX5) (T := TX5) (N := 20) hx hb hts (fun _ h => List.mem_cons_of_mem _ (List.mem_append_right _ (h))) hown hK hP 0 rfl rfl 10 (by decide) (hts _ (List.mem_of_getElem? (i := 5) rfl)) (fun _ h9 => h9) rfl dX5_drop_139 ?_
            refine lv_iload hx hb dX5_drop_142 (lv_at hl 4 rfl) ?_
            refine lv_iconst (v := 1) hx hb dX5_drop_144 (by decide) ?_
            refine iadd_n (x := (6 * x + y) + i) (y := 1) hx hb dX5_drop_145 ?_
            refine ld_i (k := ((6 * x + y) + i) + 1) hx hb hK hP 10 0 rfl rfl (by omega) (by decide) dX5_drop_146 ?_
            refine st_i (k := (6 * x + y) + i) hx hb hK hP (md_D hA) hS 10 0 rfl rfl (by omega) (by decide) dX5_drop_147 (fun H locs hP _ hS => ?_)
            have hP : va_P D vwCl (mdW cI cZ ad (va_up (va_up (va_up (va_up (va_up F 6 (upd (F 6) x (nI ((i2n (F 6 x)) - 1)))) 7 (upd (shl (F 7) (6 * x + y) i) ((6 * x + y) + i) ((shl (F 7) (6 * x + y) i) (((6 * x + y) + i) + 1)))) 8 (upd (shl (F 8) (6 * x + y) i) ((6 * x + y) + i) ((shl (F 8) (6 * x + y) i) (((6 * x + y) + i) + 1)))) 9 (upd (shl (F 9) (6 * x + y) i) ((6 * x + y) + i) ((shl (F 9) (6 * x + y) i) (((6 * x + y) + i) + 1)))) 10 (upd (shl (F 10) (6 * x + y) i) ((6 * x + y) + i) ((shl (F 10) (6 * x + y) i) (((6 * x + y) + i) + 1)))) ow mp nm gb ob ik kp tu (va_up g 19 0)) H := hP
            refine lv_iinc (v := nI ((6 * x + y) + i + 1)) (lv' := [(4, .int (nI ((6 * x + y) + i + 1))), (0, .ref (ad 0)), (1, .int (nI x)), (2, .int (nI y)), (3, .int ((F 9) ((6 * x) + y)))]) hx hb dX5_drop_148 hl (k := 4) rfl (by exact iinc_n _) (by decide) rfl (fun ls hl => ?_)
            refine lv_goto (tgt := 68) hx hb dX5_drop_151 (by decide) ?_
            exact ih_68 (i + 1) (by omega) (by omega) _ (by rfl) _ (by rfl) _ (by rfl) _ (by rfl) _ _ hP hS ls (lv_sub hl [1, 2, 3, 4, 0] rfl)
          ·
            obtain rfl : i2n (F 6 x) - 1 - y = i := by omega
            refine lv_iload hx hb dX5_drop_68 (lv_at hl 4 rfl) ?_
            refine lv_bipush (v := 6) hx hb dX5_drop_70 (by decide) ?_
            refine lv_iload_n hx hb dX5_drop_72 rfl (lv_at hl 1 rfl) ?_
            refine imul_n (x := 6) (y := x) hx hb dX5_drop_73 ?_
            refine lv_aload_n hx hb dX5_drop_74 rfl (lv_at hl 0 rfl) ?_
            refine va_get (D := D) (ci := 6) (v := .ref (ad 6)) (C := RX5) (T := TX5) (N := 20) hx hb hts (fun _ h => List.mem_cons_of_mem _ (List.mem_append_right _ (h))) hown hK hP 0 rfl rfl 5 (by decide) (hts _ (List.mem_of_getElem? (i := 1) rfl)) (fun _ h9 => h9) rfl dX5_drop_75 ?_
            refine lv_iload_n hx hb dX5_drop_78 rfl (lv_at hl 1 rfl) ?_
            refine ld_i (k := x) hx hb hK hP 6 0 rfl rfl (by omega) (by decide) dX5_drop_79 ?_
            refine top_eq (y := nI ((i2n (F 6 x)) - 1)) pk_us ?_
            refine iadd_n (x := 6 * x) (y := (i2n (F 6 x)) - 1) hx hb dX5_drop_80 ?_
            refine lv_icmp_ge (tgt := 154) hx hb dX5_drop_81 (by decide) (fun c_81 => ?_) (fun c_81 => absurd (nI_le (by omega) (by omega)) c_81)
            refine lv_iload_n hx hb dX5_drop_154 rfl (lv_at hl 3 rfl) ?_
            subst hQ
            have hP : va_P D vwCl (mdW cI cZ ad (va_up (va_up (va_up (va_up (va_up F 6 (upd (F 6) x (nI ((i2n (F 6 x)) - 1)))) 7 (shl (F 7) (6 * x + y) (i2n (F 6 x) - 1 - y))) 8 (shl (F 8) (6 * x + y) (i2n (F 6 x) - 1 - y))) 9 (shl (F 9) (6 * x + y) (i2n (F 6 x) - 1 - y))) 10 (shl (F 10) (6 * x + y) (i2n (F 6 x) - 1 - y))) ow mp nm gb ob ik kp tu (va_up g 19 0)) H := hP
            have qF6 : upd (F 6) x (nI ((i2n (F 6 x)) - 1)) = upd (F 6) x (nI (i2n (F 6 x) - 1)) := by rfl
            have hP : va_P D vwCl (mdW cI cZ ad (va_up (va_up (va_up (va_up (va_up F 6 (upd (F 6) x (nI (i2n (F 6 x) - 1)))) 7 (shl (F 7) (6 * x + y) (i2n (F 6 x) - 1 - y))) 8 (shl (F 8) (6 * x + y) (i2n (F 6 x) - 1 - y))) 9 (shl (F 9) (6 * x + y) (i2n (F 6 x) - 1 - y))) 10 (shl (F 10) (6 * x + y) (i2n (F 6 x) - 1 - y))) ow mp nm gb ob ik kp tu (va_up g 19 0)) H := mdW_P (up_cg (up_cg (up_cg (up_cg (up_cg rfl 6 qF6) 7 rfl) 8 rfl) 9 rfl) 10 rfl) rfl rfl rfl rfl rfl rfl rfl rfl rfl hP
            exact W.iret (v := (F 9) ((6 * x) + y)) hx hb hr (fun t ht _ => ⟨⟨_, (), rfl, (by rfl), by have e := hP; rw [← ht] at e; exact e⟩, hS.F ht⟩) hS.2.2 dX5_drop_155
      exact L_68 (i2n (F 6 x) - 1 - y + 1) 0 (by omega) (by omega) _ (by rfl) _ (by rfl) _ (by rfl) _ (by rfl) _ _ hP hS ls (lv_sub hl [2, 3, 4, 1, 0] rfl)
    refine lv_if_eq (tgt := 29) hx hb dX5_drop_6 (by decide) (fun c_6 => ?_) (fun c_6 => ?_)
    ·
      have c_6 := b2i_0 c_6
      exact absurd (inB_f hM hxn) (b2i_bf c_6)
    ·
      have c_6 := b2i_1 c_6
      refine lv_iload_n hx hb dX5_drop_9 rfl (lv_at hl 2 rfl) ?_
      refine lv_iconst (v := 0) hx hb dX5_drop_10 (by decide) ?_
      refine lv_aload_n hx hb dX5_drop_11 rfl (lv_at hl 0 rfl) ?_
      refine va_get (D := D) (ci := 6) (v := .ref (ad 6)) (C := RX5) (T := TX5) (N := 20) hx hb hts (fun _ h => List.mem_cons_of_mem _ (List.mem_append_right _ (h))) hown hK hP 0 rfl rfl 5 (by decide) (hts _ (List.mem_of_getElem? (i := 1) rfl)) (fun _ h9 => h9) rfl dX5_drop_12 ?_
      refine lv_iload_n hx hb dX5_drop_15 rfl (lv_at hl 1 rfl) ?_
      refine ld_i (k := x) hx hb hK hP 6 0 rfl rfl (by omega) (by decide) dX5_drop_16 ?_
      refine top_eq (y := nI (i2n (F 6 x))) (by exact (hM.len hxn).1) ?_
      refine lv_iconst (v := 1) hx hb dX5_drop_17 (by decide) ?_
      refine isub_n (x := i2n (F 6 x)) (y := 1) (by omega) hx hb dX5_drop_18 ?_
      refine vp_callSi (W.runS (As := [.int (nI y), .int 0, .int (nI ((i2n (F 6 x)) - 1))]) (rest := [.ref (ad 0)]) ⟨hx, hb, hml, hown, hts⟩ (k_X5_in l (nI y) 0 (nI ((i2n (F 6 x)) - 1))) (va_cwS 3 hts gX5_drop_X5_in rfl rfl rfl (by decide +kernel) ⟨Nat.le_of_ble_eq_true rfl, Nat.le_of_ble_eq_true rfl⟩) ⟨nf_blind, fun U hU hW => ⟨rfl, trivial⟩⟩ rfl rfl hl.1 rfl (lv_room (Nat.le_of_ble_eq_true rfl)) dX5_drop_19 ⟨Nat.le_of_ble_eq_true rfl, Nat.le_of_ble_eq_true rfl⟩) (fun r er => ?_)
      subst er
      refine lv_if_eq (tgt := 29) hx hb dX5_drop_22 (by decide) (fun c_22 => ?_) (fun c_22 => ?_)
      ·
        have c_22 := b2i_0 c_22
        exact absurd (inB_t (by omega) (by omega)) (b2i_bf c_22)
      ·
        have c_22 := b2i_1 c_22
        refine lv_iconst (v := 0) hx hb dX5_drop_25 (by decide) ?_
        refine lv_goto (tgt := 30) hx hb dX5_drop_26 (by decide) ?_
        exact J_30 _ _ hP hS ls (lv_sub hl [0, 1, 2] rfl)
  exact go _ _ hP hS

set_option maxHeartbeats 800000 in
set_option maxRecDepth 100000 in
theorem m_drop_1 (l : Launch) (D : va_G) (cI cZ : ClassId) (ad : Nat → Nat) (A : Nat → Prop) (F : Nat → Nat → Int32) (ow : Nat → Int32) (mp : Nat → Int32) (nm : Int32) (gb : Int32) (ob : Int32) (ik : Nat → Int32) (kp : Nat → Int32) (tu : Nat → Int32) (g : Nat → Int32) (hA : apD 16 A ad) (x0 : Int32) (x1 : Int32)  (hb1 : inB x0 0 (g 6 - 1) = false) : Met l yX5_drop wsX5_drop (rmr 2 43) (va_Pc [.ref (ad 0), .int x0, .int x1] (rdP D ([(cI, .int), (cZ, .boolean)]) (mdW cI cZ ad F ow mp nm gb ob ik kp tu g))) (va_Qi (fun (r : Int32) (_ : Unit) => r = 0) (fun _ t => va_P D vwCl (mdW cI cZ ad F ow mp nm gb ob ik kp tu (va_up g 19 1)) t.heap) A) 0 0 A := by
  refine Met.ofW (cc := cX5_drop) (maxL := 5) (ret := (some .int)) (by decide) rfl ?_
  intro p e s m args below meth c s₁ B hml hv
  obtain ⟨hargs, hP, hK, hN⟩ := hv
  have hx := B.exec
  have hb := B.bytes
  have hr := B.returns
  have hts := atoms_spec (ws := wsX5_drop) B.pre
  have hown : s.vm.findClass RX5 = some m.cls := findClass_of_methodNamed B.named
  have hlocks := B.notSynchronized
  have hen : entryFrame m args 5 = entryFrame m ([.ref (ad 0), .int x0, .int x1] : List Value).toArray 5 := by rw [hargs]
  rw [hen]
  have hl := lv_entry ([.ref (ad 0), .int x0, .int x1]) (n := 5) (Nat.le_of_ble_eq_true rfl)
  rw [lg_entry_eq]
  generalize (lg_sl ([.ref (ad 0), .int x0, .int x1]) ++ List.replicate (5 - (lg_sl ([.ref (ad 0), .int x0, .int x1])).length) Slot.unset).toArray = ls at hl ⊢
  have hl : lv_has ls 5 [(0, .ref (ad 0)), (1, .int x0), (2, .int x1)] := hl
  have hS : va_S A s.heap s.heap [] := va_S.rf
  generalize hQ : MQ below (va_Qi (fun (r : Int32) (_ : Unit) => r = 0) (fun _ t => va_P D vwCl (mdW cI cZ ad F ow mp nm gb ob ik kp tu (va_up g 19 1)) t.heap) A) args s 0 0 A = Q
  have go : ∀ (H : Heap) (locs : List Loc), va_P D vwCl (mdW cI cZ ad F ow mp nm gb ob ik kp tu g) H → va_S A s.heap H locs → W p l e (headSpec wsX5_drop (rmr 2 43)).room s m args below meth c H locs 0 0 Q (F0 m 0 ls []) := by
    intro H locs hP hS
    refine lv_aload_n hx hb dX5_drop_0 rfl (lv_at hl 0 rfl) ?_
    refine lv_aload_n hx hb dX5_drop_1 rfl (lv_at hl 0 rfl) ?_
    refine lv_iload_n hx hb dX5_drop_2 rfl (lv_at hl 1 rfl) ?_
    refine vp_callSi (W.runV (As := [.int x0]) (rest := [.ref (ad 0)]) ⟨hx, hb, hml, hown, hts⟩ (k_X5_isFolder l D cI cZ ad F ow mp nm gb ob ik kp tu g x0) (cwV 1 hts gX5_drop_X5_isFolder rfl rfl rfl (by decide +kernel) ⟨Nat.le_of_ble_eq_true rfl, Nat.le_of_ble_eq_true rfl⟩) ⟨rd_blind, va_recv hK hP (ci := 6) (q0 := 0) rfl rfl, rd_pre hP hK hN⟩ rfl rfl hl.1 rfl (lv_room (Nat.le_of_ble_eq_true rfl)) dX5_drop_3 ⟨Nat.le_of_ble_eq_true rfl, Nat.le_of_ble_eq_true rfl⟩) (fun r er => ?_)
    subst er
    have J_30 : ∀ (H : Heap) (locs : List Loc), va_P D vwCl (mdW cI cZ ad F ow mp nm gb ob ik kp tu g) H → va_S A s.heap H locs → ∀ ls : Array Slot, lv_has ls 5 [(0, .ref (ad 0)), (1, .int x0), (2, .int x1)] → W p l e (headSpec wsX5_drop (rmr 2 43)).room s m args below meth c H locs 0 0 Q (F0 m 30 ls [.int 1, .ref (ad 0)]) := by
      intro  H locs hP hS ls hl
      refine va_calli (va_runV (As := [.int 1]) (rest := []) ⟨hx, hb, hml, hown, hts⟩ (k_X5_isFine l D cI cZ ad A F ow mp nm gb ob ik kp tu g hA 1) (cwV 1 hts gX5_drop_X5_isFine rfl rfl rfl (by decide +kernel) ⟨Nat.le_of_ble_eq_true rfl, Nat.le_of_ble_eq_true rfl⟩) ⟨rd_blind, va_recv hK hP (ci := 6) (q0 := 0) rfl rfl, rd_pre hP hK hN⟩ rfl rfl hl.1 rfl (lv_room (Nat.le_of_ble_eq_true rfl)) dX5_drop_30 ⟨Nat.le_of_ble_eq_true rfl, Nat.le_of_ble_eq_true rfl⟩) hS (fun q _ h => h) (fun q h => h) (fun r u t H locs ht hvm hw hB hz1 hk1 hS => ?_)
      have hP := hB
      rw [ht] at hP
      subst hw
      have hP : va_P D vwCl (mdW cI cZ ad F ow mp nm gb ob ik kp tu (va_up g 19 1)) H := hP
      refine top_eq (y := b2i false) (by decide) ?_
      refine lv_if_ne (tgt := 38) hx hb dX5_drop_33 (by decide) (fun c_33 => absurd rfl c_33) (fun c_33 => ?_)
      refine lv_iconst (v := 0) hx hb dX5_drop_36 (by decide) ?_
      subst hQ
      have hP : va_P D vwCl (mdW cI cZ ad F ow mp nm gb ob ik kp tu (va_up g 19 1)) H := hP
      exact W.iret (v := 0) hx hb hr (fun t ht _ => ⟨⟨_, (), rfl, (by rfl), by have e := hP; rw [← ht] at e; exact e⟩, hS.F ht⟩) hS.2.2 dX5_drop_37
    refine lv_if_eq (tgt := 29) hx hb dX5_drop_6 (by decide) (fun c_6 => ?_) (fun c_6 => ?_)
    ·
      have c_6 := b2i_0 c_6
      refine lv_iconst (v := 1) hx hb dX5_drop_29 (by decide) ?_
      exact J_30 _ _ hP hS ls (lv_sub hl [0, 1, 2] rfl)
    ·
      have c_6 := b2i_1 c_6
      exact absurd c_6 (b2i_bf hb1)
  exact go _ _ hP hS

set_option maxHeartbeats 800000 in
set_option maxRecDepth 100000 in
theorem m_drop_1b (l : Launch) (D : va_G) (cI cZ : ClassId) (ad : Nat → Nat) (A : Nat → Prop) (F : Nat → Nat → Int32) (ow : Nat → Int32) (mp : Nat → Int32) (nm : Int32) (gb : Int32) (ob : Int32) (ik : Nat → Int32) (kp : Nat → Int32) (tu : Nat → Int32) (g : Nat → Int32) (hA : apD 16 A ad) (x : Nat) (x1 : Int32)  (nn : Nat) (hM : okM F g nn) (hxn : x < nn) (hb1 : inB x1 0 (F 6 x - 1) = false) : Met l yX5_drop wsX5_drop (rmr 2 43) (va_Pc [.ref (ad 0), .int (nI x), .int x1] (rdP D ([(cI, .int), (cZ, .boolean)]) (mdW cI cZ ad F ow mp nm gb ob ik kp tu g))) (va_Qi (fun (r : Int32) (_ : Unit) => r = 0) (fun _ t => va_P D vwCl (mdW cI cZ ad F ow mp nm gb ob ik kp tu (va_up g 19 1)) t.heap) A) 0 0 A := by
  refine Met.ofW (cc := cX5_drop) (maxL := 5) (ret := (some .int)) (by decide) rfl ?_
  intro p e s m args below meth c s₁ B hml hv
  obtain ⟨hargs, hP, hK, hN⟩ := hv
  have hx := B.exec
  have hb := B.bytes
  have hr := B.returns
  have hts := atoms_spec (ws := wsX5_drop) B.pre
  have hown : s.vm.findClass RX5 = some m.cls := findClass_of_methodNamed B.named
  have hlocks := B.notSynchronized
  have hen : entryFrame m args 5 = entryFrame m ([.ref (ad 0), .int (nI x), .int x1] : List Value).toArray 5 := by rw [hargs]
  rw [hen]
  have hl := lv_entry ([.ref (ad 0), .int (nI x), .int x1]) (n := 5) (Nat.le_of_ble_eq_true rfl)
  rw [lg_entry_eq]
  generalize (lg_sl ([.ref (ad 0), .int (nI x), .int x1]) ++ List.replicate (5 - (lg_sl ([.ref (ad 0), .int (nI x), .int x1])).length) Slot.unset).toArray = ls at hl ⊢
  have hl : lv_has ls 5 [(0, .ref (ad 0)), (1, .int (nI x)), (2, .int x1)] := hl
  have hS : va_S A s.heap s.heap [] := va_S.rf
  generalize hQ : MQ below (va_Qi (fun (r : Int32) (_ : Unit) => r = 0) (fun _ t => va_P D vwCl (mdW cI cZ ad F ow mp nm gb ob ik kp tu (va_up g 19 1)) t.heap) A) args s 0 0 A = Q
  have go : ∀ (H : Heap) (locs : List Loc), va_P D vwCl (mdW cI cZ ad F ow mp nm gb ob ik kp tu g) H → va_S A s.heap H locs → W p l e (headSpec wsX5_drop (rmr 2 43)).room s m args below meth c H locs 0 0 Q (F0 m 0 ls []) := by
    intro H locs hP hS
    have hnn := hM.2.1.2
    refine lv_aload_n hx hb dX5_drop_0 rfl (lv_at hl 0 rfl) ?_
    refine lv_aload_n hx hb dX5_drop_1 rfl (lv_at hl 0 rfl) ?_
    refine lv_iload_n hx hb dX5_drop_2 rfl (lv_at hl 1 rfl) ?_
    refine vp_callSi (W.runV (As := [.int (nI x)]) (rest := [.ref (ad 0)]) ⟨hx, hb, hml, hown, hts⟩ (k_X5_isFolder l D cI cZ ad F ow mp nm gb ob ik kp tu g (nI x)) (cwV 1 hts gX5_drop_X5_isFolder rfl rfl rfl (by decide +kernel) ⟨Nat.le_of_ble_eq_true rfl, Nat.le_of_ble_eq_true rfl⟩) ⟨rd_blind, va_recv hK hP (ci := 6) (q0 := 0) rfl rfl, rd_pre hP hK hN⟩ rfl rfl hl.1 rfl (lv_room (Nat.le_of_ble_eq_true rfl)) dX5_drop_3 ⟨Nat.le_of_ble_eq_true rfl, Nat.le_of_ble_eq_true rfl⟩) (fun r er => ?_)
    subst er
    have J_30 : ∀ (H : Heap) (locs : List Loc), va_P D vwCl (mdW cI cZ ad F ow mp nm gb ob ik kp tu g) H → va_S A s.heap H locs → ∀ ls : Array Slot, lv_has ls 5 [(0, .ref (ad 0)), (1, .int (nI x)), (2, .int x1)] → W p l e (headSpec wsX5_drop (rmr 2 43)).room s m args below meth c H locs 0 0 Q (F0 m 30 ls [.int 1, .ref (ad 0)]) := by
      intro  H locs hP hS ls hl
      refine va_calli (va_runV (As := [.int 1]) (rest := []) ⟨hx, hb, hml, hown, hts⟩ (k_X5_isFine l D cI cZ ad A F ow mp nm gb ob ik kp tu g hA 1) (cwV 1 hts gX5_drop_X5_isFine rfl rfl rfl (by decide +kernel) ⟨Nat.le_of_ble_eq_true rfl, Nat.le_of_ble_eq_true rfl⟩) ⟨rd_blind, va_recv hK hP (ci := 6) (q0 := 0) rfl rfl, rd_pre hP hK hN⟩ rfl rfl hl.1 rfl (lv_room (Nat.le_of_ble_eq_true rfl)) dX5_drop_30 ⟨Nat.le_of_ble_eq_true rfl, Nat.le_of_ble_eq_true rfl⟩) hS (fun q _ h => h) (fun q h => h) (fun r u t H locs ht hvm hw hB hz1 hk1 hS => ?_)
      have hP := hB
      rw [ht] at hP
      subst hw
      have hP : va_P D vwCl (mdW cI cZ ad F ow mp nm gb ob ik kp tu (va_up g 19 1)) H := hP
      refine top_eq (y := b2i false) (by decide) ?_
      refine lv_if_ne (tgt := 38) hx hb dX5_drop_33 (by decide) (fun c_33 => absurd rfl c_33) (fun c_33 => ?_)
      refine lv_iconst (v := 0) hx hb dX5_drop_36 (by decide) ?_
      subst hQ
      have hP : va_P D vwCl (mdW cI cZ ad F ow mp nm gb ob ik kp tu (va_up g 19 1)) H := hP
      exact W.iret (v := 0) hx hb hr (fun t ht _ => ⟨⟨_, (), rfl, (by rfl), by have e := hP; rw [← ht] at e; exact e⟩, hS.F ht⟩) hS.2.2 dX5_drop_37
    refine lv_if_eq (tgt := 29) hx hb dX5_drop_6 (by decide) (fun c_6 => ?_) (fun c_6 => ?_)
    ·
      have c_6 := b2i_0 c_6
      exact absurd (inB_f hM hxn) (b2i_bf c_6)
    ·
      have c_6 := b2i_1 c_6
      refine lv_iload_n hx hb dX5_drop_9 rfl (lv_at hl 2 rfl) ?_
      refine lv_iconst (v := 0) hx hb dX5_drop_10 (by decide) ?_
      refine lv_aload_n hx hb dX5_drop_11 rfl (lv_at hl 0 rfl) ?_
      refine va_get (D := D) (ci := 6) (v := .ref (ad 6)) (C := RX5) (T := TX5) (N := 20) hx hb hts (fun _ h => List.mem_cons_of_mem _ (List.mem_append_right _ (h))) hown hK hP 0 rfl rfl 5 (by decide) (hts _ (List.mem_of_getElem? (i := 1) rfl)) (fun _ h9 => h9) rfl dX5_drop_12 ?_
      refine lv_iload_n hx hb dX5_drop_15 rfl (lv_at hl 1 rfl) ?_
      refine ld_i (k := x) hx hb hK hP 6 0 rfl rfl (by omega) (by decide) dX5_drop_16 ?_
      refine lv_iconst (v := 1) hx hb dX5_drop_17 (by decide) ?_
      refine lv_isub hx hb dX5_drop_18 ?_
      refine vp_callSi (W.runS (As := [.int x1, .int 0, .int (((F 6) x) - 1)]) (rest := [.ref (ad 0)]) ⟨hx, hb, hml, hown, hts⟩ (k_X5_in l x1 0 (((F 6) x) - 1)) (va_cwS 3 hts gX5_drop_X5_in rfl rfl rfl (by decide +kernel) ⟨Nat.le_of_ble_eq_true rfl, Nat.le_of_ble_eq_true rfl⟩) ⟨nf_blind, fun U hU hW => ⟨rfl, trivial⟩⟩ rfl rfl hl.1 rfl (lv_room (Nat.le_of_ble_eq_true rfl)) dX5_drop_19 ⟨Nat.le_of_ble_eq_true rfl, Nat.le_of_ble_eq_true rfl⟩) (fun r er => ?_)
      subst er
      refine lv_if_eq (tgt := 29) hx hb dX5_drop_22 (by decide) (fun c_22 => ?_) (fun c_22 => ?_)
      ·
        have c_22 := b2i_0 c_22
        refine lv_iconst (v := 1) hx hb dX5_drop_29 (by decide) ?_
        exact J_30 _ _ hP hS ls (lv_sub hl [0, 1, 2] rfl)
      ·
        have c_22 := b2i_1 c_22
        exact absurd c_22 (b2i_bf hb1)
  exact go _ _ hP hS

set_option maxHeartbeats 800000 in
set_option maxRecDepth 100000 in
theorem m_folders (l : Launch) (D : va_G) (cI cZ : ClassId) (ad : Nat → Nat) (A : Nat → Prop) (F : Nat → Nat → Int32) (ow : Nat → Int32) (mp : Nat → Int32) (nm : Int32) (gb : Int32) (ob : Int32) (ik : Nat → Int32) (kp : Nat → Int32) (tu : Nat → Int32) (g : Nat → Int32) (hA : apD 16 A ad)    : Met l yX5_folders wsX5_folders (rmr 0 0) (va_Pc [.ref (ad 0)] (rdP D ([(cI, .int), (cZ, .boolean)]) (mdW cI cZ ad F ow mp nm gb ob ik kp tu g))) (va_Qi (fun (r : Int32) (_ : Unit) => r = g 6) (fun _ t => va_P D vwCl (mdW cI cZ ad F ow mp nm gb ob ik kp tu (va_up g 19 0)) t.heap) A) 0 0 A := by
  refine Met.ofW (cc := cX5_folders) (maxL := 1) (ret := (some .int)) (by decide) rfl ?_
  intro p e s m args below meth c s₁ B hml hv
  obtain ⟨hargs, hP, hK, hN⟩ := hv
  have hx := B.exec
  have hb := B.bytes
  have hr := B.returns
  have hts := atoms_spec (ws := wsX5_folders) B.pre
  have hown : s.vm.findClass RX5 = some m.cls := findClass_of_methodNamed B.named
  have hlocks := B.notSynchronized
  have hen : entryFrame m args 1 = entryFrame m ([.ref (ad 0)] : List Value).toArray 1 := by rw [hargs]
  rw [hen]
  have hl := lv_entry ([.ref (ad 0)]) (n := 1) (Nat.le_of_ble_eq_true rfl)
  rw [lg_entry_eq]
  generalize (lg_sl ([.ref (ad 0)]) ++ List.replicate (1 - (lg_sl ([.ref (ad 0)])).length) Slot.unset).toArray = ls at hl ⊢
  have hl : lv_has ls 1 [(0, .ref (ad 0))] := hl
  have hS : va_S A s.heap s.heap [] := va_S.rf
  generalize hQ : MQ below (va_Qi (fun (r : Int32) (_ : Unit) => r = g 6) (fun _ t => va_P D vwCl (mdW cI cZ ad F ow mp nm gb ob ik kp tu (va_up g 19 0)) t.heap) A) args s 0 0 A = Q
  have go : ∀ (H : Heap) (locs : List Loc), va_P D vwCl (mdW cI cZ ad F ow mp nm gb ob ik kp tu g) H → va_S A s.heap H locs → W p l e (headSpec wsX5_folders (rmr 0 0)).room s m args below meth c H locs 0 0 Q (F0 m 0 ls []) := by
    intro H locs hP hS
    refine lv_aload_n hx hb dX5_folders_0 rfl (lv_at hl 0 rfl) ?_
    refine lv_iconst (v := 0) hx hb dX5_folders_1 (by decide) ?_
    refine va_put (D := D) (ci := 6) (v := .int 0) (ty := .int) (C := RX5) (T := TX5) (N := 20) hx hb hts (fun _ h => List.mem_cons_of_mem _ (List.mem_append_right _ (h))) tyX5 tyX5_ok nmX5 hown hK hP (md_D hA) hS 0 rfl rfl 19 (by decide) (hts _ (List.mem_of_getElem? (i := 1) rfl)) (fun _ h9 => h9) rfl (by decide +kernel) rfl rfl (Nat.le_of_ble_eq_true rfl) dX5_folders_2 (fun H locs hP _ hS => ?_)
    have hP : va_P D vwCl (mdW cI cZ ad F ow mp nm gb ob ik kp tu (va_up g 19 0)) H := hP
    refine lv_aload_n hx hb dX5_folders_5 rfl (lv_at hl 0 rfl) ?_
    refine va_get (D := D) (ci := 6) (v := .int (g 6)) (C := RX5) (T := TX5) (N := 20) hx hb hts (fun _ h => List.mem_cons_of_mem _ (List.mem_append_right _ (h))) hown hK hP 0 rfl rfl 6 (by decide) (hts _ (List.mem_of_getElem? (i := 2) rfl)) (fun _ h9 => h9) rfl dX5_folders_6 ?_
    subst hQ
    have hP : va_P D vwCl (mdW cI cZ ad F ow mp nm gb ob ik kp tu (va_up g 19 0)) H := hP
    exact W.iret (v := g 6) hx hb hr (fun t ht _ => ⟨⟨_, (), rfl, (by rfl), by have e := hP; rw [← ht] at e; exact e⟩, hS.F ht⟩) hS.2.2 dX5_folders_9
  exact go _ _ hP hS

set_option maxHeartbeats 800000 in
set_option maxRecDepth 100000 in
theorem m_rights (l : Launch) (D : va_G) (cI cZ : ClassId) (ad : Nat → Nat) (A : Nat → Prop) (F : Nat → Nat → Int32) (ow : Nat → Int32) (mp : Nat → Int32) (nm : Int32) (gb : Int32) (ob : Int32) (ik : Nat → Int32) (kp : Nat → Int32) (tu : Nat → Int32) (g : Nat → Int32) (hA : apD 16 A ad) (x : Nat) (y : Nat)  (nn : Nat) (hM : okM F g nn) (hx8 : x < 8) (hyn : y < nn)  : Met l yX5_rights wsX5_rights (rmr 5 119) (va_Pc [.ref (ad 0), .int (nI x), .int (nI y)] (rdP D ([(cI, .int), (cZ, .boolean)]) (mdW cI cZ ad F ow mp nm gb ob ik kp tu g))) (va_Qi (fun (r : Int32) (_ : Unit) => r = mRights F x y) (fun _ t => va_P D vwCl (mdW cI cZ ad F ow mp nm gb ob ik kp tu (va_up g 19 0)) t.heap) A) 0 0 A := by
  refine Met.ofW (cc := cX5_rights) (maxL := 3) (ret := (some .int)) (by decide) rfl ?_
  intro p e s m args below meth c s₁ B hml hv
  obtain ⟨hargs, hP, hK, hN⟩ := hv
  have hx := B.exec
  have hb := B.bytes
  have hr := B.returns
  have hts := atoms_spec (ws := wsX5_rights) B.pre
  have hown : s.vm.findClass RX5 = some m.cls := findClass_of_methodNamed B.named
  have hlocks := B.notSynchronized
  have hen : entryFrame m args 3 = entryFrame m ([.ref (ad 0), .int (nI x), .int (nI y)] : List Value).toArray 3 := by rw [hargs]
  rw [hen]
  have hl := lv_entry ([.ref (ad 0), .int (nI x), .int (nI y)]) (n := 3) (Nat.le_of_ble_eq_true rfl)
  rw [lg_entry_eq]
  generalize (lg_sl ([.ref (ad 0), .int (nI x), .int (nI y)]) ++ List.replicate (3 - (lg_sl ([.ref (ad 0), .int (nI x), .int (nI y)])).length) Slot.unset).toArray = ls at hl ⊢
  have hl : lv_has ls 3 [(0, .ref (ad 0)), (1, .int (nI x)), (2, .int (nI y))] := hl
  have hS : va_S A s.heap s.heap [] := va_S.rf
  generalize hQ : MQ below (va_Qi (fun (r : Int32) (_ : Unit) => r = mRights F x y) (fun _ t => va_P D vwCl (mdW cI cZ ad F ow mp nm gb ob ik kp tu (va_up g 19 0)) t.heap) A) args s 0 0 A = Q
  have go : ∀ (H : Heap) (locs : List Loc), va_P D vwCl (mdW cI cZ ad F ow mp nm gb ob ik kp tu g) H → va_S A s.heap H locs → W p l e (headSpec wsX5_rights (rmr 5 119)).room s m args below meth c H locs 0 0 Q (F0 m 0 ls []) := by
    intro H locs hP hS
    refine lv_aload_n hx hb dX5_rights_0 rfl (lv_at hl 0 rfl) ?_
    refine lv_iload_n hx hb dX5_rights_1 rfl (lv_at hl 1 rfl) ?_
    refine vp_callSi (W.runS (As := [.int (nI x)]) (rest := [.ref (ad 0)]) ⟨hx, hb, hml, hown, hts⟩ (k_X5_isPerson l (nI x)) (va_cwS 1 hts gX5_rights_X5_isPerson rfl rfl rfl (by decide +kernel) ⟨Nat.le_of_ble_eq_true rfl, Nat.le_of_ble_eq_true rfl⟩) ⟨nf_blind, fun U hU hW => ⟨rfl, trivial⟩⟩ rfl rfl hl.1 rfl (lv_room (Nat.le_of_ble_eq_true rfl)) dX5_rights_2 ⟨Nat.le_of_ble_eq_true rfl, Nat.le_of_ble_eq_true rfl⟩) (fun r er => ?_)
    subst er
    have J_21 : ∀ (H : Heap) (locs : List Loc), va_P D vwCl (mdW cI cZ ad F ow mp nm gb ob ik kp tu g) H → va_S A s.heap H locs → ∀ ls : Array Slot, lv_has ls 3 [(0, .ref (ad 0)), (1, .int (nI x)), (2, .int (nI y))] → W p l e (headSpec wsX5_rights (rmr 5 119)).room s m args below meth c H locs 0 0 Q (F0 m 21 ls [.int 0, .ref (ad 0)]) := by
      intro  H locs hP hS ls hl
      refine va_calli (va_runV (As := [.int 0]) (rest := []) ⟨hx, hb, hml, hown, hts⟩ (k_X5_isFine l D cI cZ ad A F ow mp nm gb ob ik kp tu g hA 0) (cwV 1 hts gX5_rights_X5_isFine rfl rfl rfl (by decide +kernel) ⟨Nat.le_of_ble_eq_true rfl, Nat.le_of_ble_eq_true rfl⟩) ⟨rd_blind, va_recv hK hP (ci := 6) (q0 := 0) rfl rfl, rd_pre hP hK hN⟩ rfl rfl hl.1 rfl (lv_room (Nat.le_of_ble_eq_true rfl)) dX5_rights_21 ⟨Nat.le_of_ble_eq_true rfl, Nat.le_of_ble_eq_true rfl⟩) hS (fun q _ h => h) (fun q h => h) (fun r u t H locs ht hvm hw hB hz1 hk1 hS => ?_)
      have hP := hB
      rw [ht] at hP
      subst hw
      have hP : va_P D vwCl (mdW cI cZ ad F ow mp nm gb ob ik kp tu (va_up g 19 0)) H := hP
      refine top_eq (y := b2i true) (by decide) ?_
      refine lv_if_eq (tgt := 36) hx hb dX5_rights_24 (by decide) (fun c_24 => absurd c_24 (by decide)) (fun c_24 => ?_)
      refine lv_aload_n hx hb dX5_rights_27 rfl (lv_at hl 0 rfl) ?_
      refine lv_iload_n hx hb dX5_rights_28 rfl (lv_at hl 1 rfl) ?_
      refine lv_iload_n hx hb dX5_rights_29 rfl (lv_at hl 2 rfl) ?_
      refine vp_callSi (W.runV (As := [.int (nI x), .int (nI y)]) (rest := []) ⟨hx, hb, hml, hown, hts⟩ (k_X5_rightsOf l D cI cZ ad F ow mp nm gb ob ik kp tu (va_up g 19 0) x y nn hM.thr hyn) (cwV 2 hts gX5_rights_X5_rightsOf rfl rfl rfl (by decide +kernel) ⟨Nat.le_of_ble_eq_true rfl, Nat.le_of_ble_eq_true rfl⟩) ⟨rd_blind, va_recv hK hP (ci := 6) (q0 := 0) rfl rfl, rd_pre hP hK hN⟩ rfl rfl hl.1 rfl (lv_room (Nat.le_of_ble_eq_true rfl)) dX5_rights_30 ⟨Nat.le_of_ble_eq_true rfl, Nat.le_of_ble_eq_true rfl⟩) (fun r er => ?_)
      subst er
      refine lv_goto (tgt := 37) hx hb dX5_rights_33 (by decide) ?_
      subst hQ
      have hP : va_P D vwCl (mdW cI cZ ad F ow mp nm gb ob ik kp tu (va_up g 19 0)) H := hP
      exact W.iret (v := mRights F x y) hx hb hr (fun t ht _ => ⟨⟨_, (), rfl, (by rfl), by have e := hP; rw [← ht] at e; exact e⟩, hS.F ht⟩) hS.2.2 dX5_rights_37
    refine lv_if_eq (tgt := 20) hx hb dX5_rights_5 (by decide) (fun c_5 => ?_) (fun c_5 => ?_)
    ·
      have c_5 := b2i_0 c_5
      exact absurd (inB_p hx8) (b2i_bf c_5)
    ·
      have c_5 := b2i_1 c_5
      refine lv_aload_n hx hb dX5_rights_8 rfl (lv_at hl 0 rfl) ?_
      refine lv_iload_n hx hb dX5_rights_9 rfl (lv_at hl 2 rfl) ?_
      refine vp_callSi (W.runV (As := [.int (nI y)]) (rest := [.ref (ad 0)]) ⟨hx, hb, hml, hown, hts⟩ (k_X5_isFolder l D cI cZ ad F ow mp nm gb ob ik kp tu g (nI y)) (cwV 1 hts gX5_rights_X5_isFolder rfl rfl rfl (by decide +kernel) ⟨Nat.le_of_ble_eq_true rfl, Nat.le_of_ble_eq_true rfl⟩) ⟨rd_blind, va_recv hK hP (ci := 6) (q0 := 0) rfl rfl, rd_pre hP hK hN⟩ rfl rfl hl.1 rfl (lv_room (Nat.le_of_ble_eq_true rfl)) dX5_rights_10 ⟨Nat.le_of_ble_eq_true rfl, Nat.le_of_ble_eq_true rfl⟩) (fun r er => ?_)
      subst er
      refine lv_if_eq (tgt := 20) hx hb dX5_rights_13 (by decide) (fun c_13 => ?_) (fun c_13 => ?_)
      ·
        have c_13 := b2i_0 c_13
        exact absurd (inB_f hM hyn) (b2i_bf c_13)
      ·
        have c_13 := b2i_1 c_13
        refine lv_iconst (v := 0) hx hb dX5_rights_16 (by decide) ?_
        refine lv_goto (tgt := 21) hx hb dX5_rights_17 (by decide) ?_
        exact J_21 _ _ hP hS ls (lv_sub hl [0, 1, 2] rfl)
  exact go _ _ hP hS

set_option maxHeartbeats 800000 in
set_option maxRecDepth 100000 in
theorem m_rightsBackwards (l : Launch) (D : va_G) (cI cZ : ClassId) (ad : Nat → Nat) (A : Nat → Prop) (F : Nat → Nat → Int32) (ow : Nat → Int32) (mp : Nat → Int32) (nm : Int32) (gb : Int32) (ob : Int32) (ik : Nat → Int32) (kp : Nat → Int32) (tu : Nat → Int32) (g : Nat → Int32) (hA : apD 16 A ad) (x : Nat) (y : Nat)  (nn : Nat) (hM : okM F g nn) (hx8 : x < 8) (hyn : y < nn)  : Met l yX5_rightsBackwards wsX5_rightsBackwards (rmr 6 141) (va_Pc [.ref (ad 0), .int (nI x), .int (nI y)] (rdP D ([(cI, .int), (cZ, .boolean)]) (mdW cI cZ ad F ow mp nm gb ob ik kp tu g))) (va_Qi (fun (r : Int32) (_ : Unit) => r = mRights F x y) (fun _ t => va_P D vwCl (mdW cI cZ ad F ow mp nm gb ob ik kp tu (va_up g 19 0)) t.heap) A) 0 0 A := by
  refine Met.ofW (cc := cX5_rightsBackwards) (maxL := 3) (ret := (some .int)) (by decide) rfl ?_
  intro p e s m args below meth c s₁ B hml hv
  obtain ⟨hargs, hP, hK, hN⟩ := hv
  have hx := B.exec
  have hb := B.bytes
  have hr := B.returns
  have hts := atoms_spec (ws := wsX5_rightsBackwards) B.pre
  have hown : s.vm.findClass RX5 = some m.cls := findClass_of_methodNamed B.named
  have hlocks := B.notSynchronized
  have hen : entryFrame m args 3 = entryFrame m ([.ref (ad 0), .int (nI x), .int (nI y)] : List Value).toArray 3 := by rw [hargs]
  rw [hen]
  have hl := lv_entry ([.ref (ad 0), .int (nI x), .int (nI y)]) (n := 3) (Nat.le_of_ble_eq_true rfl)
  rw [lg_entry_eq]
  generalize (lg_sl ([.ref (ad 0), .int (nI x), .int (nI y)]) ++ List.replicate (3 - (lg_sl ([.ref (ad 0), .int (nI x), .int (nI y)])).length) Slot.unset).toArray = ls at hl ⊢
  have hl : lv_has ls 3 [(0, .ref (ad 0)), (1, .int (nI x)), (2, .int (nI y))] := hl
  have hS : va_S A s.heap s.heap [] := va_S.rf
  generalize hQ : MQ below (va_Qi (fun (r : Int32) (_ : Unit) => r = mRights F x y) (fun _ t => va_P D vwCl (mdW cI cZ ad F ow mp nm gb ob ik kp tu (va_up g 19 0)) t.heap) A) args s 0 0 A = Q
  have go : ∀ (H : Heap) (locs : List Loc), va_P D vwCl (mdW cI cZ ad F ow mp nm gb ob ik kp tu g) H → va_S A s.heap H locs → W p l e (headSpec wsX5_rightsBackwards (rmr 6 141)).room s m args below meth c H locs 0 0 Q (F0 m 0 ls []) := by
    intro H locs hP hS
    refine lv_aload_n hx hb dX5_rightsBackwards_0 rfl (lv_at hl 0 rfl) ?_
    refine lv_iload_n hx hb dX5_rightsBackwards_1 rfl (lv_at hl 1 rfl) ?_
    refine lv_iload_n hx hb dX5_rightsBackwards_2 rfl (lv_at hl 2 rfl) ?_
    refine va_calli (va_runV (As := [.int (nI x), .int (nI y)]) (rest := []) ⟨hx, hb, hml, hown, hts⟩ (m_rights l D cI cZ ad A F ow mp nm gb ob ik kp tu g hA x y nn hM hx8 hyn) (cwV 2 hts gX5_rightsBackwards_X5_rights rfl rfl rfl (by decide +kernel) ⟨Nat.le_of_ble_eq_true rfl, Nat.le_of_ble_eq_true rfl⟩) ⟨rd_blind, va_recv hK hP (ci := 6) (q0 := 0) rfl rfl, rd_pre hP hK hN⟩ rfl rfl hl.1 rfl (lv_room (Nat.le_of_ble_eq_true rfl)) dX5_rightsBackwards_3 ⟨Nat.le_of_ble_eq_true rfl, Nat.le_of_ble_eq_true rfl⟩) hS (fun q _ h => h) (fun q h => h) (fun r u t H locs ht hvm hw hB hz1 hk1 hS => ?_)
    have hP := hB
    rw [ht] at hP
    subst hw
    have hP : va_P D vwCl (mdW cI cZ ad F ow mp nm gb ob ik kp tu (va_up g 19 0)) H := hP
    subst hQ
    have hP : va_P D vwCl (mdW cI cZ ad F ow mp nm gb ob ik kp tu (va_up g 19 0)) H := hP
    exact W.iret (v := mRights F x y) hx hb hr (fun t ht _ => ⟨⟨_, (), rfl, (by rfl), by have e := hP; rw [← ht] at e; exact e⟩, hS.F ht⟩) hS.2.2 dX5_rightsBackwards_6
  exact go _ _ hP hS

set_option maxHeartbeats 800000 in
set_option maxRecDepth 100000 in
theorem m_rights_1 (l : Launch) (D : va_G) (cI cZ : ClassId) (ad : Nat → Nat) (A : Nat → Prop) (F : Nat → Nat → Int32) (ow : Nat → Int32) (mp : Nat → Int32) (nm : Int32) (gb : Int32) (ob : Int32) (ik : Nat → Int32) (kp : Nat → Int32) (tu : Nat → Int32) (g : Nat → Int32) (hA : apD 16 A ad) (x0 : Int32) (x1 : Int32)  (hb1 : (inB x0 0 7 && inB x1 0 (g 6 - 1)) = false) : Met l yX5_rights wsX5_rights (rmr 5 119) (va_Pc [.ref (ad 0), .int x0, .int x1] (rdP D ([(cI, .int), (cZ, .boolean)]) (mdW cI cZ ad F ow mp nm gb ob ik kp tu g))) (va_Qi (fun (r : Int32) (_ : Unit) => r = 0) (fun _ t => va_P D vwCl (mdW cI cZ ad F ow mp nm gb ob ik kp tu (va_up g 19 1)) t.heap) A) 0 0 A := by
  refine Met.ofW (cc := cX5_rights) (maxL := 3) (ret := (some .int)) (by decide) rfl ?_
  intro p e s m args below meth c s₁ B hml hv
  obtain ⟨hargs, hP, hK, hN⟩ := hv
  have hx := B.exec
  have hb := B.bytes
  have hr := B.returns
  have hts := atoms_spec (ws := wsX5_rights) B.pre
  have hown : s.vm.findClass RX5 = some m.cls := findClass_of_methodNamed B.named
  have hlocks := B.notSynchronized
  have hen : entryFrame m args 3 = entryFrame m ([.ref (ad 0), .int x0, .int x1] : List Value).toArray 3 := by rw [hargs]
  rw [hen]
  have hl := lv_entry ([.ref (ad 0), .int x0, .int x1]) (n := 3) (Nat.le_of_ble_eq_true rfl)
  rw [lg_entry_eq]
  generalize (lg_sl ([.ref (ad 0), .int x0, .int x1]) ++ List.replicate (3 - (lg_sl ([.ref (ad 0), .int x0, .int x1])).length) Slot.unset).toArray = ls at hl ⊢
  have hl : lv_has ls 3 [(0, .ref (ad 0)), (1, .int x0), (2, .int x1)] := hl
  have hS : va_S A s.heap s.heap [] := va_S.rf
  generalize hQ : MQ below (va_Qi (fun (r : Int32) (_ : Unit) => r = 0) (fun _ t => va_P D vwCl (mdW cI cZ ad F ow mp nm gb ob ik kp tu (va_up g 19 1)) t.heap) A) args s 0 0 A = Q
  have go : ∀ (H : Heap) (locs : List Loc), va_P D vwCl (mdW cI cZ ad F ow mp nm gb ob ik kp tu g) H → va_S A s.heap H locs → W p l e (headSpec wsX5_rights (rmr 5 119)).room s m args below meth c H locs 0 0 Q (F0 m 0 ls []) := by
    intro H locs hP hS
    refine lv_aload_n hx hb dX5_rights_0 rfl (lv_at hl 0 rfl) ?_
    refine lv_iload_n hx hb dX5_rights_1 rfl (lv_at hl 1 rfl) ?_
    refine vp_callSi (W.runS (As := [.int x0]) (rest := [.ref (ad 0)]) ⟨hx, hb, hml, hown, hts⟩ (k_X5_isPerson l x0) (va_cwS 1 hts gX5_rights_X5_isPerson rfl rfl rfl (by decide +kernel) ⟨Nat.le_of_ble_eq_true rfl, Nat.le_of_ble_eq_true rfl⟩) ⟨nf_blind, fun U hU hW => ⟨rfl, trivial⟩⟩ rfl rfl hl.1 rfl (lv_room (Nat.le_of_ble_eq_true rfl)) dX5_rights_2 ⟨Nat.le_of_ble_eq_true rfl, Nat.le_of_ble_eq_true rfl⟩) (fun r er => ?_)
    subst er
    have J_21 : ∀ (H : Heap) (locs : List Loc), va_P D vwCl (mdW cI cZ ad F ow mp nm gb ob ik kp tu g) H → va_S A s.heap H locs → ∀ ls : Array Slot, lv_has ls 3 [(0, .ref (ad 0)), (1, .int x0), (2, .int x1)] → W p l e (headSpec wsX5_rights (rmr 5 119)).room s m args below meth c H locs 0 0 Q (F0 m 21 ls [.int 1, .ref (ad 0)]) := by
      intro  H locs hP hS ls hl
      refine va_calli (va_runV (As := [.int 1]) (rest := []) ⟨hx, hb, hml, hown, hts⟩ (k_X5_isFine l D cI cZ ad A F ow mp nm gb ob ik kp tu g hA 1) (cwV 1 hts gX5_rights_X5_isFine rfl rfl rfl (by decide +kernel) ⟨Nat.le_of_ble_eq_true rfl, Nat.le_of_ble_eq_true rfl⟩) ⟨rd_blind, va_recv hK hP (ci := 6) (q0 := 0) rfl rfl, rd_pre hP hK hN⟩ rfl rfl hl.1 rfl (lv_room (Nat.le_of_ble_eq_true rfl)) dX5_rights_21 ⟨Nat.le_of_ble_eq_true rfl, Nat.le_of_ble_eq_true rfl⟩) hS (fun q _ h => h) (fun q h => h) (fun r u t H locs ht hvm hw hB hz1 hk1 hS => ?_)
      have hP := hB
      rw [ht] at hP
      subst hw
      have hP : va_P D vwCl (mdW cI cZ ad F ow mp nm gb ob ik kp tu (va_up g 19 1)) H := hP
      refine top_eq (y := b2i false) (by decide) ?_
      refine lv_if_eq (tgt := 36) hx hb dX5_rights_24 (by decide) (fun c_24 => ?_) (fun c_24 => absurd rfl c_24)
      refine lv_iconst (v := 0) hx hb dX5_rights_36 (by decide) ?_
      subst hQ
      have hP : va_P D vwCl (mdW cI cZ ad F ow mp nm gb ob ik kp tu (va_up g 19 1)) H := hP
      exact W.iret (v := 0) hx hb hr (fun t ht _ => ⟨⟨_, (), rfl, (by rfl), by have e := hP; rw [← ht] at e; exact e⟩, hS.F ht⟩) hS.2.2 dX5_rights_37
    refine lv_if_eq (tgt := 20) hx hb dX5_rights_5 (by decide) (fun c_5 => ?_) (fun c_5 => ?_)
    ·
      have c_5 := b2i_0 c_5
      refine lv_iconst (v := 1) hx hb dX5_rights_20 (by decide) ?_
      exact J_21 _ _ hP hS ls (lv_sub hl [0, 1, 2] rfl)
    ·
      have c_5 := b2i_1 c_5
      refine lv_aload_n hx hb dX5_rights_8 rfl (lv_at hl 0 rfl) ?_
      refine lv_iload_n hx hb dX5_rights_9 rfl (lv_at hl 2 rfl) ?_
      refine vp_callSi (W.runV (As := [.int x1]) (rest := [.ref (ad 0)]) ⟨hx, hb, hml, hown, hts⟩ (k_X5_isFolder l D cI cZ ad F ow mp nm gb ob ik kp tu g x1) (cwV 1 hts gX5_rights_X5_isFolder rfl rfl rfl (by decide +kernel) ⟨Nat.le_of_ble_eq_true rfl, Nat.le_of_ble_eq_true rfl⟩) ⟨rd_blind, va_recv hK hP (ci := 6) (q0 := 0) rfl rfl, rd_pre hP hK hN⟩ rfl rfl hl.1 rfl (lv_room (Nat.le_of_ble_eq_true rfl)) dX5_rights_10 ⟨Nat.le_of_ble_eq_true rfl, Nat.le_of_ble_eq_true rfl⟩) (fun r er => ?_)
      subst er
      refine lv_if_eq (tgt := 20) hx hb dX5_rights_13 (by decide) (fun c_13 => ?_) (fun c_13 => ?_)
      ·
        have c_13 := b2i_0 c_13
        refine lv_iconst (v := 1) hx hb dX5_rights_20 (by decide) ?_
        exact J_21 _ _ hP hS ls (lv_sub hl [0, 1, 2] rfl)
      ·
        have c_13 := b2i_1 c_13
        exact absurd (B2f hb1 c_5 c_13) id
  exact go _ _ hP hS

set_option maxHeartbeats 800000 in
set_option maxRecDepth 100000 in
theorem m_rightsBackwards_1 (l : Launch) (D : va_G) (cI cZ : ClassId) (ad : Nat → Nat) (A : Nat → Prop) (F : Nat → Nat → Int32) (ow : Nat → Int32) (mp : Nat → Int32) (nm : Int32) (gb : Int32) (ob : Int32) (ik : Nat → Int32) (kp : Nat → Int32) (tu : Nat → Int32) (g : Nat → Int32) (hA : apD 16 A ad) (x0 : Int32) (x1 : Int32)  (hb1 : (inB x0 0 7 && inB x1 0 (g 6 - 1)) = false) : Met l yX5_rightsBackwards wsX5_rightsBackwards (rmr 6 141) (va_Pc [.ref (ad 0), .int x0, .int x1] (rdP D ([(cI, .int), (cZ, .boolean)]) (mdW cI cZ ad F ow mp nm gb ob ik kp tu g))) (va_Qi (fun (r : Int32) (_ : Unit) => r = 0) (fun _ t => va_P D vwCl (mdW cI cZ ad F ow mp nm gb ob ik kp tu (va_up g 19 1)) t.heap) A) 0 0 A := by
  refine Met.ofW (cc := cX5_rightsBackwards) (maxL := 3) (ret := (some .int)) (by decide) rfl ?_
  intro p e s m args below meth c s₁ B hml hv
  obtain ⟨hargs, hP, hK, hN⟩ := hv
  have hx := B.exec
  have hb := B.bytes
  have hr := B.returns
  have hts := atoms_spec (ws := wsX5_rightsBackwards) B.pre
  have hown : s.vm.findClass RX5 = some m.cls := findClass_of_methodNamed B.named
  have hlocks := B.notSynchronized
  have hen : entryFrame m args 3 = entryFrame m ([.ref (ad 0), .int x0, .int x1] : List Value).toArray 3 := by rw [hargs]
  rw [hen]
  have hl := lv_entry ([.ref (ad 0), .int x0, .int x1]) (n := 3) (Nat.le_of_ble_eq_true rfl)
  rw [lg_entry_eq]
  generalize (lg_sl ([.ref (ad 0), .int x0, .int x1]) ++ List.replicate (3 - (lg_sl ([.ref (ad 0), .int x0, .int x1])).length) Slot.unset).toArray = ls at hl ⊢
  have hl : lv_has ls 3 [(0, .ref (ad 0)), (1, .int x0), (2, .int x1)] := hl
  have hS : va_S A s.heap s.heap [] := va_S.rf
  generalize hQ : MQ below (va_Qi (fun (r : Int32) (_ : Unit) => r = 0) (fun _ t => va_P D vwCl (mdW cI cZ ad F ow mp nm gb ob ik kp tu (va_up g 19 1)) t.heap) A) args s 0 0 A = Q
  have go : ∀ (H : Heap) (locs : List Loc), va_P D vwCl (mdW cI cZ ad F ow mp nm gb ob ik kp tu g) H → va_S A s.heap H locs → W p l e (headSpec wsX5_rightsBackwards (rmr 6 141)).room s m args below meth c H locs 0 0 Q (F0 m 0 ls []) := by
    intro H locs hP hS
    refine lv_aload_n hx hb dX5_rightsBackwards_0 rfl (lv_at hl 0 rfl) ?_
    refine lv_iload_n hx hb dX5_rightsBackwards_1 rfl (lv_at hl 1 rfl) ?_
    refine lv_iload_n hx hb dX5_rightsBackwards_2 rfl (lv_at hl 2 rfl) ?_
    refine va_calli (va_runV (As := [.int x0, .int x1]) (rest := []) ⟨hx, hb, hml, hown, hts⟩ (m_rights_1 l D cI cZ ad A F ow mp nm gb ob ik kp tu g hA x0 x1 hb1) (cwV 2 hts gX5_rightsBackwards_X5_rights rfl rfl rfl (by decide +kernel) ⟨Nat.le_of_ble_eq_true rfl, Nat.le_of_ble_eq_true rfl⟩) ⟨rd_blind, va_recv hK hP (ci := 6) (q0 := 0) rfl rfl, rd_pre hP hK hN⟩ rfl rfl hl.1 rfl (lv_room (Nat.le_of_ble_eq_true rfl)) dX5_rightsBackwards_3 ⟨Nat.le_of_ble_eq_true rfl, Nat.le_of_ble_eq_true rfl⟩) hS (fun q _ h => h) (fun q h => h) (fun r u t H locs ht hvm hw hB hz1 hk1 hS => ?_)
    have hP := hB
    rw [ht] at hP
    subst hw
    have hP : va_P D vwCl (mdW cI cZ ad F ow mp nm gb ob ik kp tu (va_up g 19 1)) H := hP
    subst hQ
    have hP : va_P D vwCl (mdW cI cZ ad F ow mp nm gb ob ik kp tu (va_up g 19 1)) H := hP
    exact W.iret (v := 0) hx hb hr (fun t ht _ => ⟨⟨_, (), rfl, (by rfl), by have e := hP; rw [← ht] at e; exact e⟩, hS.F ht⟩) hS.2.2 dX5_rightsBackwards_6
  exact go _ _ hP hS

set_option maxHeartbeats 800000 in
set_option maxRecDepth 100000 in
theorem m_groupOf (l : Launch) (D : va_G) (cI cZ : ClassId) (ad : Nat → Nat) (A : Nat → Prop) (F : Nat → Nat → Int32) (ow : Nat → Int32) (mp : Nat → Int32) (nm : Int32) (gb : Int32) (ob : Int32) (ik : Nat → Int32) (kp : Nat → Int32) (tu : Nat → Int32) (g : Nat → Int32) (hA : apD 16 A ad) (x : Nat)  (nn : Nat) (hM : okM F g nn) (hxn : x < nn)  : Met l yX5_groupOf wsX5_groupOf (rmr 7 170) (va_Pc [.ref (ad 0), .int (nI x)] (rdP D ([(cI, .int), (cZ, .boolean)]) (mdW cI cZ ad F ow mp nm gb ob ik kp tu g))) (va_Qi (fun (r : Int32) (_ : Unit) => r = mBest F ow x) (fun _ t => va_P D vwCl (mdW cI cZ ad F (mOwn F ow x) (fillA mp (mV F ow x (mBest F ow x)) 8) (mN F ow x (mBest F ow x)) (mGB F ow x (mBest F ow x)) (mOB F ow x (mBest F ow x)) ik kp tu (va_up g 19 0)) t.heap) A) 0 0 A := by
  refine Met.ofW (cc := cX5_groupOf) (maxL := 2) (ret := (some .int)) (by decide) rfl ?_
  intro p e s m args below meth c s₁ B hml hv
  obtain ⟨hargs, hP, hK, hN⟩ := hv
  have hx := B.exec
  have hb := B.bytes
  have hr := B.returns
  have hts := atoms_spec (ws := wsX5_groupOf) B.pre
  have hown : s.vm.findClass RX5 = some m.cls := findClass_of_methodNamed B.named
  have hlocks := B.notSynchronized
  have hen : entryFrame m args 2 = entryFrame m ([.ref (ad 0), .int (nI x)] : List Value).toArray 2 := by rw [hargs]
  rw [hen]
  have hl := lv_entry ([.ref (ad 0), .int (nI x)]) (n := 2) (Nat.le_of_ble_eq_true rfl)
  rw [lg_entry_eq]
  generalize (lg_sl ([.ref (ad 0), .int (nI x)]) ++ List.replicate (2 - (lg_sl ([.ref (ad 0), .int (nI x)])).length) Slot.unset).toArray = ls at hl ⊢
  have hl : lv_has ls 2 [(0, .ref (ad 0)), (1, .int (nI x))] := hl
  have hS : va_S A s.heap s.heap [] := va_S.rf
  generalize hQ : MQ below (va_Qi (fun (r : Int32) (_ : Unit) => r = mBest F ow x) (fun _ t => va_P D vwCl (mdW cI cZ ad F (mOwn F ow x) (fillA mp (mV F ow x (mBest F ow x)) 8) (mN F ow x (mBest F ow x)) (mGB F ow x (mBest F ow x)) (mOB F ow x (mBest F ow x)) ik kp tu (va_up g 19 0)) t.heap) A) args s 0 0 A = Q
  have go : ∀ (H : Heap) (locs : List Loc), va_P D vwCl (mdW cI cZ ad F ow mp nm gb ob ik kp tu g) H → va_S A s.heap H locs → W p l e (headSpec wsX5_groupOf (rmr 7 170)).room s m args below meth c H locs 0 0 Q (F0 m 0 ls []) := by
    intro H locs hP hS
    refine lv_aload_n hx hb dX5_groupOf_0 rfl (lv_at hl 0 rfl) ?_
    refine lv_aload_n hx hb dX5_groupOf_1 rfl (lv_at hl 0 rfl) ?_
    refine lv_iload_n hx hb dX5_groupOf_2 rfl (lv_at hl 1 rfl) ?_
    refine vp_callSi (W.runV (As := [.int (nI x)]) (rest := [.ref (ad 0)]) ⟨hx, hb, hml, hown, hts⟩ (k_X5_isFolder l D cI cZ ad F ow mp nm gb ob ik kp tu g (nI x)) (cwV 1 hts gX5_groupOf_X5_isFolder rfl rfl rfl (by decide +kernel) ⟨Nat.le_of_ble_eq_true rfl, Nat.le_of_ble_eq_true rfl⟩) ⟨rd_blind, va_recv hK hP (ci := 6) (q0 := 0) rfl rfl, rd_pre hP hK hN⟩ rfl rfl hl.1 rfl (lv_room (Nat.le_of_ble_eq_true rfl)) dX5_groupOf_3 ⟨Nat.le_of_ble_eq_true rfl, Nat.le_of_ble_eq_true rfl⟩) (fun r er => ?_)
    subst er
    have J_14 : ∀ (H : Heap) (locs : List Loc), va_P D vwCl (mdW cI cZ ad F ow mp nm gb ob ik kp tu g) H → va_S A s.heap H locs → ∀ ls : Array Slot, lv_has ls 2 [(0, .ref (ad 0)), (1, .int (nI x))] → W p l e (headSpec wsX5_groupOf (rmr 7 170)).room s m args below meth c H locs 0 0 Q (F0 m 14 ls [.int 0, .ref (ad 0)]) := by
      intro  H locs hP hS ls hl
      refine va_calli (va_runV (As := [.int 0]) (rest := []) ⟨hx, hb, hml, hown, hts⟩ (k_X5_isFine l D cI cZ ad A F ow mp nm gb ob ik kp tu g hA 0) (cwV 1 hts gX5_groupOf_X5_isFine rfl rfl rfl (by decide +kernel) ⟨Nat.le_of_ble_eq_true rfl, Nat.le_of_ble_eq_true rfl⟩) ⟨rd_blind, va_recv hK hP (ci := 6) (q0 := 0) rfl rfl, rd_pre hP hK hN⟩ rfl rfl hl.1 rfl (lv_room (Nat.le_of_ble_eq_true rfl)) dX5_groupOf_14 ⟨Nat.le_of_ble_eq_true rfl, Nat.le_of_ble_eq_true rfl⟩) hS (fun q _ h => h) (fun q h => h) (fun r u t H locs ht hvm hw hB hz1 hk1 hS => ?_)
      have hP := hB
      rw [ht] at hP
      subst hw
      have hP : va_P D vwCl (mdW cI cZ ad F ow mp nm gb ob ik kp tu (va_up g 19 0)) H := hP
      refine top_eq (y := b2i true) (by decide) ?_
      refine lv_if_eq (tgt := 28) hx hb dX5_groupOf_17 (by decide) (fun c_17 => absurd c_17 (by decide)) (fun c_17 => ?_)
      refine lv_aload_n hx hb dX5_groupOf_20 rfl (lv_at hl 0 rfl) ?_
      refine lv_iload_n hx hb dX5_groupOf_21 rfl (lv_at hl 1 rfl) ?_
      refine va_calli (va_runV (As := [.int (nI x)]) (rest := []) ⟨hx, hb, hml, hown, hts⟩ (k_X5_mapsBest l D cI cZ ad A F ow mp nm gb ob ik kp tu (va_up g 19 0) hA x nn hM.thr hxn) (cwV 1 hts gX5_groupOf_X5_mapsBest rfl rfl rfl (by decide +kernel) ⟨Nat.le_of_ble_eq_true rfl, Nat.le_of_ble_eq_true rfl⟩) ⟨rd_blind, va_recv hK hP (ci := 6) (q0 := 0) rfl rfl, rd_pre hP hK hN⟩ rfl rfl hl.1 rfl (lv_room (Nat.le_of_ble_eq_true rfl)) dX5_groupOf_22 ⟨Nat.le_of_ble_eq_true rfl, Nat.le_of_ble_eq_true rfl⟩) hS (fun q _ h => h) (fun q h => h) (fun r u t H locs ht hvm hw hB hz1 hk1 hS => ?_)
      have hP := hB
      rw [ht] at hP
      subst hw
      have hP : va_P D vwCl (mdW cI cZ ad F (mOwn F ow x) (fillA mp (mV F ow x (mBest F ow x)) 8) (mN F ow x (mBest F ow x)) (mGB F ow x (mBest F ow x)) (mOB F ow x (mBest F ow x)) ik kp tu (va_up g 19 0)) H := hP
      refine lv_goto (tgt := 29) hx hb dX5_groupOf_25 (by decide) ?_
      subst hQ
      have hP : va_P D vwCl (mdW cI cZ ad F (mOwn F ow x) (fillA mp (mV F ow x (mBest F ow x)) 8) (mN F ow x (mBest F ow x)) (mGB F ow x (mBest F ow x)) (mOB F ow x (mBest F ow x)) ik kp tu (va_up g 19 0)) H := hP
      exact W.iret (v := mBest F ow x) hx hb hr (fun t ht _ => ⟨⟨_, (), rfl, (by rfl), by have e := hP; rw [← ht] at e; exact e⟩, hS.F ht⟩) hS.2.2 dX5_groupOf_29
    refine lv_if_eq (tgt := 13) hx hb dX5_groupOf_6 (by decide) (fun c_6 => ?_) (fun c_6 => ?_)
    ·
      have c_6 := b2i_0 c_6
      exact absurd (inB_f hM hxn) (b2i_bf c_6)
    ·
      have c_6 := b2i_1 c_6
      refine lv_iconst (v := 0) hx hb dX5_groupOf_9 (by decide) ?_
      refine lv_goto (tgt := 14) hx hb dX5_groupOf_10 (by decide) ?_
      exact J_14 _ _ hP hS ls (lv_sub hl [0, 1] rfl)
  exact go _ _ hP hS

set_option maxHeartbeats 800000 in
set_option maxRecDepth 100000 in
theorem m_groupOf_1 (l : Launch) (D : va_G) (cI cZ : ClassId) (ad : Nat → Nat) (A : Nat → Prop) (F : Nat → Nat → Int32) (ow : Nat → Int32) (mp : Nat → Int32) (nm : Int32) (gb : Int32) (ob : Int32) (ik : Nat → Int32) (kp : Nat → Int32) (tu : Nat → Int32) (g : Nat → Int32) (hA : apD 16 A ad) (x0 : Int32)  (hb1 : inB x0 0 (g 6 - 1) = false) : Met l yX5_groupOf wsX5_groupOf (rmr 7 170) (va_Pc [.ref (ad 0), .int x0] (rdP D ([(cI, .int), (cZ, .boolean)]) (mdW cI cZ ad F ow mp nm gb ob ik kp tu g))) (va_Qi (fun (r : Int32) (_ : Unit) => r = 0) (fun _ t => va_P D vwCl (mdW cI cZ ad F ow mp nm gb ob ik kp tu (va_up g 19 1)) t.heap) A) 0 0 A := by
  refine Met.ofW (cc := cX5_groupOf) (maxL := 2) (ret := (some .int)) (by decide) rfl ?_
  intro p e s m args below meth c s₁ B hml hv
  obtain ⟨hargs, hP, hK, hN⟩ := hv
  have hx := B.exec
  have hb := B.bytes
  have hr := B.returns
  have hts := atoms_spec (ws := wsX5_groupOf) B.pre
  have hown : s.vm.findClass RX5 = some m.cls := findClass_of_methodNamed B.named
  have hlocks := B.notSynchronized
  have hen : entryFrame m args 2 = entryFrame m ([.ref (ad 0), .int x0] : List Value).toArray 2 := by rw [hargs]
  rw [hen]
  have hl := lv_entry ([.ref (ad 0), .int x0]) (n := 2) (Nat.le_of_ble_eq_true rfl)
  rw [lg_entry_eq]
  generalize (lg_sl ([.ref (ad 0), .int x0]) ++ List.replicate (2 - (lg_sl ([.ref (ad 0), .int x0])).length) Slot.unset).toArray = ls at hl ⊢
  have hl : lv_has ls 2 [(0, .ref (ad 0)), (1, .int x0)] := hl
  have hS : va_S A s.heap s.heap [] := va_S.rf
  generalize hQ : MQ below (va_Qi (fun (r : Int32) (_ : Unit) => r = 0) (fun _ t => va_P D vwCl (mdW cI cZ ad F ow mp nm gb ob ik kp tu (va_up g 19 1)) t.heap) A) args s 0 0 A = Q
  have go : ∀ (H : Heap) (locs : List Loc), va_P D vwCl (mdW cI cZ ad F ow mp nm gb ob ik kp tu g) H → va_S A s.heap H locs → W p l e (headSpec wsX5_groupOf (rmr 7 170)).room s m args below meth c H locs 0 0 Q (F0 m 0 ls []) := by
    intro H locs hP hS
    refine lv_aload_n hx hb dX5_groupOf_0 rfl (lv_at hl 0 rfl) ?_
    refine lv_aload_n hx hb dX5_groupOf_1 rfl (lv_at hl 0 rfl) ?_
    refine lv_iload_n hx hb dX5_groupOf_2 rfl (lv_at hl 1 rfl) ?_
    refine vp_callSi (W.runV (As := [.int x0]) (rest := [.ref (ad 0)]) ⟨hx, hb, hml, hown, hts⟩ (k_X5_isFolder l D cI cZ ad F ow mp nm gb ob ik kp tu g x0) (cwV 1 hts gX5_groupOf_X5_isFolder rfl rfl rfl (by decide +kernel) ⟨Nat.le_of_ble_eq_true rfl, Nat.le_of_ble_eq_true rfl⟩) ⟨rd_blind, va_recv hK hP (ci := 6) (q0 := 0) rfl rfl, rd_pre hP hK hN⟩ rfl rfl hl.1 rfl (lv_room (Nat.le_of_ble_eq_true rfl)) dX5_groupOf_3 ⟨Nat.le_of_ble_eq_true rfl, Nat.le_of_ble_eq_true rfl⟩) (fun r er => ?_)
    subst er
    have J_14 : ∀ (H : Heap) (locs : List Loc), va_P D vwCl (mdW cI cZ ad F ow mp nm gb ob ik kp tu g) H → va_S A s.heap H locs → ∀ ls : Array Slot, lv_has ls 2 [(0, .ref (ad 0)), (1, .int x0)] → W p l e (headSpec wsX5_groupOf (rmr 7 170)).room s m args below meth c H locs 0 0 Q (F0 m 14 ls [.int 1, .ref (ad 0)]) := by
      intro  H locs hP hS ls hl
      refine va_calli (va_runV (As := [.int 1]) (rest := []) ⟨hx, hb, hml, hown, hts⟩ (k_X5_isFine l D cI cZ ad A F ow mp nm gb ob ik kp tu g hA 1) (cwV 1 hts gX5_groupOf_X5_isFine rfl rfl rfl (by decide +kernel) ⟨Nat.le_of_ble_eq_true rfl, Nat.le_of_ble_eq_true rfl⟩) ⟨rd_blind, va_recv hK hP (ci := 6) (q0 := 0) rfl rfl, rd_pre hP hK hN⟩ rfl rfl hl.1 rfl (lv_room (Nat.le_of_ble_eq_true rfl)) dX5_groupOf_14 ⟨Nat.le_of_ble_eq_true rfl, Nat.le_of_ble_eq_true rfl⟩) hS (fun q _ h => h) (fun q h => h) (fun r u t H locs ht hvm hw hB hz1 hk1 hS => ?_)
      have hP := hB
      rw [ht] at hP
      subst hw
      have hP : va_P D vwCl (mdW cI cZ ad F ow mp nm gb ob ik kp tu (va_up g 19 1)) H := hP
      refine top_eq (y := b2i false) (by decide) ?_
      refine lv_if_eq (tgt := 28) hx hb dX5_groupOf_17 (by decide) (fun c_17 => ?_) (fun c_17 => absurd rfl c_17)
      refine lv_iconst (v := 0) hx hb dX5_groupOf_28 (by decide) ?_
      subst hQ
      have hP : va_P D vwCl (mdW cI cZ ad F ow mp nm gb ob ik kp tu (va_up g 19 1)) H := hP
      exact W.iret (v := 0) hx hb hr (fun t ht _ => ⟨⟨_, (), rfl, (by rfl), by have e := hP; rw [← ht] at e; exact e⟩, hS.F ht⟩) hS.2.2 dX5_groupOf_29
    refine lv_if_eq (tgt := 13) hx hb dX5_groupOf_6 (by decide) (fun c_6 => ?_) (fun c_6 => ?_)
    ·
      have c_6 := b2i_0 c_6
      refine lv_iconst (v := 1) hx hb dX5_groupOf_13 (by decide) ?_
      exact J_14 _ _ hP hS ls (lv_sub hl [0, 1] rfl)
    ·
      have c_6 := b2i_1 c_6
      exact absurd c_6 (b2i_bf hb1)
  exact go _ _ hP hS

set_option maxHeartbeats 800000 in
set_option maxRecDepth 100000 in
theorem m_bits (l : Launch) (D : va_G) (cI cZ : ClassId) (ad : Nat → Nat) (A : Nat → Prop) (F : Nat → Nat → Int32) (ow : Nat → Int32) (mp : Nat → Int32) (nm : Int32) (gb : Int32) (ob : Int32) (ik : Nat → Int32) (kp : Nat → Int32) (tu : Nat → Int32) (g : Nat → Int32) (hA : apD 16 A ad) (x : Nat)  (nn : Nat) (hM : okM F g nn) (hxn : x < nn)  : Met l yX5_bits wsX5_bits (rmr 7 170) (va_Pc [.ref (ad 0), .int (nI x)] (rdP D ([(cI, .int), (cZ, .boolean)]) (mdW cI cZ ad F ow mp nm gb ob ik kp tu g))) (va_Qi (fun (r : Int32) (_ : Unit) => r = 10 * mGB F ow x (mBest F ow x) + mOB F ow x (mBest F ow x)) (fun _ t => va_P D vwCl (mdW cI cZ ad F (mOwn F ow x) (fillA mp (mV F ow x (mBest F ow x)) 8) (mN F ow x (mBest F ow x)) (mGB F ow x (mBest F ow x)) (mOB F ow x (mBest F ow x)) ik kp tu (va_up g 19 0)) t.heap) A) 0 0 A := by
  refine Met.ofW (cc := cX5_bits) (maxL := 2) (ret := (some .int)) (by decide) rfl ?_
  intro p e s m args below meth c s₁ B hml hv
  obtain ⟨hargs, hP, hK, hN⟩ := hv
  have hx := B.exec
  have hb := B.bytes
  have hr := B.returns
  have hts := atoms_spec (ws := wsX5_bits) B.pre
  have hown : s.vm.findClass RX5 = some m.cls := findClass_of_methodNamed B.named
  have hlocks := B.notSynchronized
  have hen : entryFrame m args 2 = entryFrame m ([.ref (ad 0), .int (nI x)] : List Value).toArray 2 := by rw [hargs]
  rw [hen]
  have hl := lv_entry ([.ref (ad 0), .int (nI x)]) (n := 2) (Nat.le_of_ble_eq_true rfl)
  rw [lg_entry_eq]
  generalize (lg_sl ([.ref (ad 0), .int (nI x)]) ++ List.replicate (2 - (lg_sl ([.ref (ad 0), .int (nI x)])).length) Slot.unset).toArray = ls at hl ⊢
  have hl : lv_has ls 2 [(0, .ref (ad 0)), (1, .int (nI x))] := hl
  have hS : va_S A s.heap s.heap [] := va_S.rf
  generalize hQ : MQ below (va_Qi (fun (r : Int32) (_ : Unit) => r = 10 * mGB F ow x (mBest F ow x) + mOB F ow x (mBest F ow x)) (fun _ t => va_P D vwCl (mdW cI cZ ad F (mOwn F ow x) (fillA mp (mV F ow x (mBest F ow x)) 8) (mN F ow x (mBest F ow x)) (mGB F ow x (mBest F ow x)) (mOB F ow x (mBest F ow x)) ik kp tu (va_up g 19 0)) t.heap) A) args s 0 0 A = Q
  have go : ∀ (H : Heap) (locs : List Loc), va_P D vwCl (mdW cI cZ ad F ow mp nm gb ob ik kp tu g) H → va_S A s.heap H locs → W p l e (headSpec wsX5_bits (rmr 7 170)).room s m args below meth c H locs 0 0 Q (F0 m 0 ls []) := by
    intro H locs hP hS
    refine lv_aload_n hx hb dX5_bits_0 rfl (lv_at hl 0 rfl) ?_
    refine lv_aload_n hx hb dX5_bits_1 rfl (lv_at hl 0 rfl) ?_
    refine lv_iload_n hx hb dX5_bits_2 rfl (lv_at hl 1 rfl) ?_
    refine vp_callSi (W.runV (As := [.int (nI x)]) (rest := [.ref (ad 0)]) ⟨hx, hb, hml, hown, hts⟩ (k_X5_isFolder l D cI cZ ad F ow mp nm gb ob ik kp tu g (nI x)) (cwV 1 hts gX5_bits_X5_isFolder rfl rfl rfl (by decide +kernel) ⟨Nat.le_of_ble_eq_true rfl, Nat.le_of_ble_eq_true rfl⟩) ⟨rd_blind, va_recv hK hP (ci := 6) (q0 := 0) rfl rfl, rd_pre hP hK hN⟩ rfl rfl hl.1 rfl (lv_room (Nat.le_of_ble_eq_true rfl)) dX5_bits_3 ⟨Nat.le_of_ble_eq_true rfl, Nat.le_of_ble_eq_true rfl⟩) (fun r er => ?_)
    subst er
    have J_14 : ∀ (H : Heap) (locs : List Loc), va_P D vwCl (mdW cI cZ ad F ow mp nm gb ob ik kp tu g) H → va_S A s.heap H locs → ∀ ls : Array Slot, lv_has ls 2 [(0, .ref (ad 0)), (1, .int (nI x))] → W p l e (headSpec wsX5_bits (rmr 7 170)).room s m args below meth c H locs 0 0 Q (F0 m 14 ls [.int 0, .ref (ad 0)]) := by
      intro  H locs hP hS ls hl
      refine va_calli (va_runV (As := [.int 0]) (rest := []) ⟨hx, hb, hml, hown, hts⟩ (k_X5_isFine l D cI cZ ad A F ow mp nm gb ob ik kp tu g hA 0) (cwV 1 hts gX5_bits_X5_isFine rfl rfl rfl (by decide +kernel) ⟨Nat.le_of_ble_eq_true rfl, Nat.le_of_ble_eq_true rfl⟩) ⟨rd_blind, va_recv hK hP (ci := 6) (q0 := 0) rfl rfl, rd_pre hP hK hN⟩ rfl rfl hl.1 rfl (lv_room (Nat.le_of_ble_eq_true rfl)) dX5_bits_14 ⟨Nat.le_of_ble_eq_true rfl, Nat.le_of_ble_eq_true rfl⟩) hS (fun q _ h => h) (fun q h => h) (fun r u t H locs ht hvm hw hB hz1 hk1 hS => ?_)
      have hP := hB
      rw [ht] at hP
      subst hw
      have hP : va_P D vwCl (mdW cI cZ ad F ow mp nm gb ob ik kp tu (va_up g 19 0)) H := hP
      refine top_eq (y := b2i true) (by decide) ?_
      refine lv_if_ne (tgt := 22) hx hb dX5_bits_17 (by decide) (fun c_17 => ?_) (fun c_17 => absurd c_17 (by decide))
      refine lv_aload_n hx hb dX5_bits_22 rfl (lv_at hl 0 rfl) ?_
      refine lv_iload_n hx hb dX5_bits_23 rfl (lv_at hl 1 rfl) ?_
      refine va_calli (va_runV (As := [.int (nI x)]) (rest := []) ⟨hx, hb, hml, hown, hts⟩ (k_X5_mapsBest l D cI cZ ad A F ow mp nm gb ob ik kp tu (va_up g 19 0) hA x nn hM.thr hxn) (cwV 1 hts gX5_bits_X5_mapsBest rfl rfl rfl (by decide +kernel) ⟨Nat.le_of_ble_eq_true rfl, Nat.le_of_ble_eq_true rfl⟩) ⟨rd_blind, va_recv hK hP (ci := 6) (q0 := 0) rfl rfl, rd_pre hP hK hN⟩ rfl rfl hl.1 rfl (lv_room (Nat.le_of_ble_eq_true rfl)) dX5_bits_24 ⟨Nat.le_of_ble_eq_true rfl, Nat.le_of_ble_eq_true rfl⟩) hS (fun q _ h => h) (fun q h => h) (fun r u t H locs ht hvm hw hB hz1 hk1 hS => ?_)
      have hP := hB
      rw [ht] at hP
      subst hw
      have hP : va_P D vwCl (mdW cI cZ ad F (mOwn F ow x) (fillA mp (mV F ow x (mBest F ow x)) 8) (mN F ow x (mBest F ow x)) (mGB F ow x (mBest F ow x)) (mOB F ow x (mBest F ow x)) ik kp tu (va_up g 19 0)) H := hP
      refine lv_pop hx hb dX5_bits_27 rfl ?_
      refine lv_bipush (v := 10) hx hb dX5_bits_28 (by decide) ?_
      refine lv_aload_n hx hb dX5_bits_30 rfl (lv_at hl 0 rfl) ?_
      refine va_get (D := D) (ci := 6) (v := .int (mGB F ow x (mBest F ow x))) (C := RX5) (T := TX5) (N := 20) hx hb hts (fun _ h => List.mem_cons_of_mem _ (List.mem_append_right _ (h))) hown hK hP 0 rfl rfl 14 (by decide) (hts _ (List.mem_of_getElem? (i := 1) rfl)) (fun _ h9 => h9) rfl dX5_bits_31 ?_
      refine lv_imul hx hb dX5_bits_34 ?_
      refine lv_aload_n hx hb dX5_bits_35 rfl (lv_at hl 0 rfl) ?_
      refine va_get (D := D) (ci := 6) (v := .int (mOB F ow x (mBest F ow x))) (C := RX5) (T := TX5) (N := 20) hx hb hts (fun _ h => List.mem_cons_of_mem _ (List.mem_append_right _ (h))) hown hK hP 0 rfl rfl 15 (by decide) (hts _ (List.mem_of_getElem? (i := 2) rfl)) (fun _ h9 => h9) rfl dX5_bits_36 ?_
      refine lv_iadd hx hb dX5_bits_39 ?_
      subst hQ
      have hP : va_P D vwCl (mdW cI cZ ad F (mOwn F ow x) (fillA mp (mV F ow x (mBest F ow x)) 8) (mN F ow x (mBest F ow x)) (mGB F ow x (mBest F ow x)) (mOB F ow x (mBest F ow x)) ik kp tu (va_up g 19 0)) H := hP
      exact W.iret (v := (10 * (mGB F ow x (mBest F ow x))) + (mOB F ow x (mBest F ow x))) hx hb hr (fun t ht _ => ⟨⟨_, (), rfl, (by rfl), by have e := hP; rw [← ht] at e; exact e⟩, hS.F ht⟩) hS.2.2 dX5_bits_40
    refine lv_if_eq (tgt := 13) hx hb dX5_bits_6 (by decide) (fun c_6 => ?_) (fun c_6 => ?_)
    ·
      have c_6 := b2i_0 c_6
      exact absurd (inB_f hM hxn) (b2i_bf c_6)
    ·
      have c_6 := b2i_1 c_6
      refine lv_iconst (v := 0) hx hb dX5_bits_9 (by decide) ?_
      refine lv_goto (tgt := 14) hx hb dX5_bits_10 (by decide) ?_
      exact J_14 _ _ hP hS ls (lv_sub hl [0, 1] rfl)
  exact go _ _ hP hS

set_option maxHeartbeats 800000 in
set_option maxRecDepth 100000 in
theorem m_bits_1 (l : Launch) (D : va_G) (cI cZ : ClassId) (ad : Nat → Nat) (A : Nat → Prop) (F : Nat → Nat → Int32) (ow : Nat → Int32) (mp : Nat → Int32) (nm : Int32) (gb : Int32) (ob : Int32) (ik : Nat → Int32) (kp : Nat → Int32) (tu : Nat → Int32) (g : Nat → Int32) (hA : apD 16 A ad) (x0 : Int32)  (hb1 : inB x0 0 (g 6 - 1) = false) : Met l yX5_bits wsX5_bits (rmr 7 170) (va_Pc [.ref (ad 0), .int x0] (rdP D ([(cI, .int), (cZ, .boolean)]) (mdW cI cZ ad F ow mp nm gb ob ik kp tu g))) (va_Qi (fun (r : Int32) (_ : Unit) => r = 0) (fun _ t => va_P D vwCl (mdW cI cZ ad F ow mp nm gb ob ik kp tu (va_up g 19 1)) t.heap) A) 0 0 A := by
  refine Met.ofW (cc := cX5_bits) (maxL := 2) (ret := (some .int)) (by decide) rfl ?_
  intro p e s m args below meth c s₁ B hml hv
  obtain ⟨hargs, hP, hK, hN⟩ := hv
  have hx := B.exec
  have hb := B.bytes
  have hr := B.returns
  have hts := atoms_spec (ws := wsX5_bits) B.pre
  have hown : s.vm.findClass RX5 = some m.cls := findClass_of_methodNamed B.named
  have hlocks := B.notSynchronized
  have hen : entryFrame m args 2 = entryFrame m ([.ref (ad 0), .int x0] : List Value).toArray 2 := by rw [hargs]
  rw [hen]
  have hl := lv_entry ([.ref (ad 0), .int x0]) (n := 2) (Nat.le_of_ble_eq_true rfl)
  rw [lg_entry_eq]
  generalize (lg_sl ([.ref (ad 0), .int x0]) ++ List.replicate (2 - (lg_sl ([.ref (ad 0), .int x0])).length) Slot.unset).toArray = ls at hl ⊢
  have hl : lv_has ls 2 [(0, .ref (ad 0)), (1, .int x0)] := hl
  have hS : va_S A s.heap s.heap [] := va_S.rf
  generalize hQ : MQ below (va_Qi (fun (r : Int32) (_ : Unit) => r = 0) (fun _ t => va_P D vwCl (mdW cI cZ ad F ow mp nm gb ob ik kp tu (va_up g 19 1)) t.heap) A) args s 0 0 A = Q
  have go : ∀ (H : Heap) (locs : List Loc), va_P D vwCl (mdW cI cZ ad F ow mp nm gb ob ik kp tu g) H → va_S A s.heap H locs → W p l e (headSpec wsX5_bits (rmr 7 170)).room s m args below meth c H locs 0 0 Q (F0 m 0 ls []) := by
    intro H locs hP hS
    refine lv_aload_n hx hb dX5_bits_0 rfl (lv_at hl 0 rfl) ?_
    refine lv_aload_n hx hb dX5_bits_1 rfl (lv_at hl 0 rfl) ?_
    refine lv_iload_n hx hb dX5_bits_2 rfl (lv_at hl 1 rfl) ?_
    refine vp_callSi (W.runV (As := [.int x0]) (rest := [.ref (ad 0)]) ⟨hx, hb, hml, hown, hts⟩ (k_X5_isFolder l D cI cZ ad F ow mp nm gb ob ik kp tu g x0) (cwV 1 hts gX5_bits_X5_isFolder rfl rfl rfl (by decide +kernel) ⟨Nat.le_of_ble_eq_true rfl, Nat.le_of_ble_eq_true rfl⟩) ⟨rd_blind, va_recv hK hP (ci := 6) (q0 := 0) rfl rfl, rd_pre hP hK hN⟩ rfl rfl hl.1 rfl (lv_room (Nat.le_of_ble_eq_true rfl)) dX5_bits_3 ⟨Nat.le_of_ble_eq_true rfl, Nat.le_of_ble_eq_true rfl⟩) (fun r er => ?_)
    subst er
    have J_14 : ∀ (H : Heap) (locs : List Loc), va_P D vwCl (mdW cI cZ ad F ow mp nm gb ob ik kp tu g) H → va_S A s.heap H locs → ∀ ls : Array Slot, lv_has ls 2 [(0, .ref (ad 0)), (1, .int x0)] → W p l e (headSpec wsX5_bits (rmr 7 170)).room s m args below meth c H locs 0 0 Q (F0 m 14 ls [.int 1, .ref (ad 0)]) := by
      intro  H locs hP hS ls hl
      refine va_calli (va_runV (As := [.int 1]) (rest := []) ⟨hx, hb, hml, hown, hts⟩ (k_X5_isFine l D cI cZ ad A F ow mp nm gb ob ik kp tu g hA 1) (cwV 1 hts gX5_bits_X5_isFine rfl rfl rfl (by decide +kernel) ⟨Nat.le_of_ble_eq_true rfl, Nat.le_of_ble_eq_true rfl⟩) ⟨rd_blind, va_recv hK hP (ci := 6) (q0 := 0) rfl rfl, rd_pre hP hK hN⟩ rfl rfl hl.1 rfl (lv_room (Nat.le_of_ble_eq_true rfl)) dX5_bits_14 ⟨Nat.le_of_ble_eq_true rfl, Nat.le_of_ble_eq_true rfl⟩) hS (fun q _ h => h) (fun q h => h) (fun r u t H locs ht hvm hw hB hz1 hk1 hS => ?_)
      have hP := hB
      rw [ht] at hP
      subst hw
      have hP : va_P D vwCl (mdW cI cZ ad F ow mp nm gb ob ik kp tu (va_up g 19 1)) H := hP
      refine top_eq (y := b2i false) (by decide) ?_
      refine lv_if_ne (tgt := 22) hx hb dX5_bits_17 (by decide) (fun c_17 => absurd rfl c_17) (fun c_17 => ?_)
      refine lv_iconst (v := 0) hx hb dX5_bits_20 (by decide) ?_
      subst hQ
      have hP : va_P D vwCl (mdW cI cZ ad F ow mp nm gb ob ik kp tu (va_up g 19 1)) H := hP
      exact W.iret (v := 0) hx hb hr (fun t ht _ => ⟨⟨_, (), rfl, (by rfl), by have e := hP; rw [← ht] at e; exact e⟩, hS.F ht⟩) hS.2.2 dX5_bits_21
    refine lv_if_eq (tgt := 13) hx hb dX5_bits_6 (by decide) (fun c_6 => ?_) (fun c_6 => ?_)
    ·
      have c_6 := b2i_0 c_6
      refine lv_iconst (v := 1) hx hb dX5_bits_13 (by decide) ?_
      exact J_14 _ _ hP hS ls (lv_sub hl [0, 1] rfl)
    ·
      have c_6 := b2i_1 c_6
      exact absurd c_6 (b2i_bf hb1)
  exact go _ _ hP hS

set_option maxHeartbeats 800000 in
set_option maxRecDepth 100000 in
theorem m_named (l : Launch) (D : va_G) (cI cZ : ClassId) (ad : Nat → Nat) (A : Nat → Prop) (F : Nat → Nat → Int32) (ow : Nat → Int32) (mp : Nat → Int32) (nm : Int32) (gb : Int32) (ob : Int32) (ik : Nat → Int32) (kp : Nat → Int32) (tu : Nat → Int32) (g : Nat → Int32) (hA : apD 16 A ad) (x : Nat)  (nn : Nat) (hM : okM F g nn) (hxn : x < nn)  : Met l yX5_named wsX5_named (rmr 7 170) (va_Pc [.ref (ad 0), .int (nI x)] (rdP D ([(cI, .int), (cZ, .boolean)]) (mdW cI cZ ad F ow mp nm gb ob ik kp tu g))) (va_Qi (fun (r : Int32) (_ : Unit) => r = mN F ow x (mBest F ow x)) (fun _ t => va_P D vwCl (mdW cI cZ ad F (mOwn F ow x) (fillA mp (mV F ow x (mBest F ow x)) 8) (mN F ow x (mBest F ow x)) (mGB F ow x (mBest F ow x)) (mOB F ow x (mBest F ow x)) ik kp tu (va_up g 19 0)) t.heap) A) 0 0 A := by
  refine Met.ofW (cc := cX5_named) (maxL := 2) (ret := (some .int)) (by decide) rfl ?_
  intro p e s m args below meth c s₁ B hml hv
  obtain ⟨hargs, hP, hK, hN⟩ := hv
  have hx := B.exec
  have hb := B.bytes
  have hr := B.returns
  have hts := atoms_spec (ws := wsX5_named) B.pre
  have hown : s.vm.findClass RX5 = some m.cls := findClass_of_methodNamed B.named
  have hlocks := B.notSynchronized
  have hen : entryFrame m args 2 = entryFrame m ([.ref (ad 0), .int (nI x)] : List Value).toArray 2 := by rw [hargs]
  rw [hen]
  have hl := lv_entry ([.ref (ad 0), .int (nI x)]) (n := 2) (Nat.le_of_ble_eq_true rfl)
  rw [lg_entry_eq]
  generalize (lg_sl ([.ref (ad 0), .int (nI x)]) ++ List.replicate (2 - (lg_sl ([.ref (ad 0), .int (nI x)])).length) Slot.unset).toArray = ls at hl ⊢
  have hl : lv_has ls 2 [(0, .ref (ad 0)), (1, .int (nI x))] := hl
  have hS : va_S A s.heap s.heap [] := va_S.rf
  generalize hQ : MQ below (va_Qi (fun (r : Int32) (_ : Unit) => r = mN F ow x (mBest F ow x)) (fun _ t => va_P D vwCl (mdW cI cZ ad F (mOwn F ow x) (fillA mp (mV F ow x (mBest F ow x)) 8) (mN F ow x (mBest F ow x)) (mGB F ow x (mBest F ow x)) (mOB F ow x (mBest F ow x)) ik kp tu (va_up g 19 0)) t.heap) A) args s 0 0 A = Q
  have go : ∀ (H : Heap) (locs : List Loc), va_P D vwCl (mdW cI cZ ad F ow mp nm gb ob ik kp tu g) H → va_S A s.heap H locs → W p l e (headSpec wsX5_named (rmr 7 170)).room s m args below meth c H locs 0 0 Q (F0 m 0 ls []) := by
    intro H locs hP hS
    refine lv_aload_n hx hb dX5_named_0 rfl (lv_at hl 0 rfl) ?_
    refine lv_aload_n hx hb dX5_named_1 rfl (lv_at hl 0 rfl) ?_
    refine lv_iload_n hx hb dX5_named_2 rfl (lv_at hl 1 rfl) ?_
    refine vp_callSi (W.runV (As := [.int (nI x)]) (rest := [.ref (ad 0)]) ⟨hx, hb, hml, hown, hts⟩ (k_X5_isFolder l D cI cZ ad F ow mp nm gb ob ik kp tu g (nI x)) (cwV 1 hts gX5_named_X5_isFolder rfl rfl rfl (by decide +kernel) ⟨Nat.le_of_ble_eq_true rfl, Nat.le_of_ble_eq_true rfl⟩) ⟨rd_blind, va_recv hK hP (ci := 6) (q0 := 0) rfl rfl, rd_pre hP hK hN⟩ rfl rfl hl.1 rfl (lv_room (Nat.le_of_ble_eq_true rfl)) dX5_named_3 ⟨Nat.le_of_ble_eq_true rfl, Nat.le_of_ble_eq_true rfl⟩) (fun r er => ?_)
    subst er
    have J_14 : ∀ (H : Heap) (locs : List Loc), va_P D vwCl (mdW cI cZ ad F ow mp nm gb ob ik kp tu g) H → va_S A s.heap H locs → ∀ ls : Array Slot, lv_has ls 2 [(0, .ref (ad 0)), (1, .int (nI x))] → W p l e (headSpec wsX5_named (rmr 7 170)).room s m args below meth c H locs 0 0 Q (F0 m 14 ls [.int 0, .ref (ad 0)]) := by
      intro  H locs hP hS ls hl
      refine va_calli (va_runV (As := [.int 0]) (rest := []) ⟨hx, hb, hml, hown, hts⟩ (k_X5_isFine l D cI cZ ad A F ow mp nm gb ob ik kp tu g hA 0) (cwV 1 hts gX5_named_X5_isFine rfl rfl rfl (by decide +kernel) ⟨Nat.le_of_ble_eq_true rfl, Nat.le_of_ble_eq_true rfl⟩) ⟨rd_blind, va_recv hK hP (ci := 6) (q0 := 0) rfl rfl, rd_pre hP hK hN⟩ rfl rfl hl.1 rfl (lv_room (Nat.le_of_ble_eq_true rfl)) dX5_named_14 ⟨Nat.le_of_ble_eq_true rfl, Nat.le_of_ble_eq_true rfl⟩) hS (fun q _ h => h) (fun q h => h) (fun r u t H locs ht hvm hw hB hz1 hk1 hS => ?_)
      have hP := hB
      rw [ht] at hP
      subst hw
      have hP : va_P D vwCl (mdW cI cZ ad F ow mp nm gb ob ik kp tu (va_up g 19 0)) H := hP
      refine top_eq (y := b2i true) (by decide) ?_
      refine lv_if_ne (tgt := 22) hx hb dX5_named_17 (by decide) (fun c_17 => ?_) (fun c_17 => absurd c_17 (by decide))
      refine lv_aload_n hx hb dX5_named_22 rfl (lv_at hl 0 rfl) ?_
      refine lv_iload_n hx hb dX5_named_23 rfl (lv_at hl 1 rfl) ?_
      refine va_calli (va_runV (As := [.int (nI x)]) (rest := []) ⟨hx, hb, hml, hown, hts⟩ (k_X5_mapsBest l D cI cZ ad A F ow mp nm gb ob ik kp tu (va_up g 19 0) hA x nn hM.thr hxn) (cwV 1 hts gX5_named_X5_mapsBest rfl rfl rfl (by decide +kernel) ⟨Nat.le_of_ble_eq_true rfl, Nat.le_of_ble_eq_true rfl⟩) ⟨rd_blind, va_recv hK hP (ci := 6) (q0 := 0) rfl rfl, rd_pre hP hK hN⟩ rfl rfl hl.1 rfl (lv_room (Nat.le_of_ble_eq_true rfl)) dX5_named_24 ⟨Nat.le_of_ble_eq_true rfl, Nat.le_of_ble_eq_true rfl⟩) hS (fun q _ h => h) (fun q h => h) (fun r u t H locs ht hvm hw hB hz1 hk1 hS => ?_)
      have hP := hB
      rw [ht] at hP
      subst hw
      have hP : va_P D vwCl (mdW cI cZ ad F (mOwn F ow x) (fillA mp (mV F ow x (mBest F ow x)) 8) (mN F ow x (mBest F ow x)) (mGB F ow x (mBest F ow x)) (mOB F ow x (mBest F ow x)) ik kp tu (va_up g 19 0)) H := hP
      refine lv_pop hx hb dX5_named_27 rfl ?_
      refine lv_aload_n hx hb dX5_named_28 rfl (lv_at hl 0 rfl) ?_
      refine va_get (D := D) (ci := 6) (v := .int (mN F ow x (mBest F ow x))) (C := RX5) (T := TX5) (N := 20) hx hb hts (fun _ h => List.mem_cons_of_mem _ (List.mem_append_right _ (h))) hown hK hP 0 rfl rfl 13 (by decide) (hts _ (List.mem_of_getElem? (i := 1) rfl)) (fun _ h9 => h9) rfl dX5_named_29 ?_
      subst hQ
      have hP : va_P D vwCl (mdW cI cZ ad F (mOwn F ow x) (fillA mp (mV F ow x (mBest F ow x)) 8) (mN F ow x (mBest F ow x)) (mGB F ow x (mBest F ow x)) (mOB F ow x (mBest F ow x)) ik kp tu (va_up g 19 0)) H := hP
      exact W.iret (v := mN F ow x (mBest F ow x)) hx hb hr (fun t ht _ => ⟨⟨_, (), rfl, (by rfl), by have e := hP; rw [← ht] at e; exact e⟩, hS.F ht⟩) hS.2.2 dX5_named_32
    refine lv_if_eq (tgt := 13) hx hb dX5_named_6 (by decide) (fun c_6 => ?_) (fun c_6 => ?_)
    ·
      have c_6 := b2i_0 c_6
      exact absurd (inB_f hM hxn) (b2i_bf c_6)
    ·
      have c_6 := b2i_1 c_6
      refine lv_iconst (v := 0) hx hb dX5_named_9 (by decide) ?_
      refine lv_goto (tgt := 14) hx hb dX5_named_10 (by decide) ?_
      exact J_14 _ _ hP hS ls (lv_sub hl [0, 1] rfl)
  exact go _ _ hP hS

set_option maxHeartbeats 800000 in
set_option maxRecDepth 100000 in
theorem m_named_1 (l : Launch) (D : va_G) (cI cZ : ClassId) (ad : Nat → Nat) (A : Nat → Prop) (F : Nat → Nat → Int32) (ow : Nat → Int32) (mp : Nat → Int32) (nm : Int32) (gb : Int32) (ob : Int32) (ik : Nat → Int32) (kp : Nat → Int32) (tu : Nat → Int32) (g : Nat → Int32) (hA : apD 16 A ad) (x0 : Int32)  (hb1 : inB x0 0 (g 6 - 1) = false) : Met l yX5_named wsX5_named (rmr 7 170) (va_Pc [.ref (ad 0), .int x0] (rdP D ([(cI, .int), (cZ, .boolean)]) (mdW cI cZ ad F ow mp nm gb ob ik kp tu g))) (va_Qi (fun (r : Int32) (_ : Unit) => r = 0) (fun _ t => va_P D vwCl (mdW cI cZ ad F ow mp nm gb ob ik kp tu (va_up g 19 1)) t.heap) A) 0 0 A := by
  refine Met.ofW (cc := cX5_named) (maxL := 2) (ret := (some .int)) (by decide) rfl ?_
  intro p e s m args below meth c s₁ B hml hv
  obtain ⟨hargs, hP, hK, hN⟩ := hv
  have hx := B.exec
  have hb := B.bytes
  have hr := B.returns
  have hts := atoms_spec (ws := wsX5_named) B.pre
  have hown : s.vm.findClass RX5 = some m.cls := findClass_of_methodNamed B.named
  have hlocks := B.notSynchronized
  have hen : entryFrame m args 2 = entryFrame m ([.ref (ad 0), .int x0] : List Value).toArray 2 := by rw [hargs]
  rw [hen]
  have hl := lv_entry ([.ref (ad 0), .int x0]) (n := 2) (Nat.le_of_ble_eq_true rfl)
  rw [lg_entry_eq]
  generalize (lg_sl ([.ref (ad 0), .int x0]) ++ List.replicate (2 - (lg_sl ([.ref (ad 0), .int x0])).length) Slot.unset).toArray = ls at hl ⊢
  have hl : lv_has ls 2 [(0, .ref (ad 0)), (1, .int x0)] := hl
  have hS : va_S A s.heap s.heap [] := va_S.rf
  generalize hQ : MQ below (va_Qi (fun (r : Int32) (_ : Unit) => r = 0) (fun _ t => va_P D vwCl (mdW cI cZ ad F ow mp nm gb ob ik kp tu (va_up g 19 1)) t.heap) A) args s 0 0 A = Q
  have go : ∀ (H : Heap) (locs : List Loc), va_P D vwCl (mdW cI cZ ad F ow mp nm gb ob ik kp tu g) H → va_S A s.heap H locs → W p l e (headSpec wsX5_named (rmr 7 170)).room s m args below meth c H locs 0 0 Q (F0 m 0 ls []) := by
    intro H locs hP hS
    refine lv_aload_n hx hb dX5_named_0 rfl (lv_at hl 0 rfl) ?_
    refine lv_aload_n hx hb dX5_named_1 rfl (lv_at hl 0 rfl) ?_
    refine lv_iload_n hx hb dX5_named_2 rfl (lv_at hl 1 rfl) ?_
    refine vp_callSi (W.runV (As := [.int x0]) (rest := [.ref (ad 0)]) ⟨hx, hb, hml, hown, hts⟩ (k_X5_isFolder l D cI cZ ad F ow mp nm gb ob ik kp tu g x0) (cwV 1 hts gX5_named_X5_isFolder rfl rfl rfl (by decide +kernel) ⟨Nat.le_of_ble_eq_true rfl, Nat.le_of_ble_eq_true rfl⟩) ⟨rd_blind, va_recv hK hP (ci := 6) (q0 := 0) rfl rfl, rd_pre hP hK hN⟩ rfl rfl hl.1 rfl (lv_room (Nat.le_of_ble_eq_true rfl)) dX5_named_3 ⟨Nat.le_of_ble_eq_true rfl, Nat.le_of_ble_eq_true rfl⟩) (fun r er => ?_)
    subst er
    have J_14 : ∀ (H : Heap) (locs : List Loc), va_P D vwCl (mdW cI cZ ad F ow mp nm gb ob ik kp tu g) H → va_S A s.heap H locs → ∀ ls : Array Slot, lv_has ls 2 [(0, .ref (ad 0)), (1, .int x0)] → W p l e (headSpec wsX5_named (rmr 7 170)).room s m args below meth c H locs 0 0 Q (F0 m 14 ls [.int 1, .ref (ad 0)]) := by
      intro  H locs hP hS ls hl
      refine va_calli (va_runV (As := [.int 1]) (rest := []) ⟨hx, hb, hml, hown, hts⟩ (k_X5_isFine l D cI cZ ad A F ow mp nm gb ob ik kp tu g hA 1) (cwV 1 hts gX5_named_X5_isFine rfl rfl rfl (by decide +kernel) ⟨Nat.le_of_ble_eq_true rfl, Nat.le_of_ble_eq_true rfl⟩) ⟨rd_blind, va_recv hK hP (ci := 6) (q0 := 0) rfl rfl, rd_pre hP hK hN⟩ rfl rfl hl.1 rfl (lv_room (Nat.le_of_ble_eq_true rfl)) dX5_named_14 ⟨Nat.le_of_ble_eq_true rfl, Nat.le_of_ble_eq_true rfl⟩) hS (fun q _ h => h) (fun q h => h) (fun r u t H locs ht hvm hw hB hz1 hk1 hS => ?_)
      have hP := hB
      rw [ht] at hP
      subst hw
      have hP : va_P D vwCl (mdW cI cZ ad F ow mp nm gb ob ik kp tu (va_up g 19 1)) H := hP
      refine top_eq (y := b2i false) (by decide) ?_
      refine lv_if_ne (tgt := 22) hx hb dX5_named_17 (by decide) (fun c_17 => absurd rfl c_17) (fun c_17 => ?_)
      refine lv_iconst (v := 0) hx hb dX5_named_20 (by decide) ?_
      subst hQ
      have hP : va_P D vwCl (mdW cI cZ ad F ow mp nm gb ob ik kp tu (va_up g 19 1)) H := hP
      exact W.iret (v := 0) hx hb hr (fun t ht _ => ⟨⟨_, (), rfl, (by rfl), by have e := hP; rw [← ht] at e; exact e⟩, hS.F ht⟩) hS.2.2 dX5_named_21
    refine lv_if_eq (tgt := 13) hx hb dX5_named_6 (by decide) (fun c_6 => ?_) (fun c_6 => ?_)
    ·
      have c_6 := b2i_0 c_6
      refine lv_iconst (v := 1) hx hb dX5_named_13 (by decide) ?_
      exact J_14 _ _ hP hS ls (lv_sub hl [0, 1] rfl)
    ·
      have c_6 := b2i_1 c_6
      exact absurd c_6 (b2i_bf hb1)
  exact go _ _ hP hS

set_option maxHeartbeats 800000 in
set_option maxRecDepth 100000 in
theorem m_mapped (l : Launch) (D : va_G) (cI cZ : ClassId) (ad : Nat → Nat) (A : Nat → Prop) (F : Nat → Nat → Int32) (ow : Nat → Int32) (mp : Nat → Int32) (nm : Int32) (gb : Int32) (ob : Int32) (ik : Nat → Int32) (kp : Nat → Int32) (tu : Nat → Int32) (g : Nat → Int32) (hA : apD 16 A ad) (x : Nat) (y : Nat)  (nn : Nat) (hM : okM F g nn) (hx8 : x < 8) (hyn : y < nn)  : Met l yX5_mapped wsX5_mapped (rmr 7 170) (va_Pc [.ref (ad 0), .int (nI x), .int (nI y)] (rdP D ([(cI, .int), (cZ, .boolean)]) (mdW cI cZ ad F ow mp nm gb ob ik kp tu g))) (va_Qi (fun (r : Int32) (_ : Unit) => r = mMP F ow mp y x) (fun _ t => va_P D vwCl (mdW cI cZ ad F (mOwn F ow y) (fillA mp (mV F ow y (mBest F ow y)) 8) (mN F ow y (mBest F ow y)) (mGB F ow y (mBest F ow y)) (mOB F ow y (mBest F ow y)) ik kp tu (va_up g 19 0)) t.heap) A) 0 0 A := by
  refine Met.ofW (cc := cX5_mapped) (maxL := 3) (ret := (some .int)) (by decide) rfl ?_
  intro p e s m args below meth c s₁ B hml hv
  obtain ⟨hargs, hP, hK, hN⟩ := hv
  have hx := B.exec
  have hb := B.bytes
  have hr := B.returns
  have hts := atoms_spec (ws := wsX5_mapped) B.pre
  have hown : s.vm.findClass RX5 = some m.cls := findClass_of_methodNamed B.named
  have hlocks := B.notSynchronized
  have hen : entryFrame m args 3 = entryFrame m ([.ref (ad 0), .int (nI x), .int (nI y)] : List Value).toArray 3 := by rw [hargs]
  rw [hen]
  have hl := lv_entry ([.ref (ad 0), .int (nI x), .int (nI y)]) (n := 3) (Nat.le_of_ble_eq_true rfl)
  rw [lg_entry_eq]
  generalize (lg_sl ([.ref (ad 0), .int (nI x), .int (nI y)]) ++ List.replicate (3 - (lg_sl ([.ref (ad 0), .int (nI x), .int (nI y)])).length) Slot.unset).toArray = ls at hl ⊢
  have hl : lv_has ls 3 [(0, .ref (ad 0)), (1, .int (nI x)), (2, .int (nI y))] := hl
  have hS : va_S A s.heap s.heap [] := va_S.rf
  generalize hQ : MQ below (va_Qi (fun (r : Int32) (_ : Unit) => r = mMP F ow mp y x) (fun _ t => va_P D vwCl (mdW cI cZ ad F (mOwn F ow y) (fillA mp (mV F ow y (mBest F ow y)) 8) (mN F ow y (mBest F ow y)) (mGB F ow y (mBest F ow y)) (mOB F ow y (mBest F ow y)) ik kp tu (va_up g 19 0)) t.heap) A) args s 0 0 A = Q
  have go : ∀ (H : Heap) (locs : List Loc), va_P D vwCl (mdW cI cZ ad F ow mp nm gb ob ik kp tu g) H → va_S A s.heap H locs → W p l e (headSpec wsX5_mapped (rmr 7 170)).room s m args below meth c H locs 0 0 Q (F0 m 0 ls []) := by
    intro H locs hP hS
    refine lv_aload_n hx hb dX5_mapped_0 rfl (lv_at hl 0 rfl) ?_
    refine lv_iload_n hx hb dX5_mapped_1 rfl (lv_at hl 1 rfl) ?_
    refine vp_callSi (W.runS (As := [.int (nI x)]) (rest := [.ref (ad 0)]) ⟨hx, hb, hml, hown, hts⟩ (k_X5_isPerson l (nI x)) (va_cwS 1 hts gX5_mapped_X5_isPerson rfl rfl rfl (by decide +kernel) ⟨Nat.le_of_ble_eq_true rfl, Nat.le_of_ble_eq_true rfl⟩) ⟨nf_blind, fun U hU hW => ⟨rfl, trivial⟩⟩ rfl rfl hl.1 rfl (lv_room (Nat.le_of_ble_eq_true rfl)) dX5_mapped_2 ⟨Nat.le_of_ble_eq_true rfl, Nat.le_of_ble_eq_true rfl⟩) (fun r er => ?_)
    subst er
    have J_21 : ∀ (H : Heap) (locs : List Loc), va_P D vwCl (mdW cI cZ ad F ow mp nm gb ob ik kp tu g) H → va_S A s.heap H locs → ∀ ls : Array Slot, lv_has ls 3 [(0, .ref (ad 0)), (1, .int (nI x)), (2, .int (nI y))] → W p l e (headSpec wsX5_mapped (rmr 7 170)).room s m args below meth c H locs 0 0 Q (F0 m 21 ls [.int 0, .ref (ad 0)]) := by
      intro  H locs hP hS ls hl
      refine va_calli (va_runV (As := [.int 0]) (rest := []) ⟨hx, hb, hml, hown, hts⟩ (k_X5_isFine l D cI cZ ad A F ow mp nm gb ob ik kp tu g hA 0) (cwV 1 hts gX5_mapped_X5_isFine rfl rfl rfl (by decide +kernel) ⟨Nat.le_of_ble_eq_true rfl, Nat.le_of_ble_eq_true rfl⟩) ⟨rd_blind, va_recv hK hP (ci := 6) (q0 := 0) rfl rfl, rd_pre hP hK hN⟩ rfl rfl hl.1 rfl (lv_room (Nat.le_of_ble_eq_true rfl)) dX5_mapped_21 ⟨Nat.le_of_ble_eq_true rfl, Nat.le_of_ble_eq_true rfl⟩) hS (fun q _ h => h) (fun q h => h) (fun r u t H locs ht hvm hw hB hz1 hk1 hS => ?_)
      have hP := hB
      rw [ht] at hP
      subst hw
      have hP : va_P D vwCl (mdW cI cZ ad F ow mp nm gb ob ik kp tu (va_up g 19 0)) H := hP
      refine top_eq (y := b2i true) (by decide) ?_
      refine lv_if_ne (tgt := 29) hx hb dX5_mapped_24 (by decide) (fun c_24 => ?_) (fun c_24 => absurd c_24 (by decide))
      refine lv_aload_n hx hb dX5_mapped_29 rfl (lv_at hl 0 rfl) ?_
      refine lv_iload_n hx hb dX5_mapped_30 rfl (lv_at hl 2 rfl) ?_
      refine va_calli (va_runV (As := [.int (nI y)]) (rest := []) ⟨hx, hb, hml, hown, hts⟩ (k_X5_mapsBest l D cI cZ ad A F ow mp nm gb ob ik kp tu (va_up g 19 0) hA y nn hM.thr hyn) (cwV 1 hts gX5_mapped_X5_mapsBest rfl rfl rfl (by decide +kernel) ⟨Nat.le_of_ble_eq_true rfl, Nat.le_of_ble_eq_true rfl⟩) ⟨rd_blind, va_recv hK hP (ci := 6) (q0 := 0) rfl rfl, rd_pre hP hK hN⟩ rfl rfl hl.1 rfl (lv_room (Nat.le_of_ble_eq_true rfl)) dX5_mapped_31 ⟨Nat.le_of_ble_eq_true rfl, Nat.le_of_ble_eq_true rfl⟩) hS (fun q _ h => h) (fun q h => h) (fun r u t H locs ht hvm hw hB hz1 hk1 hS => ?_)
      have hP := hB
      rw [ht] at hP
      subst hw
      have hP : va_P D vwCl (mdW cI cZ ad F (mOwn F ow y) (fillA mp (mV F ow y (mBest F ow y)) 8) (mN F ow y (mBest F ow y)) (mGB F ow y (mBest F ow y)) (mOB F ow y (mBest F ow y)) ik kp tu (va_up g 19 0)) H := hP
      refine lv_pop hx hb dX5_mapped_34 rfl ?_
      refine lv_aload_n hx hb dX5_mapped_35 rfl (lv_at hl 0 rfl) ?_
      refine va_get (D := D) (ci := 6) (v := .ref (ad 12)) (C := RX5) (T := TX5) (N := 20) hx hb hts (fun _ h => List.mem_cons_of_mem _ (List.mem_append_right _ (h))) hown hK hP 0 rfl rfl 12 (by decide) (hts _ (List.mem_of_getElem? (i := 1) rfl)) (fun _ h9 => h9) rfl dX5_mapped_36 ?_
      refine lv_iload_n hx hb dX5_mapped_39 rfl (lv_at hl 1 rfl) ?_
      refine ld_i (k := x) hx hb hK hP 12 0 rfl rfl (by omega) (by decide) dX5_mapped_40 ?_
      subst hQ
      have hP : va_P D vwCl (mdW cI cZ ad F (mOwn F ow y) (fillA mp (mV F ow y (mBest F ow y)) 8) (mN F ow y (mBest F ow y)) (mGB F ow y (mBest F ow y)) (mOB F ow y (mBest F ow y)) ik kp tu (va_up g 19 0)) H := hP
      exact W.iret (v := (fillA mp (mV F ow y (mBest F ow y)) 8) x) hx hb hr (fun t ht _ => ⟨⟨_, (), rfl, (by rfl), by have e := hP; rw [← ht] at e; exact e⟩, hS.F ht⟩) hS.2.2 dX5_mapped_41
    refine lv_if_eq (tgt := 20) hx hb dX5_mapped_5 (by decide) (fun c_5 => ?_) (fun c_5 => ?_)
    ·
      have c_5 := b2i_0 c_5
      exact absurd (inB_p hx8) (b2i_bf c_5)
    ·
      have c_5 := b2i_1 c_5
      refine lv_aload_n hx hb dX5_mapped_8 rfl (lv_at hl 0 rfl) ?_
      refine lv_iload_n hx hb dX5_mapped_9 rfl (lv_at hl 2 rfl) ?_
      refine vp_callSi (W.runV (As := [.int (nI y)]) (rest := [.ref (ad 0)]) ⟨hx, hb, hml, hown, hts⟩ (k_X5_isFolder l D cI cZ ad F ow mp nm gb ob ik kp tu g (nI y)) (cwV 1 hts gX5_mapped_X5_isFolder rfl rfl rfl (by decide +kernel) ⟨Nat.le_of_ble_eq_true rfl, Nat.le_of_ble_eq_true rfl⟩) ⟨rd_blind, va_recv hK hP (ci := 6) (q0 := 0) rfl rfl, rd_pre hP hK hN⟩ rfl rfl hl.1 rfl (lv_room (Nat.le_of_ble_eq_true rfl)) dX5_mapped_10 ⟨Nat.le_of_ble_eq_true rfl, Nat.le_of_ble_eq_true rfl⟩) (fun r er => ?_)
      subst er
      refine lv_if_eq (tgt := 20) hx hb dX5_mapped_13 (by decide) (fun c_13 => ?_) (fun c_13 => ?_)
      ·
        have c_13 := b2i_0 c_13
        exact absurd (inB_f hM hyn) (b2i_bf c_13)
      ·
        have c_13 := b2i_1 c_13
        refine lv_iconst (v := 0) hx hb dX5_mapped_16 (by decide) ?_
        refine lv_goto (tgt := 21) hx hb dX5_mapped_17 (by decide) ?_
        exact J_21 _ _ hP hS ls (lv_sub hl [0, 1, 2] rfl)
  exact go _ _ hP hS

set_option maxHeartbeats 800000 in
set_option maxRecDepth 100000 in
theorem m_mapped_1 (l : Launch) (D : va_G) (cI cZ : ClassId) (ad : Nat → Nat) (A : Nat → Prop) (F : Nat → Nat → Int32) (ow : Nat → Int32) (mp : Nat → Int32) (nm : Int32) (gb : Int32) (ob : Int32) (ik : Nat → Int32) (kp : Nat → Int32) (tu : Nat → Int32) (g : Nat → Int32) (hA : apD 16 A ad) (x0 : Int32) (x1 : Int32)  (hb1 : (inB x0 0 7 && inB x1 0 (g 6 - 1)) = false) : Met l yX5_mapped wsX5_mapped (rmr 7 170) (va_Pc [.ref (ad 0), .int x0, .int x1] (rdP D ([(cI, .int), (cZ, .boolean)]) (mdW cI cZ ad F ow mp nm gb ob ik kp tu g))) (va_Qi (fun (r : Int32) (_ : Unit) => r = 0) (fun _ t => va_P D vwCl (mdW cI cZ ad F ow mp nm gb ob ik kp tu (va_up g 19 1)) t.heap) A) 0 0 A := by
  refine Met.ofW (cc := cX5_mapped) (maxL := 3) (ret := (some .int)) (by decide) rfl ?_
  intro p e s m args below meth c s₁ B hml hv
  obtain ⟨hargs, hP, hK, hN⟩ := hv
  have hx := B.exec
  have hb := B.bytes
  have hr := B.returns
  have hts := atoms_spec (ws := wsX5_mapped) B.pre
  have hown : s.vm.findClass RX5 = some m.cls := findClass_of_methodNamed B.named
  have hlocks := B.notSynchronized
  have hen : entryFrame m args 3 = entryFrame m ([.ref (ad 0), .int x0, .int x1] : List Value).toArray 3 := by rw [hargs]
  rw [hen]
  have hl := lv_entry ([.ref (ad 0), .int x0, .int x1]) (n := 3) (Nat.le_of_ble_eq_true rfl)
  rw [lg_entry_eq]
  generalize (lg_sl ([.ref (ad 0), .int x0, .int x1]) ++ List.replicate (3 - (lg_sl ([.ref (ad 0), .int x0, .int x1])).length) Slot.unset).toArray = ls at hl ⊢
  have hl : lv_has ls 3 [(0, .ref (ad 0)), (1, .int x0), (2, .int x1)] := hl
  have hS : va_S A s.heap s.heap [] := va_S.rf
  generalize hQ : MQ below (va_Qi (fun (r : Int32) (_ : Unit) => r = 0) (fun _ t => va_P D vwCl (mdW cI cZ ad F ow mp nm gb ob ik kp tu (va_up g 19 1)) t.heap) A) args s 0 0 A = Q
  have go : ∀ (H : Heap) (locs : List Loc), va_P D vwCl (mdW cI cZ ad F ow mp nm gb ob ik kp tu g) H → va_S A s.heap H locs → W p l e (headSpec wsX5_mapped (rmr 7 170)).room s m args below meth c H locs 0 0 Q (F0 m 0 ls []) := by
    intro H locs hP hS
    refine lv_aload_n hx hb dX5_mapped_0 rfl (lv_at hl 0 rfl) ?_
    refine lv_iload_n hx hb dX5_mapped_1 rfl (lv_at hl 1 rfl) ?_
    refine vp_callSi (W.runS (As := [.int x0]) (rest := [.ref (ad 0)]) ⟨hx, hb, hml, hown, hts⟩ (k_X5_isPerson l x0) (va_cwS 1 hts gX5_mapped_X5_isPerson rfl rfl rfl (by decide +kernel) ⟨Nat.le_of_ble_eq_true rfl, Nat.le_of_ble_eq_true rfl⟩) ⟨nf_blind, fun U hU hW => ⟨rfl, trivial⟩⟩ rfl rfl hl.1 rfl (lv_room (Nat.le_of_ble_eq_true rfl)) dX5_mapped_2 ⟨Nat.le_of_ble_eq_true rfl, Nat.le_of_ble_eq_true rfl⟩) (fun r er => ?_)
    subst er
    have J_21 : ∀ (H : Heap) (locs : List Loc), va_P D vwCl (mdW cI cZ ad F ow mp nm gb ob ik kp tu g) H → va_S A s.heap H locs → ∀ ls : Array Slot, lv_has ls 3 [(0, .ref (ad 0)), (1, .int x0), (2, .int x1)] → W p l e (headSpec wsX5_mapped (rmr 7 170)).room s m args below meth c H locs 0 0 Q (F0 m 21 ls [.int 1, .ref (ad 0)]) := by
      intro  H locs hP hS ls hl
      refine va_calli (va_runV (As := [.int 1]) (rest := []) ⟨hx, hb, hml, hown, hts⟩ (k_X5_isFine l D cI cZ ad A F ow mp nm gb ob ik kp tu g hA 1) (cwV 1 hts gX5_mapped_X5_isFine rfl rfl rfl (by decide +kernel) ⟨Nat.le_of_ble_eq_true rfl, Nat.le_of_ble_eq_true rfl⟩) ⟨rd_blind, va_recv hK hP (ci := 6) (q0 := 0) rfl rfl, rd_pre hP hK hN⟩ rfl rfl hl.1 rfl (lv_room (Nat.le_of_ble_eq_true rfl)) dX5_mapped_21 ⟨Nat.le_of_ble_eq_true rfl, Nat.le_of_ble_eq_true rfl⟩) hS (fun q _ h => h) (fun q h => h) (fun r u t H locs ht hvm hw hB hz1 hk1 hS => ?_)
      have hP := hB
      rw [ht] at hP
      subst hw
      have hP : va_P D vwCl (mdW cI cZ ad F ow mp nm gb ob ik kp tu (va_up g 19 1)) H := hP
      refine top_eq (y := b2i false) (by decide) ?_
      refine lv_if_ne (tgt := 29) hx hb dX5_mapped_24 (by decide) (fun c_24 => absurd rfl c_24) (fun c_24 => ?_)
      refine lv_iconst (v := 0) hx hb dX5_mapped_27 (by decide) ?_
      subst hQ
      have hP : va_P D vwCl (mdW cI cZ ad F ow mp nm gb ob ik kp tu (va_up g 19 1)) H := hP
      exact W.iret (v := 0) hx hb hr (fun t ht _ => ⟨⟨_, (), rfl, (by rfl), by have e := hP; rw [← ht] at e; exact e⟩, hS.F ht⟩) hS.2.2 dX5_mapped_28
    refine lv_if_eq (tgt := 20) hx hb dX5_mapped_5 (by decide) (fun c_5 => ?_) (fun c_5 => ?_)
    ·
      have c_5 := b2i_0 c_5
      refine lv_iconst (v := 1) hx hb dX5_mapped_20 (by decide) ?_
      exact J_21 _ _ hP hS ls (lv_sub hl [0, 1, 2] rfl)
    ·
      have c_5 := b2i_1 c_5
      refine lv_aload_n hx hb dX5_mapped_8 rfl (lv_at hl 0 rfl) ?_
      refine lv_iload_n hx hb dX5_mapped_9 rfl (lv_at hl 2 rfl) ?_
      refine vp_callSi (W.runV (As := [.int x1]) (rest := [.ref (ad 0)]) ⟨hx, hb, hml, hown, hts⟩ (k_X5_isFolder l D cI cZ ad F ow mp nm gb ob ik kp tu g x1) (cwV 1 hts gX5_mapped_X5_isFolder rfl rfl rfl (by decide +kernel) ⟨Nat.le_of_ble_eq_true rfl, Nat.le_of_ble_eq_true rfl⟩) ⟨rd_blind, va_recv hK hP (ci := 6) (q0 := 0) rfl rfl, rd_pre hP hK hN⟩ rfl rfl hl.1 rfl (lv_room (Nat.le_of_ble_eq_true rfl)) dX5_mapped_10 ⟨Nat.le_of_ble_eq_true rfl, Nat.le_of_ble_eq_true rfl⟩) (fun r er => ?_)
      subst er
      refine lv_if_eq (tgt := 20) hx hb dX5_mapped_13 (by decide) (fun c_13 => ?_) (fun c_13 => ?_)
      ·
        have c_13 := b2i_0 c_13
        refine lv_iconst (v := 1) hx hb dX5_mapped_20 (by decide) ?_
        exact J_21 _ _ hP hS ls (lv_sub hl [0, 1, 2] rfl)
      ·
        have c_13 := b2i_1 c_13
        exact absurd (B2f hb1 c_5 c_13) id
  exact go _ _ hP hS

set_option maxHeartbeats 800000 in
set_option maxRecDepth 100000 in
theorem m_loss (l : Launch) (D : va_G) (cI cZ : ClassId) (ad : Nat → Nat) (A : Nat → Prop) (F : Nat → Nat → Int32) (ow : Nat → Int32) (mp : Nat → Int32) (nm : Int32) (gb : Int32) (ob : Int32) (ik : Nat → Int32) (kp : Nat → Int32) (tu : Nat → Int32) (g : Nat → Int32) (hA : apD 16 A ad) (x : Nat)  (nn : Nat) (hM : okM F g nn) (hxn : x < nn)  : Met l yX5_loss wsX5_loss (rmr 7 170) (va_Pc [.ref (ad 0), .int (nI x)] (rdP D ([(cI, .int), (cZ, .boolean)]) (mdW cI cZ ad F ow mp nm gb ob ik kp tu g))) (va_Qi (fun (r : Int32) (_ : Unit) => r = mL F ow x (mBest F ow x)) (fun _ t => va_P D vwCl (mdW cI cZ ad F (mOwn F ow x) (fillA mp (mV F ow x (mBest F ow x)) 8) (mN F ow x (mBest F ow x)) (mGB F ow x (mBest F ow x)) (mOB F ow x (mBest F ow x)) ik kp tu (va_up g 19 0)) t.heap) A) 0 0 A := by
  refine Met.ofW (cc := cX5_loss) (maxL := 2) (ret := (some .int)) (by decide) rfl ?_
  intro p e s m args below meth c s₁ B hml hv
  obtain ⟨hargs, hP, hK, hN⟩ := hv
  have hx := B.exec
  have hb := B.bytes
  have hr := B.returns
  have hts := atoms_spec (ws := wsX5_loss) B.pre
  have hown : s.vm.findClass RX5 = some m.cls := findClass_of_methodNamed B.named
  have hlocks := B.notSynchronized
  have hen : entryFrame m args 2 = entryFrame m ([.ref (ad 0), .int (nI x)] : List Value).toArray 2 := by rw [hargs]
  rw [hen]
  have hl := lv_entry ([.ref (ad 0), .int (nI x)]) (n := 2) (Nat.le_of_ble_eq_true rfl)
  rw [lg_entry_eq]
  generalize (lg_sl ([.ref (ad 0), .int (nI x)]) ++ List.replicate (2 - (lg_sl ([.ref (ad 0), .int (nI x)])).length) Slot.unset).toArray = ls at hl ⊢
  have hl : lv_has ls 2 [(0, .ref (ad 0)), (1, .int (nI x))] := hl
  have hS : va_S A s.heap s.heap [] := va_S.rf
  generalize hQ : MQ below (va_Qi (fun (r : Int32) (_ : Unit) => r = mL F ow x (mBest F ow x)) (fun _ t => va_P D vwCl (mdW cI cZ ad F (mOwn F ow x) (fillA mp (mV F ow x (mBest F ow x)) 8) (mN F ow x (mBest F ow x)) (mGB F ow x (mBest F ow x)) (mOB F ow x (mBest F ow x)) ik kp tu (va_up g 19 0)) t.heap) A) args s 0 0 A = Q
  have go : ∀ (H : Heap) (locs : List Loc), va_P D vwCl (mdW cI cZ ad F ow mp nm gb ob ik kp tu g) H → va_S A s.heap H locs → W p l e (headSpec wsX5_loss (rmr 7 170)).room s m args below meth c H locs 0 0 Q (F0 m 0 ls []) := by
    intro H locs hP hS
    refine lv_aload_n hx hb dX5_loss_0 rfl (lv_at hl 0 rfl) ?_
    refine lv_aload_n hx hb dX5_loss_1 rfl (lv_at hl 0 rfl) ?_
    refine lv_iload_n hx hb dX5_loss_2 rfl (lv_at hl 1 rfl) ?_
    refine vp_callSi (W.runV (As := [.int (nI x)]) (rest := [.ref (ad 0)]) ⟨hx, hb, hml, hown, hts⟩ (k_X5_isFolder l D cI cZ ad F ow mp nm gb ob ik kp tu g (nI x)) (cwV 1 hts gX5_loss_X5_isFolder rfl rfl rfl (by decide +kernel) ⟨Nat.le_of_ble_eq_true rfl, Nat.le_of_ble_eq_true rfl⟩) ⟨rd_blind, va_recv hK hP (ci := 6) (q0 := 0) rfl rfl, rd_pre hP hK hN⟩ rfl rfl hl.1 rfl (lv_room (Nat.le_of_ble_eq_true rfl)) dX5_loss_3 ⟨Nat.le_of_ble_eq_true rfl, Nat.le_of_ble_eq_true rfl⟩) (fun r er => ?_)
    subst er
    have J_14 : ∀ (H : Heap) (locs : List Loc), va_P D vwCl (mdW cI cZ ad F ow mp nm gb ob ik kp tu g) H → va_S A s.heap H locs → ∀ ls : Array Slot, lv_has ls 2 [(0, .ref (ad 0)), (1, .int (nI x))] → W p l e (headSpec wsX5_loss (rmr 7 170)).room s m args below meth c H locs 0 0 Q (F0 m 14 ls [.int 0, .ref (ad 0)]) := by
      intro  H locs hP hS ls hl
      refine va_calli (va_runV (As := [.int 0]) (rest := []) ⟨hx, hb, hml, hown, hts⟩ (k_X5_isFine l D cI cZ ad A F ow mp nm gb ob ik kp tu g hA 0) (cwV 1 hts gX5_loss_X5_isFine rfl rfl rfl (by decide +kernel) ⟨Nat.le_of_ble_eq_true rfl, Nat.le_of_ble_eq_true rfl⟩) ⟨rd_blind, va_recv hK hP (ci := 6) (q0 := 0) rfl rfl, rd_pre hP hK hN⟩ rfl rfl hl.1 rfl (lv_room (Nat.le_of_ble_eq_true rfl)) dX5_loss_14 ⟨Nat.le_of_ble_eq_true rfl, Nat.le_of_ble_eq_true rfl⟩) hS (fun q _ h => h) (fun q h => h) (fun r u t H locs ht hvm hw hB hz1 hk1 hS => ?_)
      have hP := hB
      rw [ht] at hP
      subst hw
      have hP : va_P D vwCl (mdW cI cZ ad F ow mp nm gb ob ik kp tu (va_up g 19 0)) H := hP
      refine top_eq (y := b2i true) (by decide) ?_
      refine lv_if_eq (tgt := 33) hx hb dX5_loss_17 (by decide) (fun c_17 => absurd c_17 (by decide)) (fun c_17 => ?_)
      refine lv_aload_n hx hb dX5_loss_20 rfl (lv_at hl 0 rfl) ?_
      refine lv_iload_n hx hb dX5_loss_21 rfl (lv_at hl 1 rfl) ?_
      refine lv_aload_n hx hb dX5_loss_22 rfl (lv_at hl 0 rfl) ?_
      refine lv_iload_n hx hb dX5_loss_23 rfl (lv_at hl 1 rfl) ?_
      refine va_calli (va_runV (As := [.int (nI x)]) (rest := [.int (nI x), .ref (ad 0)]) ⟨hx, hb, hml, hown, hts⟩ (k_X5_mapsBest l D cI cZ ad A F ow mp nm gb ob ik kp tu (va_up g 19 0) hA x nn hM.thr hxn) (cwV 1 hts gX5_loss_X5_mapsBest rfl rfl rfl (by decide +kernel) ⟨Nat.le_of_ble_eq_true rfl, Nat.le_of_ble_eq_true rfl⟩) ⟨rd_blind, va_recv hK hP (ci := 6) (q0 := 0) rfl rfl, rd_pre hP hK hN⟩ rfl rfl hl.1 rfl (lv_room (Nat.le_of_ble_eq_true rfl)) dX5_loss_24 ⟨Nat.le_of_ble_eq_true rfl, Nat.le_of_ble_eq_true rfl⟩) hS (fun q _ h => h) (fun q h => h) (fun r u t H locs ht hvm hw hB hz1 hk1 hS => ?_)
      have hP := hB
      rw [ht] at hP
      subst hw
      have hP : va_P D vwCl (mdW cI cZ ad F (mOwn F ow x) (fillA mp (mV F ow x (mBest F ow x)) 8) (mN F ow x (mBest F ow x)) (mGB F ow x (mBest F ow x)) (mOB F ow x (mBest F ow x)) ik kp tu (va_up g 19 0)) H := hP
      refine va_calli (va_runV (As := [.int (nI x), .int (mBest F ow x)]) (rest := []) ⟨hx, hb, hml, hown, hts⟩ (k_X5_maps l D cI cZ ad A F (mOwn F ow x) (fillA mp (mV F ow x (mBest F ow x)) 8) (mN F ow x (mBest F ow x)) (mGB F ow x (mBest F ow x)) (mOB F ow x (mBest F ow x)) ik kp tu (va_up g 19 0) hA x (mBest F ow x) nn hM.thr hxn (mB_ok F ow x 6 (by decide))) (cwV 2 hts gX5_loss_X5_maps rfl rfl rfl (by decide +kernel) ⟨Nat.le_of_ble_eq_true rfl, Nat.le_of_ble_eq_true rfl⟩) ⟨rd_blind, va_recv hK hP (ci := 6) (q0 := 0) rfl rfl, rd_pre hP hK hN⟩ rfl rfl hl.1 rfl (lv_room (Nat.le_of_ble_eq_true rfl)) dX5_loss_27 ⟨Nat.le_of_ble_eq_true rfl, Nat.le_of_ble_eq_true rfl⟩) hS (fun q _ h => h) (fun q h => h) (fun r u t H locs ht hvm hw hB hz1 hk1 hS => ?_)
      have hP := hB
      rw [ht] at hP
      subst hw
      have hP : va_P D vwCl (mdW cI cZ ad F (mOwn F (mOwn F ow x) x) (fillA (fillA mp (mV F ow x (mBest F ow x)) 8) (mV F (mOwn F ow x) x (mBest F ow x)) 8) (mN F (mOwn F ow x) x (mBest F ow x)) (mGB F (mOwn F ow x) x (mBest F ow x)) (mOB F (mOwn F ow x) x (mBest F ow x)) ik kp tu (va_up g 19 0)) H := hP
      refine lv_goto (tgt := 34) hx hb dX5_loss_30 (by decide) ?_
      subst hQ
      have hP : va_P D vwCl (mdW cI cZ ad F (mOwn F (mOwn F ow x) x) (fillA (fillA mp (mV F ow x (mBest F ow x)) 8) (mV F (mOwn F ow x) x (mBest F ow x)) 8) (mN F (mOwn F ow x) x (mBest F ow x)) (mGB F (mOwn F ow x) x (mBest F ow x)) (mOB F (mOwn F ow x) x (mBest F ow x)) ik kp tu (va_up g 19 0)) H := hP
      have qow : mOwn F (mOwn F ow x) x = mOwn F ow x := by exact mOwn_again F ow x
      have qmp : fillA (fillA mp (mV F ow x (mBest F ow x)) 8) (mV F (mOwn F ow x) x (mBest F ow x)) 8 = fillA mp (mV F ow x (mBest F ow x)) 8 := by rw [mV_again]; exact fillA_fillA _ _ _ _
      have qnm : mN F (mOwn F ow x) x (mBest F ow x) = mN F ow x (mBest F ow x) := by exact mN_again F ow x _
      have qgb : mGB F (mOwn F ow x) x (mBest F ow x) = mGB F ow x (mBest F ow x) := by exact mGB_again F ow x _
      have qob : mOB F (mOwn F ow x) x (mBest F ow x) = mOB F ow x (mBest F ow x) := by exact mOB_again F ow x _
      have hP : va_P D vwCl (mdW cI cZ ad F (mOwn F ow x) (fillA mp (mV F ow x (mBest F ow x)) 8) (mN F ow x (mBest F ow x)) (mGB F ow x (mBest F ow x)) (mOB F ow x (mBest F ow x)) ik kp tu (va_up g 19 0)) H := mdW_P rfl qow qmp qnm qgb qob rfl rfl rfl rfl hP
      exact W.iret (v := mL F (mOwn F ow x) x (mBest F ow x)) hx hb hr (fun t ht _ => ⟨⟨_, (), rfl, (by exact mL_again F ow x _), by have e := hP; rw [← ht] at e; exact e⟩, hS.F ht⟩) hS.2.2 dX5_loss_34
    refine lv_if_eq (tgt := 13) hx hb dX5_loss_6 (by decide) (fun c_6 => ?_) (fun c_6 => ?_)
    ·
      have c_6 := b2i_0 c_6
      exact absurd (inB_f hM hxn) (b2i_bf c_6)
    ·
      have c_6 := b2i_1 c_6
      refine lv_iconst (v := 0) hx hb dX5_loss_9 (by decide) ?_
      refine lv_goto (tgt := 14) hx hb dX5_loss_10 (by decide) ?_
      exact J_14 _ _ hP hS ls (lv_sub hl [0, 1] rfl)
  exact go _ _ hP hS

set_option maxHeartbeats 800000 in
set_option maxRecDepth 100000 in
theorem m_loss_1 (l : Launch) (D : va_G) (cI cZ : ClassId) (ad : Nat → Nat) (A : Nat → Prop) (F : Nat → Nat → Int32) (ow : Nat → Int32) (mp : Nat → Int32) (nm : Int32) (gb : Int32) (ob : Int32) (ik : Nat → Int32) (kp : Nat → Int32) (tu : Nat → Int32) (g : Nat → Int32) (hA : apD 16 A ad) (x0 : Int32)  (hb1 : inB x0 0 (g 6 - 1) = false) : Met l yX5_loss wsX5_loss (rmr 7 170) (va_Pc [.ref (ad 0), .int x0] (rdP D ([(cI, .int), (cZ, .boolean)]) (mdW cI cZ ad F ow mp nm gb ob ik kp tu g))) (va_Qi (fun (r : Int32) (_ : Unit) => r = 0) (fun _ t => va_P D vwCl (mdW cI cZ ad F ow mp nm gb ob ik kp tu (va_up g 19 1)) t.heap) A) 0 0 A := by
  refine Met.ofW (cc := cX5_loss) (maxL := 2) (ret := (some .int)) (by decide) rfl ?_
  intro p e s m args below meth c s₁ B hml hv
  obtain ⟨hargs, hP, hK, hN⟩ := hv
  have hx := B.exec
  have hb := B.bytes
  have hr := B.returns
  have hts := atoms_spec (ws := wsX5_loss) B.pre
  have hown : s.vm.findClass RX5 = some m.cls := findClass_of_methodNamed B.named
  have hlocks := B.notSynchronized
  have hen : entryFrame m args 2 = entryFrame m ([.ref (ad 0), .int x0] : List Value).toArray 2 := by rw [hargs]
  rw [hen]
  have hl := lv_entry ([.ref (ad 0), .int x0]) (n := 2) (Nat.le_of_ble_eq_true rfl)
  rw [lg_entry_eq]
  generalize (lg_sl ([.ref (ad 0), .int x0]) ++ List.replicate (2 - (lg_sl ([.ref (ad 0), .int x0])).length) Slot.unset).toArray = ls at hl ⊢
  have hl : lv_has ls 2 [(0, .ref (ad 0)), (1, .int x0)] := hl
  have hS : va_S A s.heap s.heap [] := va_S.rf
  generalize hQ : MQ below (va_Qi (fun (r : Int32) (_ : Unit) => r = 0) (fun _ t => va_P D vwCl (mdW cI cZ ad F ow mp nm gb ob ik kp tu (va_up g 19 1)) t.heap) A) args s 0 0 A = Q
  have go : ∀ (H : Heap) (locs : List Loc), va_P D vwCl (mdW cI cZ ad F ow mp nm gb ob ik kp tu g) H → va_S A s.heap H locs → W p l e (headSpec wsX5_loss (rmr 7 170)).room s m args below meth c H locs 0 0 Q (F0 m 0 ls []) := by
    intro H locs hP hS
    refine lv_aload_n hx hb dX5_loss_0 rfl (lv_at hl 0 rfl) ?_
    refine lv_aload_n hx hb dX5_loss_1 rfl (lv_at hl 0 rfl) ?_
    refine lv_iload_n hx hb dX5_loss_2 rfl (lv_at hl 1 rfl) ?_
    refine vp_callSi (W.runV (As := [.int x0]) (rest := [.ref (ad 0)]) ⟨hx, hb, hml, hown, hts⟩ (k_X5_isFolder l D cI cZ ad F ow mp nm gb ob ik kp tu g x0) (cwV 1 hts gX5_loss_X5_isFolder rfl rfl rfl (by decide +kernel) ⟨Nat.le_of_ble_eq_true rfl, Nat.le_of_ble_eq_true rfl⟩) ⟨rd_blind, va_recv hK hP (ci := 6) (q0 := 0) rfl rfl, rd_pre hP hK hN⟩ rfl rfl hl.1 rfl (lv_room (Nat.le_of_ble_eq_true rfl)) dX5_loss_3 ⟨Nat.le_of_ble_eq_true rfl, Nat.le_of_ble_eq_true rfl⟩) (fun r er => ?_)
    subst er
    have J_14 : ∀ (H : Heap) (locs : List Loc), va_P D vwCl (mdW cI cZ ad F ow mp nm gb ob ik kp tu g) H → va_S A s.heap H locs → ∀ ls : Array Slot, lv_has ls 2 [(0, .ref (ad 0)), (1, .int x0)] → W p l e (headSpec wsX5_loss (rmr 7 170)).room s m args below meth c H locs 0 0 Q (F0 m 14 ls [.int 1, .ref (ad 0)]) := by
      intro  H locs hP hS ls hl
      refine va_calli (va_runV (As := [.int 1]) (rest := []) ⟨hx, hb, hml, hown, hts⟩ (k_X5_isFine l D cI cZ ad A F ow mp nm gb ob ik kp tu g hA 1) (cwV 1 hts gX5_loss_X5_isFine rfl rfl rfl (by decide +kernel) ⟨Nat.le_of_ble_eq_true rfl, Nat.le_of_ble_eq_true rfl⟩) ⟨rd_blind, va_recv hK hP (ci := 6) (q0 := 0) rfl rfl, rd_pre hP hK hN⟩ rfl rfl hl.1 rfl (lv_room (Nat.le_of_ble_eq_true rfl)) dX5_loss_14 ⟨Nat.le_of_ble_eq_true rfl, Nat.le_of_ble_eq_true rfl⟩) hS (fun q _ h => h) (fun q h => h) (fun r u t H locs ht hvm hw hB hz1 hk1 hS => ?_)
      have hP := hB
      rw [ht] at hP
      subst hw
      have hP : va_P D vwCl (mdW cI cZ ad F ow mp nm gb ob ik kp tu (va_up g 19 1)) H := hP
      refine top_eq (y := b2i false) (by decide) ?_
      refine lv_if_eq (tgt := 33) hx hb dX5_loss_17 (by decide) (fun c_17 => ?_) (fun c_17 => absurd rfl c_17)
      refine lv_iconst (v := 0) hx hb dX5_loss_33 (by decide) ?_
      subst hQ
      have hP : va_P D vwCl (mdW cI cZ ad F ow mp nm gb ob ik kp tu (va_up g 19 1)) H := hP
      exact W.iret (v := 0) hx hb hr (fun t ht _ => ⟨⟨_, (), rfl, (by rfl), by have e := hP; rw [← ht] at e; exact e⟩, hS.F ht⟩) hS.2.2 dX5_loss_34
    refine lv_if_eq (tgt := 13) hx hb dX5_loss_6 (by decide) (fun c_6 => ?_) (fun c_6 => ?_)
    ·
      have c_6 := b2i_0 c_6
      refine lv_iconst (v := 1) hx hb dX5_loss_13 (by decide) ?_
      exact J_14 _ _ hP hS ls (lv_sub hl [0, 1] rfl)
    ·
      have c_6 := b2i_1 c_6
      exact absurd c_6 (b2i_bf hb1)
  exact go _ _ hP hS

set_option maxHeartbeats 800000 in
set_option maxRecDepth 100000 in
theorem m_lossWith (l : Launch) (D : va_G) (cI cZ : ClassId) (ad : Nat → Nat) (A : Nat → Prop) (F : Nat → Nat → Int32) (ow : Nat → Int32) (mp : Nat → Int32) (nm : Int32) (gb : Int32) (ob : Int32) (ik : Nat → Int32) (kp : Nat → Int32) (tu : Nat → Int32) (g : Nat → Int32) (hA : apD 16 A ad) (x : Nat) (gi : Int32)  (nn : Nat) (hM : okM F g nn) (hxn : x < nn) (hgi : inB gi (-1) 5 = true) : Met l yX5_lossWith wsX5_lossWith (rmr 6 145) (va_Pc [.ref (ad 0), .int (nI x), .int gi] (rdP D ([(cI, .int), (cZ, .boolean)]) (mdW cI cZ ad F ow mp nm gb ob ik kp tu g))) (va_Qi (fun (r : Int32) (_ : Unit) => r = mL F ow x gi) (fun _ t => va_P D vwCl (mdW cI cZ ad F (mOwn F ow x) (fillA mp (mV F ow x gi) 8) (mN F ow x gi) (mGB F ow x gi) (mOB F ow x gi) ik kp tu (va_up g 19 0)) t.heap) A) 0 0 A := by
  refine Met.ofW (cc := cX5_lossWith) (maxL := 3) (ret := (some .int)) (by decide) rfl ?_
  intro p e s m args below meth c s₁ B hml hv
  obtain ⟨hargs, hP, hK, hN⟩ := hv
  have hx := B.exec
  have hb := B.bytes
  have hr := B.returns
  have hts := atoms_spec (ws := wsX5_lossWith) B.pre
  have hown : s.vm.findClass RX5 = some m.cls := findClass_of_methodNamed B.named
  have hlocks := B.notSynchronized
  have hen : entryFrame m args 3 = entryFrame m ([.ref (ad 0), .int (nI x), .int gi] : List Value).toArray 3 := by rw [hargs]
  rw [hen]
  have hl := lv_entry ([.ref (ad 0), .int (nI x), .int gi]) (n := 3) (Nat.le_of_ble_eq_true rfl)
  rw [lg_entry_eq]
  generalize (lg_sl ([.ref (ad 0), .int (nI x), .int gi]) ++ List.replicate (3 - (lg_sl ([.ref (ad 0), .int (nI x), .int gi])).length) Slot.unset).toArray = ls at hl ⊢
  have hl : lv_has ls 3 [(0, .ref (ad 0)), (1, .int (nI x)), (2, .int gi)] := hl
  have hS : va_S A s.heap s.heap [] := va_S.rf
  generalize hQ : MQ below (va_Qi (fun (r : Int32) (_ : Unit) => r = mL F ow x gi) (fun _ t => va_P D vwCl (mdW cI cZ ad F (mOwn F ow x) (fillA mp (mV F ow x gi) 8) (mN F ow x gi) (mGB F ow x gi) (mOB F ow x gi) ik kp tu (va_up g 19 0)) t.heap) A) args s 0 0 A = Q
  have go : ∀ (H : Heap) (locs : List Loc), va_P D vwCl (mdW cI cZ ad F ow mp nm gb ob ik kp tu g) H → va_S A s.heap H locs → W p l e (headSpec wsX5_lossWith (rmr 6 145)).room s m args below meth c H locs 0 0 Q (F0 m 0 ls []) := by
    intro H locs hP hS
    refine lv_aload_n hx hb dX5_lossWith_0 rfl (lv_at hl 0 rfl) ?_
    refine lv_aload_n hx hb dX5_lossWith_1 rfl (lv_at hl 0 rfl) ?_
    refine lv_iload_n hx hb dX5_lossWith_2 rfl (lv_at hl 1 rfl) ?_
    refine vp_callSi (W.runV (As := [.int (nI x)]) (rest := [.ref (ad 0)]) ⟨hx, hb, hml, hown, hts⟩ (k_X5_isFolder l D cI cZ ad F ow mp nm gb ob ik kp tu g (nI x)) (cwV 1 hts gX5_lossWith_X5_isFolder rfl rfl rfl (by decide +kernel) ⟨Nat.le_of_ble_eq_true rfl, Nat.le_of_ble_eq_true rfl⟩) ⟨rd_blind, va_recv hK hP (ci := 6) (q0 := 0) rfl rfl, rd_pre hP hK hN⟩ rfl rfl hl.1 rfl (lv_room (Nat.le_of_ble_eq_true rfl)) dX5_lossWith_3 ⟨Nat.le_of_ble_eq_true rfl, Nat.le_of_ble_eq_true rfl⟩) (fun r er => ?_)
    subst er
    have J_23 : ∀ (H : Heap) (locs : List Loc), va_P D vwCl (mdW cI cZ ad F ow mp nm gb ob ik kp tu g) H → va_S A s.heap H locs → ∀ ls : Array Slot, lv_has ls 3 [(0, .ref (ad 0)), (1, .int (nI x)), (2, .int gi)] → W p l e (headSpec wsX5_lossWith (rmr 6 145)).room s m args below meth c H locs 0 0 Q (F0 m 23 ls [.int 0, .ref (ad 0)]) := by
      intro  H locs hP hS ls hl
      refine va_calli (va_runV (As := [.int 0]) (rest := []) ⟨hx, hb, hml, hown, hts⟩ (k_X5_isFine l D cI cZ ad A F ow mp nm gb ob ik kp tu g hA 0) (cwV 1 hts gX5_lossWith_X5_isFine rfl rfl rfl (by decide +kernel) ⟨Nat.le_of_ble_eq_true rfl, Nat.le_of_ble_eq_true rfl⟩) ⟨rd_blind, va_recv hK hP (ci := 6) (q0 := 0) rfl rfl, rd_pre hP hK hN⟩ rfl rfl hl.1 rfl (lv_room (Nat.le_of_ble_eq_true rfl)) dX5_lossWith_23 ⟨Nat.le_of_ble_eq_true rfl, Nat.le_of_ble_eq_true rfl⟩) hS (fun q _ h => h) (fun q h => h) (fun r u t H locs ht hvm hw hB hz1 hk1 hS => ?_)
      have hP := hB
      rw [ht] at hP
      subst hw
      have hP : va_P D vwCl (mdW cI cZ ad F ow mp nm gb ob ik kp tu (va_up g 19 0)) H := hP
      refine top_eq (y := b2i true) (by decide) ?_
      refine lv_if_eq (tgt := 38) hx hb dX5_lossWith_26 (by decide) (fun c_26 => absurd c_26 (by decide)) (fun c_26 => ?_)
      refine lv_aload_n hx hb dX5_lossWith_29 rfl (lv_at hl 0 rfl) ?_
      refine lv_iload_n hx hb dX5_lossWith_30 rfl (lv_at hl 1 rfl) ?_
      refine lv_iload_n hx hb dX5_lossWith_31 rfl (lv_at hl 2 rfl) ?_
      refine va_calli (va_runV (As := [.int (nI x), .int gi]) (rest := []) ⟨hx, hb, hml, hown, hts⟩ (k_X5_maps l D cI cZ ad A F ow mp nm gb ob ik kp tu (va_up g 19 0) hA x gi nn hM.thr hxn (grp_of hgi)) (cwV 2 hts gX5_lossWith_X5_maps rfl rfl rfl (by decide +kernel) ⟨Nat.le_of_ble_eq_true rfl, Nat.le_of_ble_eq_true rfl⟩) ⟨rd_blind, va_recv hK hP (ci := 6) (q0 := 0) rfl rfl, rd_pre hP hK hN⟩ rfl rfl hl.1 rfl (lv_room (Nat.le_of_ble_eq_true rfl)) dX5_lossWith_32 ⟨Nat.le_of_ble_eq_true rfl, Nat.le_of_ble_eq_true rfl⟩) hS (fun q _ h => h) (fun q h => h) (fun r u t H locs ht hvm hw hB hz1 hk1 hS => ?_)
      have hP := hB
      rw [ht] at hP
      subst hw
      have hP : va_P D vwCl (mdW cI cZ ad F (mOwn F ow x) (fillA mp (mV F ow x gi) 8) (mN F ow x gi) (mGB F ow x gi) (mOB F ow x gi) ik kp tu (va_up g 19 0)) H := hP
      refine lv_goto (tgt := 39) hx hb dX5_lossWith_35 (by decide) ?_
      subst hQ
      have hP : va_P D vwCl (mdW cI cZ ad F (mOwn F ow x) (fillA mp (mV F ow x gi) 8) (mN F ow x gi) (mGB F ow x gi) (mOB F ow x gi) ik kp tu (va_up g 19 0)) H := hP
      exact W.iret (v := mL F ow x gi) hx hb hr (fun t ht _ => ⟨⟨_, (), rfl, (by rfl), by have e := hP; rw [← ht] at e; exact e⟩, hS.F ht⟩) hS.2.2 dX5_lossWith_39
    refine lv_if_eq (tgt := 22) hx hb dX5_lossWith_6 (by decide) (fun c_6 => ?_) (fun c_6 => ?_)
    ·
      have c_6 := b2i_0 c_6
      exact absurd (inB_f hM hxn) (b2i_bf c_6)
    ·
      have c_6 := b2i_1 c_6
      refine lv_iload_n hx hb dX5_lossWith_9 rfl (lv_at hl 2 rfl) ?_
      refine lv_iconst (v := (-1)) hx hb dX5_lossWith_10 (by decide) ?_
      refine lv_iconst (v := 5) hx hb dX5_lossWith_11 (by decide) ?_
      refine vp_callSi (W.runS (As := [.int gi, .int (-1), .int 5]) (rest := [.ref (ad 0)]) ⟨hx, hb, hml, hown, hts⟩ (k_X5_in l gi (-1) 5) (va_cwS 3 hts gX5_lossWith_X5_in rfl rfl rfl (by decide +kernel) ⟨Nat.le_of_ble_eq_true rfl, Nat.le_of_ble_eq_true rfl⟩) ⟨nf_blind, fun U hU hW => ⟨rfl, trivial⟩⟩ rfl rfl hl.1 rfl (lv_room (Nat.le_of_ble_eq_true rfl)) dX5_lossWith_12 ⟨Nat.le_of_ble_eq_true rfl, Nat.le_of_ble_eq_true rfl⟩) (fun r er => ?_)
      subst er
      refine lv_if_eq (tgt := 22) hx hb dX5_lossWith_15 (by decide) (fun c_15 => ?_) (fun c_15 => ?_)
      ·
        have c_15 := b2i_0 c_15
        exact absurd hgi (b2i_bf c_15)
      ·
        have c_15 := b2i_1 c_15
        refine lv_iconst (v := 0) hx hb dX5_lossWith_18 (by decide) ?_
        refine lv_goto (tgt := 23) hx hb dX5_lossWith_19 (by decide) ?_
        exact J_23 _ _ hP hS ls (lv_sub hl [0, 1, 2] rfl)
  exact go _ _ hP hS

set_option maxHeartbeats 800000 in
set_option maxRecDepth 100000 in
theorem m_lossWith_1 (l : Launch) (D : va_G) (cI cZ : ClassId) (ad : Nat → Nat) (A : Nat → Prop) (F : Nat → Nat → Int32) (ow : Nat → Int32) (mp : Nat → Int32) (nm : Int32) (gb : Int32) (ob : Int32) (ik : Nat → Int32) (kp : Nat → Int32) (tu : Nat → Int32) (g : Nat → Int32) (hA : apD 16 A ad) (x0 : Int32) (x1 : Int32)  (hb1 : (inB x0 0 (g 6 - 1) && inB x1 (-1) 5) = false) : Met l yX5_lossWith wsX5_lossWith (rmr 6 145) (va_Pc [.ref (ad 0), .int x0, .int x1] (rdP D ([(cI, .int), (cZ, .boolean)]) (mdW cI cZ ad F ow mp nm gb ob ik kp tu g))) (va_Qi (fun (r : Int32) (_ : Unit) => r = 0) (fun _ t => va_P D vwCl (mdW cI cZ ad F ow mp nm gb ob ik kp tu (va_up g 19 1)) t.heap) A) 0 0 A := by
  refine Met.ofW (cc := cX5_lossWith) (maxL := 3) (ret := (some .int)) (by decide) rfl ?_
  intro p e s m args below meth c s₁ B hml hv
  obtain ⟨hargs, hP, hK, hN⟩ := hv
  have hx := B.exec
  have hb := B.bytes
  have hr := B.returns
  have hts := atoms_spec (ws := wsX5_lossWith) B.pre
  have hown : s.vm.findClass RX5 = some m.cls := findClass_of_methodNamed B.named
  have hlocks := B.notSynchronized
  have hen : entryFrame m args 3 = entryFrame m ([.ref (ad 0), .int x0, .int x1] : List Value).toArray 3 := by rw [hargs]
  rw [hen]
  have hl := lv_entry ([.ref (ad 0), .int x0, .int x1]) (n := 3) (Nat.le_of_ble_eq_true rfl)
  rw [lg_entry_eq]
  generalize (lg_sl ([.ref (ad 0), .int x0, .int x1]) ++ List.replicate (3 - (lg_sl ([.ref (ad 0), .int x0, .int x1])).length) Slot.unset).toArray = ls at hl ⊢
  have hl : lv_has ls 3 [(0, .ref (ad 0)), (1, .int x0), (2, .int x1)] := hl
  have hS : va_S A s.heap s.heap [] := va_S.rf
  generalize hQ : MQ below (va_Qi (fun (r : Int32) (_ : Unit) => r = 0) (fun _ t => va_P D vwCl (mdW cI cZ ad F ow mp nm gb ob ik kp tu (va_up g 19 1)) t.heap) A) args s 0 0 A = Q
  have go : ∀ (H : Heap) (locs : List Loc), va_P D vwCl (mdW cI cZ ad F ow mp nm gb ob ik kp tu g) H → va_S A s.heap H locs → W p l e (headSpec wsX5_lossWith (rmr 6 145)).room s m args below meth c H locs 0 0 Q (F0 m 0 ls []) := by
    intro H locs hP hS
    refine lv_aload_n hx hb dX5_lossWith_0 rfl (lv_at hl 0 rfl) ?_
    refine lv_aload_n hx hb dX5_lossWith_1 rfl (lv_at hl 0 rfl) ?_
    refine lv_iload_n hx hb dX5_lossWith_2 rfl (lv_at hl 1 rfl) ?_
    refine vp_callSi (W.runV (As := [.int x0]) (rest := [.ref (ad 0)]) ⟨hx, hb, hml, hown, hts⟩ (k_X5_isFolder l D cI cZ ad F ow mp nm gb ob ik kp tu g x0) (cwV 1 hts gX5_lossWith_X5_isFolder rfl rfl rfl (by decide +kernel) ⟨Nat.le_of_ble_eq_true rfl, Nat.le_of_ble_eq_true rfl⟩) ⟨rd_blind, va_recv hK hP (ci := 6) (q0 := 0) rfl rfl, rd_pre hP hK hN⟩ rfl rfl hl.1 rfl (lv_room (Nat.le_of_ble_eq_true rfl)) dX5_lossWith_3 ⟨Nat.le_of_ble_eq_true rfl, Nat.le_of_ble_eq_true rfl⟩) (fun r er => ?_)
    subst er
    have J_23 : ∀ (H : Heap) (locs : List Loc), va_P D vwCl (mdW cI cZ ad F ow mp nm gb ob ik kp tu g) H → va_S A s.heap H locs → ∀ ls : Array Slot, lv_has ls 3 [(0, .ref (ad 0)), (1, .int x0), (2, .int x1)] → W p l e (headSpec wsX5_lossWith (rmr 6 145)).room s m args below meth c H locs 0 0 Q (F0 m 23 ls [.int 1, .ref (ad 0)]) := by
      intro  H locs hP hS ls hl
      refine va_calli (va_runV (As := [.int 1]) (rest := []) ⟨hx, hb, hml, hown, hts⟩ (k_X5_isFine l D cI cZ ad A F ow mp nm gb ob ik kp tu g hA 1) (cwV 1 hts gX5_lossWith_X5_isFine rfl rfl rfl (by decide +kernel) ⟨Nat.le_of_ble_eq_true rfl, Nat.le_of_ble_eq_true rfl⟩) ⟨rd_blind, va_recv hK hP (ci := 6) (q0 := 0) rfl rfl, rd_pre hP hK hN⟩ rfl rfl hl.1 rfl (lv_room (Nat.le_of_ble_eq_true rfl)) dX5_lossWith_23 ⟨Nat.le_of_ble_eq_true rfl, Nat.le_of_ble_eq_true rfl⟩) hS (fun q _ h => h) (fun q h => h) (fun r u t H locs ht hvm hw hB hz1 hk1 hS => ?_)
      have hP := hB
      rw [ht] at hP
      subst hw
      have hP : va_P D vwCl (mdW cI cZ ad F ow mp nm gb ob ik kp tu (va_up g 19 1)) H := hP
      refine top_eq (y := b2i false) (by decide) ?_
      refine lv_if_eq (tgt := 38) hx hb dX5_lossWith_26 (by decide) (fun c_26 => ?_) (fun c_26 => absurd rfl c_26)
      refine lv_iconst (v := 0) hx hb dX5_lossWith_38 (by decide) ?_
      subst hQ
      have hP : va_P D vwCl (mdW cI cZ ad F ow mp nm gb ob ik kp tu (va_up g 19 1)) H := hP
      exact W.iret (v := 0) hx hb hr (fun t ht _ => ⟨⟨_, (), rfl, (by rfl), by have e := hP; rw [← ht] at e; exact e⟩, hS.F ht⟩) hS.2.2 dX5_lossWith_39
    refine lv_if_eq (tgt := 22) hx hb dX5_lossWith_6 (by decide) (fun c_6 => ?_) (fun c_6 => ?_)
    ·
      have c_6 := b2i_0 c_6
      refine lv_iconst (v := 1) hx hb dX5_lossWith_22 (by decide) ?_
      exact J_23 _ _ hP hS ls (lv_sub hl [0, 1, 2] rfl)
    ·
      have c_6 := b2i_1 c_6
      refine lv_iload_n hx hb dX5_lossWith_9 rfl (lv_at hl 2 rfl) ?_
      refine lv_iconst (v := (-1)) hx hb dX5_lossWith_10 (by decide) ?_
      refine lv_iconst (v := 5) hx hb dX5_lossWith_11 (by decide) ?_
      refine vp_callSi (W.runS (As := [.int x1, .int (-1), .int 5]) (rest := [.ref (ad 0)]) ⟨hx, hb, hml, hown, hts⟩ (k_X5_in l x1 (-1) 5) (va_cwS 3 hts gX5_lossWith_X5_in rfl rfl rfl (by decide +kernel) ⟨Nat.le_of_ble_eq_true rfl, Nat.le_of_ble_eq_true rfl⟩) ⟨nf_blind, fun U hU hW => ⟨rfl, trivial⟩⟩ rfl rfl hl.1 rfl (lv_room (Nat.le_of_ble_eq_true rfl)) dX5_lossWith_12 ⟨Nat.le_of_ble_eq_true rfl, Nat.le_of_ble_eq_true rfl⟩) (fun r er => ?_)
      subst er
      refine lv_if_eq (tgt := 22) hx hb dX5_lossWith_15 (by decide) (fun c_15 => ?_) (fun c_15 => ?_)
      ·
        have c_15 := b2i_0 c_15
        refine lv_iconst (v := 1) hx hb dX5_lossWith_22 (by decide) ?_
        exact J_23 _ _ hP hS ls (lv_sub hl [0, 1, 2] rfl)
      ·
        have c_15 := b2i_1 c_15
        exact absurd (B2f hb1 c_6 c_15) id
  exact go _ _ hP hS
