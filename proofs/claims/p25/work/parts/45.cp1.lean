set_option maxHeartbeats 800000 in
set_option maxRecDepth 100000 in
theorem k_X4_refuseNoPerson (l : Launch) (x : Nat)  (hx8 : x < 8) : Met l yX4_refuseNoPerson wsX4_refuseNoPerson (rmr 0 0) (va_Pc [.int (nI x)] (fun _ => True)) (va_Sv (fun _ => True)) 0 0 (fun _ => False) := by
  refine Met.ofW (cc := cX4_refuseNoPerson) (maxL := 1) (ret := none) (by decide) rfl ?_
  intro p e s m args below meth c s₁ B hml hv
  obtain ⟨hargs, -⟩ := hv
  have hx := B.exec
  have hb := B.bytes
  have hr := B.returns
  have hts := atoms_spec (ws := wsX4_refuseNoPerson) B.pre
  have hown : s.vm.findClass RX4 = some m.cls := findClass_of_methodNamed B.named
  have hlocks := B.notSynchronized
  have hen : entryFrame m args 1 = entryFrame m ([.int (nI x)] : List Value).toArray 1 := by rw [hargs]
  rw [hen]
  have hl := lv_entry ([.int (nI x)]) (n := 1) (Nat.le_of_ble_eq_true rfl)
  rw [lg_entry_eq]
  generalize (lg_sl ([.int (nI x)]) ++ List.replicate (1 - (lg_sl ([.int (nI x)])).length) Slot.unset).toArray = ls at hl ⊢
  have hl : lv_has ls 1 [(0, .int (nI x))] := hl
  generalize hQ : MQ below (va_Sv (fun _ => True)) args s 0 0 (fun _ => False) = Q
  refine lv_iload_n hx hb dX4_refuseNoPerson_0 rfl (lv_at hl 0 rfl) ?_
  refine lv_if_lt (tgt := 10) hx hb dX4_refuseNoPerson_1 (by decide) (fun c_1 => ?_) (fun c_1 => ?_)
  ·
    exact absurd c_1 (nI_pos (by omega))
  ·
    refine lv_iload_n hx hb dX4_refuseNoPerson_4 rfl (lv_at hl 0 rfl) ?_
    refine lv_bipush (v := 8) hx hb dX4_refuseNoPerson_5 (by decide) ?_
    refine lv_icmp_lt (tgt := 20) hx hb dX4_refuseNoPerson_7 (by decide) (fun c_7 => ?_) (fun c_7 => ?_)
    ·
      subst hQ
      exact W.vret hx hb hr (fun t ht _ => ⟨rfl, (by trivial), ht⟩) (fun _ h => absurd h List.not_mem_nil) dX4_refuseNoPerson_20
    ·
      exact absurd (nI_lt hx8 (by decide)) c_7

set_option maxHeartbeats 800000 in
set_option maxRecDepth 100000 in
theorem k_X4_refuseNoGroup (l : Launch) (x : Nat)  (hx6 : x < 6) : Met l yX4_refuseNoGroup wsX4_refuseNoGroup (rmr 0 0) (va_Pc [.int (nI x)] (fun _ => True)) (va_Sv (fun _ => True)) 0 0 (fun _ => False) := by
  refine Met.ofW (cc := cX4_refuseNoGroup) (maxL := 1) (ret := none) (by decide) rfl ?_
  intro p e s m args below meth c s₁ B hml hv
  obtain ⟨hargs, -⟩ := hv
  have hx := B.exec
  have hb := B.bytes
  have hr := B.returns
  have hts := atoms_spec (ws := wsX4_refuseNoGroup) B.pre
  have hown : s.vm.findClass RX4 = some m.cls := findClass_of_methodNamed B.named
  have hlocks := B.notSynchronized
  have hen : entryFrame m args 1 = entryFrame m ([.int (nI x)] : List Value).toArray 1 := by rw [hargs]
  rw [hen]
  have hl := lv_entry ([.int (nI x)]) (n := 1) (Nat.le_of_ble_eq_true rfl)
  rw [lg_entry_eq]
  generalize (lg_sl ([.int (nI x)]) ++ List.replicate (1 - (lg_sl ([.int (nI x)])).length) Slot.unset).toArray = ls at hl ⊢
  have hl : lv_has ls 1 [(0, .int (nI x))] := hl
  generalize hQ : MQ below (va_Sv (fun _ => True)) args s 0 0 (fun _ => False) = Q
  refine lv_iload_n hx hb dX4_refuseNoGroup_0 rfl (lv_at hl 0 rfl) ?_
  refine lv_if_lt (tgt := 10) hx hb dX4_refuseNoGroup_1 (by decide) (fun c_1 => ?_) (fun c_1 => ?_)
  ·
    exact absurd c_1 (nI_pos (by omega))
  ·
    refine lv_iload_n hx hb dX4_refuseNoGroup_4 rfl (lv_at hl 0 rfl) ?_
    refine lv_bipush (v := 6) hx hb dX4_refuseNoGroup_5 (by decide) ?_
    refine lv_icmp_lt (tgt := 20) hx hb dX4_refuseNoGroup_7 (by decide) (fun c_7 => ?_) (fun c_7 => ?_)
    ·
      subst hQ
      exact W.vret hx hb hr (fun t ht _ => ⟨rfl, (by trivial), ht⟩) (fun _ h => absurd h List.not_mem_nil) dX4_refuseNoGroup_20
    ·
      exact absurd (nI_lt hx6 (by decide)) c_7

set_option maxHeartbeats 800000 in
set_option maxRecDepth 100000 in
theorem k_X4_folderAt (l : Launch) (D : va_G) (cI cZ cO : ClassId) {L : List Nat} {f : Nat → va_E} {tg : Nat → Nat} {AD : Nat → Nat → Nat} {mc : Nat → Int32} {F : Nat → Nat → Int32} {ik kp tu : Nat → Int32} {n : Nat} {he gv : Nat → Int32} {gp gb ob nm lo : Int32} (hR : Rep cI cO L f tg AD mc F ik kp tu n he gv gp gb ob nm lo) (x : Nat)  (hxn : x < n) : Met l yX4_folderAt wsX4_folderAt (rmr 3 64) (va_Pc [.ref (AD 0 0), .int (nI x)] (rdP D ([(cI, .int), (cI, .int), (cO, .object "java/lang/Object")]) (va_pl L f))) (va_Sq (fun r => r = some (AD 1 x))) 0 0 (fun _ => False) := by
  refine Met.ofW (cc := cX4_folderAt) (maxL := 2) (ret := (some (.object "ShareMover$Folder"))) (by decide) rfl ?_
  intro p e s m args below meth c s₁ B hml hv
  obtain ⟨hargs, hP, hK, hN⟩ := hv
  have hx := B.exec
  have hb := B.bytes
  have hr := B.returns
  have hts := atoms_spec (ws := wsX4_folderAt) B.pre
  have hown : s.vm.findClass RX4 = some m.cls := findClass_of_methodNamed B.named
  have hlocks := B.notSynchronized
  have hen : entryFrame m args 2 = entryFrame m ([.ref (AD 0 0), .int (nI x)] : List Value).toArray 2 := by rw [hargs]
  rw [hen]
  have hl := lv_entry ([.ref (AD 0 0), .int (nI x)]) (n := 2) (Nat.le_of_ble_eq_true rfl)
  rw [lg_entry_eq]
  generalize (lg_sl ([.ref (AD 0 0), .int (nI x)]) ++ List.replicate (2 - (lg_sl ([.ref (AD 0 0), .int (nI x)])).length) Slot.unset).toArray = ls at hl ⊢
  have hl : lv_has ls 2 [(0, .ref (AD 0 0)), (1, .int (nI x))] := hl
  generalize hQ : MQ below (va_Sq (fun r => r = some (AD 1 x))) args s 0 0 (fun _ => False) = Q
  have hn22 := hR.n22
  refine lv_iload_n hx hb dX4_folderAt_0 rfl (lv_at hl 1 rfl) ?_
  refine lv_if_lt (tgt := 15) hx hb dX4_folderAt_1 (by decide) (fun c_1 => ?_) (fun c_1 => ?_)
  ·
    exact absurd c_1 (nI_pos (by omega))
  ·
    refine lv_iload_n hx hb dX4_folderAt_4 rfl (lv_at hl 1 rfl) ?_
    refine lv_aload_n hx hb dX4_folderAt_5 rfl (lv_at hl 0 rfl) ?_
    obtain ⟨kp1, ep1⟩ := (hR.x).at
    refine va_get (D := D) (ci := 5) (v := .ref (AD 0 8)) (C := RX4) (T := TX4) (N := 3) hx hb hts (fun _ h => List.mem_cons_of_mem _ (List.mem_append_left _ (List.mem_append_left _ (List.mem_append_right _ (h))))) hown hK hP kp1 ep1 rfl 1 (by decide) (hts _ (List.mem_of_getElem? (i := 3) rfl)) (fun _ h9 => h9) rfl dX4_folderAt_6 ?_
    obtain ⟨kp2, ep2⟩ := (hR.t).at
    obtain ⟨kp3, ep3⟩ := (hR.t).at
    refine vp_callSi (W.runV (As := []) (rest := [.int (nI x)]) ⟨hx, hb, hml, hown, hts⟩ (k_Jx4a65c_size_8abf5 l D cI cZ cO ep2 ) (cwV 0 hts gX4_folderAt_Jx4a65c_size_8abf5 rfl rfl rfl (by decide +kernel) ⟨Nat.le_of_ble_eq_true rfl, Nat.le_of_ble_eq_true rfl⟩) ⟨rd_blind, va_recv hK hP (ci := 0) (q0 := kp3) rfl ep3, rd_pre hP hK hN⟩ rfl rfl hl.1 rfl (lv_room (Nat.le_of_ble_eq_true rfl)) dX4_folderAt_9 ⟨Nat.le_of_ble_eq_true rfl, Nat.le_of_ble_eq_true rfl⟩) (fun r er => ?_)
    subst er
    refine lv_icmp_lt (tgt := 25) hx hb dX4_folderAt_12 (by decide) (fun c_12 => ?_) (fun c_12 => ?_)
    ·
      refine lv_aload_n hx hb dX4_folderAt_25 rfl (lv_at hl 0 rfl) ?_
      obtain ⟨kp4, ep4⟩ := (hR.x).at
      refine va_get (D := D) (ci := 5) (v := .ref (AD 0 8)) (C := RX4) (T := TX4) (N := 3) hx hb hts (fun _ h => List.mem_cons_of_mem _ (List.mem_append_left _ (List.mem_append_left _ (List.mem_append_right _ (h))))) hown hK hP kp4 ep4 rfl 1 (by decide) (hts _ (List.mem_of_getElem? (i := 3) rfl)) (fun _ h9 => h9) rfl dX4_folderAt_26 ?_
      refine lv_iload_n hx hb dX4_folderAt_29 rfl (lv_at hl 1 rfl) ?_
      obtain ⟨kp5, ep5⟩ := (hR.t).at
      obtain ⟨mp6, qp6, hhp6, hmp6, hnp6, hvp6⟩ := hR.td
      obtain ⟨kp6, ep6⟩ := (hhp6).at
      obtain ⟨kp7, ep7⟩ := (hR.t).at
      refine va_csq (W.runV (As := [.int (nI x)]) (rest := []) ⟨hx, hb, hml, hown, hts⟩ (k_Jx4a65c_get_915e3 l D cI cZ cO ep5 ep6 x n rfl hxn (by omega) (by omega)) (cwV 1 hts gX4_folderAt_Jx4a65c_get_915e3 rfl rfl rfl (by decide +kernel) ⟨Nat.le_of_ble_eq_true rfl, Nat.le_of_ble_eq_true rfl⟩) ⟨rd_blind, va_recv hK hP (ci := 0) (q0 := kp7) rfl ep7, rd_pre hP hK hN⟩ rfl rfl hl.1 rfl (lv_room (Nat.le_of_ble_eq_true rfl)) dX4_folderAt_30 ⟨Nat.le_of_ble_eq_true rfl, Nat.le_of_ble_eq_true rfl⟩) (fun r er => ?_)
      subst er
      refine top_rf (q := AD 1 x) (by exact hvp6 x hxn) ?_
      obtain ⟨kp8, ep8⟩ := (hR.fo (i := x) (by omega)).at
      refine va_castS (nm := RX1) (cC := D.1 2) hx hb hown (hts _ (List.mem_of_getElem? (i := 4) rfl)) (hK.1 2 _ rfl).2 (va_recv hK hP (ci := 2) (q0 := kp8) rfl ep8) dX4_folderAt_33 ?_
      subst hQ
      exact W.aret (v := va_rf (some (AD 1 x))) hx hb hr (Or.inl ⟨_, rfl⟩) (va_rf_or _) (fun t ht _ => ⟨some (AD 1 x), rfl, (by rfl), ht⟩) (fun _ h => absurd h List.not_mem_nil) dX4_folderAt_36
    ·
      exact absurd (nI_lt hxn (by omega)) c_12

set_option maxHeartbeats 800000 in
set_option maxRecDepth 100000 in
theorem k_X4_members (l : Launch) (D : va_G) (cI cZ cO : ClassId) {L : List Nat} {f : Nat → va_E} {tg : Nat → Nat} {AD : Nat → Nat → Nat} {mc : Nat → Int32} {F : Nat → Nat → Int32} {ik kp tu : Nat → Int32} {n : Nat} {he gv : Nat → Int32} {gp gb ob nm lo : Int32} (hR : Rep cI cO L f tg AD mc F ik kp tu n he gv gp gb ob nm lo) (x : Nat)  (hx6 : x < 6) : Met l yX4_members wsX4_members (rmr 1 21) (va_Pc [.ref (AD 0 0), .int (nI x)] (rdP D ([(cI, .int), (cI, .int), (cO, .object "java/lang/Object")]) (va_pl L f))) (vp_Si (fun r => r = mMem F x)) 0 0 (fun _ => False) := by
  refine Met.ofW (cc := cX4_members) (maxL := 2) (ret := (some .int)) (by decide) rfl ?_
  intro p e s m args below meth c s₁ B hml hv
  obtain ⟨hargs, hP, hK, hN⟩ := hv
  have hx := B.exec
  have hb := B.bytes
  have hr := B.returns
  have hts := atoms_spec (ws := wsX4_members) B.pre
  have hown : s.vm.findClass RX4 = some m.cls := findClass_of_methodNamed B.named
  have hlocks := B.notSynchronized
  have hen : entryFrame m args 2 = entryFrame m ([.ref (AD 0 0), .int (nI x)] : List Value).toArray 2 := by rw [hargs]
  rw [hen]
  have hl := lv_entry ([.ref (AD 0 0), .int (nI x)]) (n := 2) (Nat.le_of_ble_eq_true rfl)
  rw [lg_entry_eq]
  generalize (lg_sl ([.ref (AD 0 0), .int (nI x)]) ++ List.replicate (2 - (lg_sl ([.ref (AD 0 0), .int (nI x)])).length) Slot.unset).toArray = ls at hl ⊢
  have hl : lv_has ls 2 [(0, .ref (AD 0 0)), (1, .int (nI x))] := hl
  generalize hQ : MQ below (vp_Si (fun r => r = mMem F x)) args s 0 0 (fun _ => False) = Q
  refine lv_iload_n hx hb dX4_members_0 rfl (lv_at hl 1 rfl) ?_
  refine va_csv (W.runS (As := [.int (nI x)]) (rest := []) ⟨hx, hb, hml, hown, hts⟩ (k_X4_refuseNoGroup l x (by omega)) (va_cwS 1 hts gX4_members_X4_refuseNoGroup rfl rfl rfl (by decide +kernel) ⟨Nat.le_of_ble_eq_true rfl, Nat.le_of_ble_eq_true rfl⟩) ⟨nf_blind, fun U hU hW => ⟨rfl, trivial⟩⟩ rfl rfl hl.1 rfl (lv_room (Nat.le_of_ble_eq_true rfl)) dX4_members_1 ⟨Nat.le_of_ble_eq_true rfl, Nat.le_of_ble_eq_true rfl⟩) (fun _ => ?_)
  refine lv_aload_n hx hb dX4_members_4 rfl (lv_at hl 0 rfl) ?_
  obtain ⟨kp1, ep1⟩ := (hR.x).at
  refine va_get (D := D) (ci := 5) (v := .ref (AD 0 1)) (C := RX4) (T := TX4) (N := 3) hx hb hts (fun _ h => List.mem_cons_of_mem _ (List.mem_append_left _ (List.mem_append_left _ (List.mem_append_right _ (h))))) hown hK hP kp1 ep1 rfl 0 (by decide) (hts _ (List.mem_of_getElem? (i := 1) rfl)) (fun _ h9 => h9) rfl dX4_members_5 ?_
  refine lv_iload_n hx hb dX4_members_8 rfl (lv_at hl 1 rfl) ?_
  obtain ⟨ev, hPg, hev⟩ := rp_gr hR hP
  refine vp_callSi (W.runV (As := [.int (nI x)]) (rest := []) ⟨hx, hb, hml, hown, hts⟩ (k_X2_everyoneIn l D cI cZ cO (fun k => AD 0 (k + 1)) (F 1) (F 2) ev x (by omega)) (cwV 1 hts gX4_members_X2_everyoneIn rfl rfl rfl (by decide +kernel) ⟨Nat.le_of_ble_eq_true rfl, Nat.le_of_ble_eq_true rfl⟩) ⟨rd_blind, va_recv hK hPg (ci := 3) (q0 := 0) rfl rfl, rd_pre hPg hK hN⟩ rfl rfl hl.1 rfl (lv_room (Nat.le_of_ble_eq_true rfl)) dX4_members_9 ⟨Nat.le_of_ble_eq_true rfl, Nat.le_of_ble_eq_true rfl⟩) (fun r er => ?_)
  subst er
  refine top_eq (y := mMem F x) (by exact hev _ hx6) ?_
  subst hQ
  exact W.iret (v := mMem F x) hx hb hr (fun t ht _ => ⟨_, rfl, (by rfl), ht⟩) (fun _ h => absurd h List.not_mem_nil) dX4_members_12

set_option maxHeartbeats 800000 in
set_option maxRecDepth 100000 in
theorem k_X4_setMember (l : Launch) (D : va_G) (cI cZ cO : ClassId) {L : List Nat} {f : Nat → va_E} {tg : Nat → Nat} {AD : Nat → Nat → Nat} {mc : Nat → Int32} {F : Nat → Nat → Int32} {ik kp tu : Nat → Int32} {n : Nat} {he gv : Nat → Int32} {gp gb ob nm lo : Int32} (hR : Rep cI cO L f tg AD mc F ik kp tu n he gv gp gb ob nm lo) (A : Nat → Prop) (hL : L.Nodup) (hA : ∀ a, a ∈ L → A a) (x : Nat) (y : Nat) (b : Bool)  (hx6 : x < 6) (hy8 : y < 8) (hlw : ∀ k, k < 6 → low6 (F 2 k)) : Met l yX4_setMember wsX4_setMember (rmr 4 93) (va_Pc [.ref (AD 0 0), .int (nI x), .int (nI y), .int (b2i b)] (rdP D ([(cI, .int), (cI, .int), (cO, .object "java/lang/Object")]) (va_pl L f))) (va_Qi (fun (r : Int32) (_ : Unit) => r = b2i (hasB (F 1 x) (nI y))) (fun _ t => PB D cI cO L tg AD mc (va_up F 1 (upd (F 1) x (if b = true then F 1 x ||| ((1 : Int32) <<< (nI y &&& 31)) else F 1 x &&& (((1 : Int32) <<< (nI y &&& 31)) ^^^ (-1))))) ik kp tu n he gv gp gb ob nm lo t) A) 0 0 A := by
  refine Met.ofW (cc := cX4_setMember) (maxL := 4) (ret := (some .boolean)) (by decide) rfl ?_
  intro p e s m args below meth c s₁ B hml hv
  obtain ⟨hargs, hP, hK, hN⟩ := hv
  have hx := B.exec
  have hb := B.bytes
  have hr := B.returns
  have hts := atoms_spec (ws := wsX4_setMember) B.pre
  have hown : s.vm.findClass RX4 = some m.cls := findClass_of_methodNamed B.named
  have hlocks := B.notSynchronized
  have hen : entryFrame m args 4 = entryFrame m ([.ref (AD 0 0), .int (nI x), .int (nI y), .int (b2i b)] : List Value).toArray 4 := by rw [hargs]
  rw [hen]
  have hl := lv_entry ([.ref (AD 0 0), .int (nI x), .int (nI y), .int (b2i b)]) (n := 4) (Nat.le_of_ble_eq_true rfl)
  rw [lg_entry_eq]
  generalize (lg_sl ([.ref (AD 0 0), .int (nI x), .int (nI y), .int (b2i b)]) ++ List.replicate (4 - (lg_sl ([.ref (AD 0 0), .int (nI x), .int (nI y), .int (b2i b)])).length) Slot.unset).toArray = ls at hl ⊢
  have hl : lv_has ls 4 [(0, .ref (AD 0 0)), (1, .int (nI x)), (2, .int (nI y)), (3, .int (b2i b))] := hl
  have hS : va_S A s.heap s.heap [] := va_S.rf
  generalize hQ : MQ below (va_Qi (fun (r : Int32) (_ : Unit) => r = b2i (hasB (F 1 x) (nI y))) (fun _ t => PB D cI cO L tg AD mc (va_up F 1 (upd (F 1) x (if b = true then F 1 x ||| ((1 : Int32) <<< (nI y &&& 31)) else F 1 x &&& (((1 : Int32) <<< (nI y &&& 31)) ^^^ (-1))))) ik kp tu n he gv gp gb ob nm lo t) A) args s 0 0 A = Q
  have go : ∀ (f : Nat → va_E) (H : Heap) (locs : List Loc), va_P D vwCl (va_pl L f) H → Rep cI cO L f tg AD mc F ik kp tu n he gv gp gb ob nm lo → va_S A s.heap H locs → W p l e (headSpec wsX4_setMember (rmr 4 93)).room s m args below meth c H locs 0 0 Q (F0 m 0 ls []) := by
    intro f H locs hP hR hS
    refine lv_iload_n hx hb dX4_setMember_0 rfl (lv_at hl 1 rfl) ?_
    refine va_csv (W.runS (As := [.int (nI x)]) (rest := []) ⟨hx, hb, hml, hown, hts⟩ (k_X4_refuseNoGroup l x (by omega)) (va_cwS 1 hts gX4_setMember_X4_refuseNoGroup rfl rfl rfl (by decide +kernel) ⟨Nat.le_of_ble_eq_true rfl, Nat.le_of_ble_eq_true rfl⟩) ⟨nf_blind, fun U hU hW => ⟨rfl, trivial⟩⟩ rfl rfl hl.1 rfl (lv_room (Nat.le_of_ble_eq_true rfl)) dX4_setMember_1 ⟨Nat.le_of_ble_eq_true rfl, Nat.le_of_ble_eq_true rfl⟩) (fun _ => ?_)
    refine lv_iload_n hx hb dX4_setMember_4 rfl (lv_at hl 2 rfl) ?_
    refine va_csv (W.runS (As := [.int (nI y)]) (rest := []) ⟨hx, hb, hml, hown, hts⟩ (k_X4_refuseNoPerson l y (by omega)) (va_cwS 1 hts gX4_setMember_X4_refuseNoPerson rfl rfl rfl (by decide +kernel) ⟨Nat.le_of_ble_eq_true rfl, Nat.le_of_ble_eq_true rfl⟩) ⟨nf_blind, fun U hU hW => ⟨rfl, trivial⟩⟩ rfl rfl hl.1 rfl (lv_room (Nat.le_of_ble_eq_true rfl)) dX4_setMember_5 ⟨Nat.le_of_ble_eq_true rfl, Nat.le_of_ble_eq_true rfl⟩) (fun _ => ?_)
    refine lv_aload_n hx hb dX4_setMember_8 rfl (lv_at hl 0 rfl) ?_
    obtain ⟨kp1, ep1⟩ := (hR.x).at
    refine va_get (D := D) (ci := 5) (v := .ref (AD 0 1)) (C := RX4) (T := TX4) (N := 3) hx hb hts (fun _ h => List.mem_cons_of_mem _ (List.mem_append_left _ (List.mem_append_left _ (List.mem_append_right _ (h))))) hown hK hP kp1 ep1 rfl 0 (by decide) (hts _ (List.mem_of_getElem? (i := 1) rfl)) (fun _ h9 => h9) rfl dX4_setMember_9 ?_
    refine lv_iload_n hx hb dX4_setMember_12 rfl (lv_at hl 1 rfl) ?_
    refine lv_iload_n hx hb dX4_setMember_13 rfl (lv_at hl 2 rfl) ?_
    refine lv_iload_n hx hb dX4_setMember_14 rfl (lv_at hl 3 rfl) ?_
    obtain ⟨ev, hPg, hev⟩ := rp_gr hR hP
    refine va_calli (va_runV (As := [.int (nI x), .int (nI y), .int (b2i b)]) (rest := []) ⟨hx, hb, hml, hown, hts⟩ (k_X2_put l D cI cZ cO (fun k => AD 0 (k + 1)) (grA AD) (F 1) (F 2) ev hR.grAp x y b (by omega)) (cwV 3 hts gX4_setMember_X2_put rfl rfl rfl (by decide +kernel) ⟨Nat.le_of_ble_eq_true rfl, Nat.le_of_ble_eq_true rfl⟩) ⟨rd_blind, va_recv hK hPg (ci := 3) (q0 := 0) rfl rfl, rd_pre hPg hK hN⟩ rfl rfl hl.1 rfl (lv_room (Nat.le_of_ble_eq_true rfl)) dX4_setMember_15 ⟨Nat.le_of_ble_eq_true rfl, Nat.le_of_ble_eq_true rfl⟩) hS (fun q _ h => hR.grSub hA h) (fun q h => hR.grSub hA h) (fun r u t H locs ht hvm hw hB hz1 hk1 hS => ?_)
    have hP1 := hB
    rw [ht] at hP1
    subst hw
    obtain ⟨f, hP, hR⟩ := hR.call_gr (F' := va_up F 1 (upd (F 1) x (if b = true then F 1 x ||| ((1 : Int32) <<< (nI y &&& 31)) else F 1 x &&& (((1 : Int32) <<< (nI y &&& 31)) ^^^ (-1))))) hP hk1 hP1 (grp_set (F 1) x (by omega) b) rfl (fun k hk => va_up_ne _ _ (by omega)) (ev_if (F := F) (F' := va_up F 1 (upd (F 1) x (if b = true then F 1 x ||| ((1 : Int32) <<< (nI y &&& 31)) else F 1 x &&& (((1 : Int32) <<< (nI y &&& 31)) ^^^ (-1))))) (grp_set (F 1) x (by omega) b) rfl hlw hev)
    subst hQ
    have hrt : (b2i (hasB ((F 1) x) (nI y)) : Int32) = b2i (hasB (F 1 x) (nI y)) := by rfl
    exact W.zret (v := b2i (hasB ((F 1) x) (nI y))) hx hb hr (by rw [hrt]; exact nar_b2i _) (fun t ht hW => ⟨⟨_, (), rfl, hrt, ⟨_, by have e := hP; rw [← ht] at e; exact e, hR⟩⟩, hS.F ht⟩) hS.2.2 dX4_setMember_18
  exact go _ _ _ hP hR hS

set_option maxHeartbeats 800000 in
set_option maxRecDepth 100000 in
theorem k_X4_nest (l : Launch) (D : va_G) (cI cZ cO : ClassId) {L : List Nat} {f : Nat → va_E} {tg : Nat → Nat} {AD : Nat → Nat → Nat} {mc : Nat → Int32} {F : Nat → Nat → Int32} {ik kp tu : Nat → Int32} {n : Nat} {he gv : Nat → Int32} {gp gb ob nm lo : Int32} (hR : Rep cI cO L f tg AD mc F ik kp tu n he gv gp gb ob nm lo) (A : Nat → Prop) (hL : L.Nodup) (hA : ∀ a, a ∈ L → A a) (x : Nat) (y : Nat)  (hx6 : x < 6) (hy6 : y < 6) (hlw : ∀ k, k < 6 → low6 (F 2 k)) (hc : hasB (cRch (F 2) y) (nI x) = false) : Met l yX4_nest wsX4_nest (rmr 4 91) (va_Pc [.ref (AD 0 0), .int (nI x), .int (nI y)] (rdP D ([(cI, .int), (cI, .int), (cO, .object "java/lang/Object")]) (va_pl L f))) (va_Qi (fun (r : Int32) (_ : Unit) => r = b2i (hasB (F 2 x ^^^ ((1 : Int32) <<< (nI y &&& 31))) (nI y))) (fun _ t => PB D cI cO L tg AD mc (va_up F 2 (upd (F 2) x (F 2 x ^^^ ((1 : Int32) <<< (nI y &&& 31))))) ik kp tu n he gv gp gb ob nm lo t) A) 0 0 A := by
  refine Met.ofW (cc := cX4_nest) (maxL := 3) (ret := (some .boolean)) (by decide) rfl ?_
  intro p e s m args below meth c s₁ B hml hv
  obtain ⟨hargs, hP, hK, hN⟩ := hv
  have hx := B.exec
  have hb := B.bytes
  have hr := B.returns
  have hts := atoms_spec (ws := wsX4_nest) B.pre
  have hown : s.vm.findClass RX4 = some m.cls := findClass_of_methodNamed B.named
  have hlocks := B.notSynchronized
  have hen : entryFrame m args 3 = entryFrame m ([.ref (AD 0 0), .int (nI x), .int (nI y)] : List Value).toArray 3 := by rw [hargs]
  rw [hen]
  have hl := lv_entry ([.ref (AD 0 0), .int (nI x), .int (nI y)]) (n := 3) (Nat.le_of_ble_eq_true rfl)
  rw [lg_entry_eq]
  generalize (lg_sl ([.ref (AD 0 0), .int (nI x), .int (nI y)]) ++ List.replicate (3 - (lg_sl ([.ref (AD 0 0), .int (nI x), .int (nI y)])).length) Slot.unset).toArray = ls at hl ⊢
  have hl : lv_has ls 3 [(0, .ref (AD 0 0)), (1, .int (nI x)), (2, .int (nI y))] := hl
  have hS : va_S A s.heap s.heap [] := va_S.rf
  generalize hQ : MQ below (va_Qi (fun (r : Int32) (_ : Unit) => r = b2i (hasB (F 2 x ^^^ ((1 : Int32) <<< (nI y &&& 31))) (nI y))) (fun _ t => PB D cI cO L tg AD mc (va_up F 2 (upd (F 2) x (F 2 x ^^^ ((1 : Int32) <<< (nI y &&& 31))))) ik kp tu n he gv gp gb ob nm lo t) A) args s 0 0 A = Q
  have go : ∀ (f : Nat → va_E) (H : Heap) (locs : List Loc), va_P D vwCl (va_pl L f) H → Rep cI cO L f tg AD mc F ik kp tu n he gv gp gb ob nm lo → va_S A s.heap H locs → W p l e (headSpec wsX4_nest (rmr 4 91)).room s m args below meth c H locs 0 0 Q (F0 m 0 ls []) := by
    intro f H locs hP hR hS
    refine lv_iload_n hx hb dX4_nest_0 rfl (lv_at hl 1 rfl) ?_
    refine va_csv (W.runS (As := [.int (nI x)]) (rest := []) ⟨hx, hb, hml, hown, hts⟩ (k_X4_refuseNoGroup l x (by omega)) (va_cwS 1 hts gX4_nest_X4_refuseNoGroup rfl rfl rfl (by decide +kernel) ⟨Nat.le_of_ble_eq_true rfl, Nat.le_of_ble_eq_true rfl⟩) ⟨nf_blind, fun U hU hW => ⟨rfl, trivial⟩⟩ rfl rfl hl.1 rfl (lv_room (Nat.le_of_ble_eq_true rfl)) dX4_nest_1 ⟨Nat.le_of_ble_eq_true rfl, Nat.le_of_ble_eq_true rfl⟩) (fun _ => ?_)
    refine lv_iload_n hx hb dX4_nest_4 rfl (lv_at hl 2 rfl) ?_
    refine va_csv (W.runS (As := [.int (nI y)]) (rest := []) ⟨hx, hb, hml, hown, hts⟩ (k_X4_refuseNoGroup l y (by omega)) (va_cwS 1 hts gX4_nest_X4_refuseNoGroup rfl rfl rfl (by decide +kernel) ⟨Nat.le_of_ble_eq_true rfl, Nat.le_of_ble_eq_true rfl⟩) ⟨nf_blind, fun U hU hW => ⟨rfl, trivial⟩⟩ rfl rfl hl.1 rfl (lv_room (Nat.le_of_ble_eq_true rfl)) dX4_nest_5 ⟨Nat.le_of_ble_eq_true rfl, Nat.le_of_ble_eq_true rfl⟩) (fun _ => ?_)
    refine lv_aload_n hx hb dX4_nest_8 rfl (lv_at hl 0 rfl) ?_
    obtain ⟨kp1, ep1⟩ := (hR.x).at
    refine va_get (D := D) (ci := 5) (v := .ref (AD 0 1)) (C := RX4) (T := TX4) (N := 3) hx hb hts (fun _ h => List.mem_cons_of_mem _ (List.mem_append_left _ (List.mem_append_left _ (List.mem_append_left _ (List.mem_append_right _ (h)))))) hown hK hP kp1 ep1 rfl 0 (by decide) (hts _ (List.mem_of_getElem? (i := 3) rfl)) (fun _ h9 => h9) rfl dX4_nest_9 ?_
    refine lv_iload_n hx hb dX4_nest_12 rfl (lv_at hl 2 rfl) ?_
    obtain ⟨ev, hPg, hev⟩ := rp_gr hR hP
    refine vp_callSi (W.runV (As := [.int (nI y)]) (rest := []) ⟨hx, hb, hml, hown, hts⟩ (k_X2_reachedFrom l D cI cZ cO (fun k => AD 0 (k + 1)) (F 1) (F 2) ev y) (cwV 1 hts gX4_nest_X2_reachedFrom rfl rfl rfl (by decide +kernel) ⟨Nat.le_of_ble_eq_true rfl, Nat.le_of_ble_eq_true rfl⟩) ⟨rd_blind, va_recv hK hPg (ci := 3) (q0 := 0) rfl rfl, rd_pre hPg hK hN⟩ rfl rfl hl.1 rfl (lv_room (Nat.le_of_ble_eq_true rfl)) dX4_nest_13 ⟨Nat.le_of_ble_eq_true rfl, Nat.le_of_ble_eq_true rfl⟩) (fun r er => ?_)
    subst er
    refine lv_iload_n hx hb dX4_nest_16 rfl (lv_at hl 1 rfl) ?_
    refine vp_callSi (W.runS (As := [.int (cRch (F 2) y), .int (nI x)]) (rest := []) ⟨hx, hb, hml, hown, hts⟩ (k_X4_contains l (cRch (F 2) y) (nI x)) (va_cwS 2 hts gX4_nest_X4_contains rfl rfl rfl (by decide +kernel) ⟨Nat.le_of_ble_eq_true rfl, Nat.le_of_ble_eq_true rfl⟩) ⟨nf_blind, fun U hU hW => ⟨rfl, trivial⟩⟩ rfl rfl hl.1 rfl (lv_room (Nat.le_of_ble_eq_true rfl)) dX4_nest_17 ⟨Nat.le_of_ble_eq_true rfl, Nat.le_of_ble_eq_true rfl⟩) (fun r er => ?_)
    subst er
    refine lv_if_eq (tgt := 33) hx hb dX4_nest_20 (by decide) (fun c_20 => ?_) (fun c_20 => ?_)
    ·
      have c_20 := b2i_0 c_20
      refine lv_aload_n hx hb dX4_nest_33 rfl (lv_at hl 0 rfl) ?_
      obtain ⟨kp2, ep2⟩ := (hR.x).at
      refine va_get (D := D) (ci := 5) (v := .ref (AD 0 1)) (C := RX4) (T := TX4) (N := 3) hx hb hts (fun _ h => List.mem_cons_of_mem _ (List.mem_append_left _ (List.mem_append_left _ (List.mem_append_left _ (List.mem_append_right _ (h)))))) hown hK hP kp2 ep2 rfl 0 (by decide) (hts _ (List.mem_of_getElem? (i := 3) rfl)) (fun _ h9 => h9) rfl dX4_nest_34 ?_
      refine lv_iload_n hx hb dX4_nest_37 rfl (lv_at hl 1 rfl) ?_
      refine lv_iload_n hx hb dX4_nest_38 rfl (lv_at hl 2 rfl) ?_
      obtain ⟨ev, hPg, hev⟩ := rp_gr hR hP
      refine va_calli (va_runV (As := [.int (nI x), .int (nI y)]) (rest := []) ⟨hx, hb, hml, hown, hts⟩ (k_X2_toggleInner l D cI cZ cO (fun k => AD 0 (k + 1)) (grA AD) (F 1) (F 2) ev hR.grAp x y (by omega)) (cwV 2 hts gX4_nest_X2_toggleInner rfl rfl rfl (by decide +kernel) ⟨Nat.le_of_ble_eq_true rfl, Nat.le_of_ble_eq_true rfl⟩) ⟨rd_blind, va_recv hK hPg (ci := 3) (q0 := 0) rfl rfl, rd_pre hPg hK hN⟩ rfl rfl hl.1 rfl (lv_room (Nat.le_of_ble_eq_true rfl)) dX4_nest_39 ⟨Nat.le_of_ble_eq_true rfl, Nat.le_of_ble_eq_true rfl⟩) hS (fun q _ h => hR.grSub hA h) (fun q h => hR.grSub hA h) (fun r u t H locs ht hvm hw hB hz1 hk1 hS => ?_)
      have hP1 := hB
      rw [ht] at hP1
      subst hw
      obtain ⟨f, hP, hR⟩ := hR.call_gr (F' := va_up F 2 (upd (F 2) x (F 2 x ^^^ ((1 : Int32) <<< (nI y &&& 31))))) hP hk1 hP1 rfl rfl (fun k hk => va_up_ne _ _ (by omega)) (ev_new (F := va_up F 2 (upd (F 2) x (F 2 x ^^^ ((1 : Int32) <<< (nI y &&& 31))))) (low_nest hlw x hy6) ev)
      subst hQ
      have hrt : (b2i (hasB ((F 2) x ^^^ ((1 : Int32) <<< (nI y &&& 31))) (nI y)) : Int32) = b2i (hasB (F 2 x ^^^ ((1 : Int32) <<< (nI y &&& 31))) (nI y)) := by rfl
      exact W.zret (v := b2i (hasB ((F 2) x ^^^ ((1 : Int32) <<< (nI y &&& 31))) (nI y))) hx hb hr (by rw [hrt]; exact nar_b2i _) (fun t ht hW => ⟨⟨_, (), rfl, hrt, ⟨_, by have e := hP; rw [← ht] at e; exact e, hR⟩⟩, hS.F ht⟩) hS.2.2 dX4_nest_42
    ·
      have c_20 := b2i_1 c_20
      exact absurd c_20 (b2i_bf hc)
  exact go _ _ _ hP hR hS
