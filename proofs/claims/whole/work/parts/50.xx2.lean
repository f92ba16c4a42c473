set_option maxHeartbeats 800000 in
set_option maxRecDepth 100000 in
theorem x_setMember_a (l : Launch) (hl0 : l.stackTraces = false) (D : va_G) (cI cZ cO : ClassId) {L : List Nat} {f : Nat → va_E} {tg : Nat → Nat} {AD : Nat → Nat → Nat} {mc : Nat → Int32} {F : Nat → Nat → Int32} {ik kp tu : Nat → Int32} {n : Nat} {he gv : Nat → Int32} {gp gb ob nm lo : Int32} (hR : Rep cI cO L f tg AD mc F ik kp tu n he gv gp gb ob nm lo) (x0 : Int32) (x1 : Int32) (b : Bool) (hb1 : inB x0 0 5 = false) : vx_Met l yX4_setMember wsX4_setMember (rmx 7 102) (va_Pc [.ref (AD 0 0), .int x0, .int x1, .int (b2i b)] (rdX D ([(cI, .int), (cZ, .boolean), (cO, .object "java/lang/Object")]) (va_pl L f))) xQc (xXC "java/lang/IndexOutOfBoundsException") 1 6 (fun _ => False) := by
  refine vx_ofW (cc := cX4_setMember) (maxL := 4) (ret := (some .boolean)) (by decide) rfl ?_
  intro p e s m args below meth c s₁ B hml htab hv
  obtain ⟨hargs, ⟨hP, hK, hN⟩, hX⟩ := hv
  have hx := B.exec
  have hb := B.bytes
  have hr := B.returns
  have hts := atoms_spec (ws := wsX4_setMember) B.pre
  have hown : s.vm.findClass RX4 = some m.cls := findClass_of_methodNamed B.named
  have hlocks := B.notSynchronized
  have hen : entryFrame m args 4 = entryFrame m ([.ref (AD 0 0), .int x0, .int x1, .int (b2i b)] : List Value).toArray 4 := by rw [hargs]
  rw [hen]
  have hl := lv_entry ([.ref (AD 0 0), .int x0, .int x1, .int (b2i b)]) (n := 4) (Nat.le_of_ble_eq_true rfl)
  rw [lg_entry_eq]
  generalize (lg_sl ([.ref (AD 0 0), .int x0, .int x1, .int (b2i b)]) ++ List.replicate (4 - (lg_sl ([.ref (AD 0 0), .int x0, .int x1, .int (b2i b)])).length) Slot.unset).toArray = ls at hl ⊢
  have hl : lv_has ls 4 [(0, .ref (AD 0 0)), (1, .int x0), (2, .int x1), (3, .int (b2i b))] := hl
  generalize hQ : vx_MQ below xQc (xXC "java/lang/IndexOutOfBoundsException") args s 1 6 (fun _ => False) = Q
  refine lv_iload_n hx hb dX4_setMember_0 rfl (lv_at hl 1 rfl) ?_
  subst hQ
  exact xx_pass htab hlocks (vx_runS (As := [.int x0]) (rest := []) ⟨hx, hb, hml, hown, hts⟩ (x_noGroup l hl0 x0 hb1) (va_cwS 1 hts gX4_setMember_X4_refuseNoGroup rfl rfl rfl (by decide +kernel) ⟨Nat.le_of_ble_eq_true rfl, Nat.le_of_ble_eq_true rfl⟩) ⟨nx_blind, nx_pre hX⟩ rfl rfl hl.1 rfl (lv_room (Nat.le_of_ble_eq_true rfl)) dX4_setMember_1 ⟨Nat.le_of_ble_eq_true rfl, Nat.le_of_ble_eq_true rfl⟩)

set_option maxHeartbeats 800000 in
set_option maxRecDepth 100000 in
theorem x_setMember_b (l : Launch) (hl0 : l.stackTraces = false) (D : va_G) (cI cZ cO : ClassId) {L : List Nat} {f : Nat → va_E} {tg : Nat → Nat} {AD : Nat → Nat → Nat} {mc : Nat → Int32} {F : Nat → Nat → Int32} {ik kp tu : Nat → Int32} {n : Nat} {he gv : Nat → Int32} {gp gb ob nm lo : Int32} (hR : Rep cI cO L f tg AD mc F ik kp tu n he gv gp gb ob nm lo) (x : Nat) (x1 : Int32) (b : Bool) (hx6 : x < 6) (hb1 : inB x1 0 7 = false) : vx_Met l yX4_setMember wsX4_setMember (rmx 7 102) (va_Pc [.ref (AD 0 0), .int (nI x), .int x1, .int (b2i b)] (rdX D ([(cI, .int), (cZ, .boolean), (cO, .object "java/lang/Object")]) (va_pl L f))) xQc (xXC "java/lang/IndexOutOfBoundsException") 1 6 (fun _ => False) := by
  refine vx_ofW (cc := cX4_setMember) (maxL := 4) (ret := (some .boolean)) (by decide) rfl ?_
  intro p e s m args below meth c s₁ B hml htab hv
  obtain ⟨hargs, ⟨hP, hK, hN⟩, hX⟩ := hv
  have hx := B.exec
  have hb := B.bytes
  have hr := B.returns
  have hts := atoms_spec (ws := wsX4_setMember) B.pre
  have hown : s.vm.findClass RX4 = some m.cls := findClass_of_methodNamed B.named
  have hlocks := B.notSynchronized
  have hen : entryFrame m args 4 = entryFrame m ([.ref (AD 0 0), .int (nI x), .int x1, .int (b2i b)] : List Value).toArray 4 := by rw [hargs]
  rw [hen]
  have hl := lv_entry ([.ref (AD 0 0), .int (nI x), .int x1, .int (b2i b)]) (n := 4) (Nat.le_of_ble_eq_true rfl)
  rw [lg_entry_eq]
  generalize (lg_sl ([.ref (AD 0 0), .int (nI x), .int x1, .int (b2i b)]) ++ List.replicate (4 - (lg_sl ([.ref (AD 0 0), .int (nI x), .int x1, .int (b2i b)])).length) Slot.unset).toArray = ls at hl ⊢
  have hl : lv_has ls 4 [(0, .ref (AD 0 0)), (1, .int (nI x)), (2, .int x1), (3, .int (b2i b))] := hl
  generalize hQ : vx_MQ below xQc (xXC "java/lang/IndexOutOfBoundsException") args s 1 6 (fun _ => False) = Q
  refine lv_iload_n hx hb dX4_setMember_0 rfl (lv_at hl 1 rfl) ?_
  refine va_csv (W.runS (As := [.int (nI x)]) (rest := []) ⟨hx, hb, hml, hown, hts⟩ (k_X4_refuseNoGroup l x (by omega)) (va_cwS 1 hts gX4_setMember_X4_refuseNoGroup rfl rfl rfl (by decide +kernel) ⟨Nat.le_of_ble_eq_true rfl, Nat.le_of_ble_eq_true rfl⟩) ⟨nf_blind, fun U hU hW => ⟨rfl, trivial⟩⟩ rfl rfl hl.1 rfl (lv_room (Nat.le_of_ble_eq_true rfl)) dX4_setMember_1 ⟨Nat.le_of_ble_eq_true rfl, Nat.le_of_ble_eq_true rfl⟩) (fun _ => ?_)
  refine lv_iload_n hx hb dX4_setMember_4 rfl (lv_at hl 2 rfl) ?_
  subst hQ
  exact xx_pass htab hlocks (vx_runS (As := [.int x1]) (rest := []) ⟨hx, hb, hml, hown, hts⟩ (x_noPerson l hl0 x1 hb1) (va_cwS 1 hts gX4_setMember_X4_refuseNoPerson rfl rfl rfl (by decide +kernel) ⟨Nat.le_of_ble_eq_true rfl, Nat.le_of_ble_eq_true rfl⟩) ⟨nx_blind, nx_pre hX⟩ rfl rfl hl.1 rfl (lv_room (Nat.le_of_ble_eq_true rfl)) dX4_setMember_5 ⟨Nat.le_of_ble_eq_true rfl, Nat.le_of_ble_eq_true rfl⟩)

set_option maxHeartbeats 800000 in
set_option maxRecDepth 100000 in
theorem x_nest_a (l : Launch) (hl0 : l.stackTraces = false) (D : va_G) (cI cZ cO : ClassId) {L : List Nat} {f : Nat → va_E} {tg : Nat → Nat} {AD : Nat → Nat → Nat} {mc : Nat → Int32} {F : Nat → Nat → Int32} {ik kp tu : Nat → Int32} {n : Nat} {he gv : Nat → Int32} {gp gb ob nm lo : Int32} (hR : Rep cI cO L f tg AD mc F ik kp tu n he gv gp gb ob nm lo) (x0 : Int32) (x1 : Int32) (hb1 : inB x0 0 5 = false) : vx_Met l yX4_nest wsX4_nest (rmx 7 102) (va_Pc [.ref (AD 0 0), .int x0, .int x1] (rdX D ([(cI, .int), (cZ, .boolean), (cO, .object "java/lang/Object")]) (va_pl L f))) xQc (xXC "java/lang/IndexOutOfBoundsException") 1 6 (fun _ => False) := by
  refine vx_ofW (cc := cX4_nest) (maxL := 3) (ret := (some .boolean)) (by decide) rfl ?_
  intro p e s m args below meth c s₁ B hml htab hv
  obtain ⟨hargs, ⟨hP, hK, hN⟩, hX⟩ := hv
  have hx := B.exec
  have hb := B.bytes
  have hr := B.returns
  have hts := atoms_spec (ws := wsX4_nest) B.pre
  have hown : s.vm.findClass RX4 = some m.cls := findClass_of_methodNamed B.named
  have hlocks := B.notSynchronized
  have hen : entryFrame m args 3 = entryFrame m ([.ref (AD 0 0), .int x0, .int x1] : List Value).toArray 3 := by rw [hargs]
  rw [hen]
  have hl := lv_entry ([.ref (AD 0 0), .int x0, .int x1]) (n := 3) (Nat.le_of_ble_eq_true rfl)
  rw [lg_entry_eq]
  generalize (lg_sl ([.ref (AD 0 0), .int x0, .int x1]) ++ List.replicate (3 - (lg_sl ([.ref (AD 0 0), .int x0, .int x1])).length) Slot.unset).toArray = ls at hl ⊢
  have hl : lv_has ls 3 [(0, .ref (AD 0 0)), (1, .int x0), (2, .int x1)] := hl
  generalize hQ : vx_MQ below xQc (xXC "java/lang/IndexOutOfBoundsException") args s 1 6 (fun _ => False) = Q
  refine lv_iload_n hx hb dX4_nest_0 rfl (lv_at hl 1 rfl) ?_
  subst hQ
  exact xx_pass htab hlocks (vx_runS (As := [.int x0]) (rest := []) ⟨hx, hb, hml, hown, hts⟩ (x_noGroup l hl0 x0 hb1) (va_cwS 1 hts gX4_nest_X4_refuseNoGroup rfl rfl rfl (by decide +kernel) ⟨Nat.le_of_ble_eq_true rfl, Nat.le_of_ble_eq_true rfl⟩) ⟨nx_blind, nx_pre hX⟩ rfl rfl hl.1 rfl (lv_room (Nat.le_of_ble_eq_true rfl)) dX4_nest_1 ⟨Nat.le_of_ble_eq_true rfl, Nat.le_of_ble_eq_true rfl⟩)

set_option maxHeartbeats 800000 in
set_option maxRecDepth 100000 in
theorem x_nest_b (l : Launch) (hl0 : l.stackTraces = false) (D : va_G) (cI cZ cO : ClassId) {L : List Nat} {f : Nat → va_E} {tg : Nat → Nat} {AD : Nat → Nat → Nat} {mc : Nat → Int32} {F : Nat → Nat → Int32} {ik kp tu : Nat → Int32} {n : Nat} {he gv : Nat → Int32} {gp gb ob nm lo : Int32} (hR : Rep cI cO L f tg AD mc F ik kp tu n he gv gp gb ob nm lo) (x : Nat) (x1 : Int32) (hx6 : x < 6) (hb1 : inB x1 0 5 = false) : vx_Met l yX4_nest wsX4_nest (rmx 7 102) (va_Pc [.ref (AD 0 0), .int (nI x), .int x1] (rdX D ([(cI, .int), (cZ, .boolean), (cO, .object "java/lang/Object")]) (va_pl L f))) xQc (xXC "java/lang/IndexOutOfBoundsException") 1 6 (fun _ => False) := by
  refine vx_ofW (cc := cX4_nest) (maxL := 3) (ret := (some .boolean)) (by decide) rfl ?_
  intro p e s m args below meth c s₁ B hml htab hv
  obtain ⟨hargs, ⟨hP, hK, hN⟩, hX⟩ := hv
  have hx := B.exec
  have hb := B.bytes
  have hr := B.returns
  have hts := atoms_spec (ws := wsX4_nest) B.pre
  have hown : s.vm.findClass RX4 = some m.cls := findClass_of_methodNamed B.named
  have hlocks := B.notSynchronized
  have hen : entryFrame m args 3 = entryFrame m ([.ref (AD 0 0), .int (nI x), .int x1] : List Value).toArray 3 := by rw [hargs]
  rw [hen]
  have hl := lv_entry ([.ref (AD 0 0), .int (nI x), .int x1]) (n := 3) (Nat.le_of_ble_eq_true rfl)
  rw [lg_entry_eq]
  generalize (lg_sl ([.ref (AD 0 0), .int (nI x), .int x1]) ++ List.replicate (3 - (lg_sl ([.ref (AD 0 0), .int (nI x), .int x1])).length) Slot.unset).toArray = ls at hl ⊢
  have hl : lv_has ls 3 [(0, .ref (AD 0 0)), (1, .int (nI x)), (2, .int x1)] := hl
  generalize hQ : vx_MQ below xQc (xXC "java/lang/IndexOutOfBoundsException") args s 1 6 (fun _ => False) = Q
  refine lv_iload_n hx hb dX4_nest_0 rfl (lv_at hl 1 rfl) ?_
  refine va_csv (W.runS (As := [.int (nI x)]) (rest := []) ⟨hx, hb, hml, hown, hts⟩ (k_X4_refuseNoGroup l x (by omega)) (va_cwS 1 hts gX4_nest_X4_refuseNoGroup rfl rfl rfl (by decide +kernel) ⟨Nat.le_of_ble_eq_true rfl, Nat.le_of_ble_eq_true rfl⟩) ⟨nf_blind, fun U hU hW => ⟨rfl, trivial⟩⟩ rfl rfl hl.1 rfl (lv_room (Nat.le_of_ble_eq_true rfl)) dX4_nest_1 ⟨Nat.le_of_ble_eq_true rfl, Nat.le_of_ble_eq_true rfl⟩) (fun _ => ?_)
  refine lv_iload_n hx hb dX4_nest_4 rfl (lv_at hl 2 rfl) ?_
  subst hQ
  exact xx_pass htab hlocks (vx_runS (As := [.int x1]) (rest := []) ⟨hx, hb, hml, hown, hts⟩ (x_noGroup l hl0 x1 hb1) (va_cwS 1 hts gX4_nest_X4_refuseNoGroup rfl rfl rfl (by decide +kernel) ⟨Nat.le_of_ble_eq_true rfl, Nat.le_of_ble_eq_true rfl⟩) ⟨nx_blind, nx_pre hX⟩ rfl rfl hl.1 rfl (lv_room (Nat.le_of_ble_eq_true rfl)) dX4_nest_5 ⟨Nat.le_of_ble_eq_true rfl, Nat.le_of_ble_eq_true rfl⟩)

set_option maxHeartbeats 800000 in
set_option maxRecDepth 100000 in
theorem x_nest_c (l : Launch) (hl0 : l.stackTraces = false) (D : va_G) (cI cZ cO : ClassId) {L : List Nat} {f : Nat → va_E} {tg : Nat → Nat} {AD : Nat → Nat → Nat} {mc : Nat → Int32} {F : Nat → Nat → Int32} {ik kp tu : Nat → Int32} {n : Nat} {he gv : Nat → Int32} {gp gb ob nm lo : Int32} (hR : Rep cI cO L f tg AD mc F ik kp tu n he gv gp gb ob nm lo) (x : Nat) (y : Nat) (hx6 : x < 6) (hy6 : y < 6) (hc : hasB (cRch (F 2) y) (nI x) = true) : vx_Met l yX4_nest wsX4_nest (rmx 6 91) (va_Pc [.ref (AD 0 0), .int (nI x), .int (nI y)] (rdX D ([(cI, .int), (cZ, .boolean), (cO, .object "java/lang/Object")]) (va_pl L f))) xQc (xXC "java/lang/IllegalStateException") 1 6 (fun _ => False) := by
  refine vx_ofW (cc := cX4_nest) (maxL := 3) (ret := (some .boolean)) (by decide) rfl ?_
  intro p e s m args below meth c s₁ B hml htab hv
  obtain ⟨hargs, ⟨hP, hK, hN⟩, hX⟩ := hv
  have hx := B.exec
  have hb := B.bytes
  have hr := B.returns
  have hts := atoms_spec (ws := wsX4_nest) B.pre
  have hown : s.vm.findClass RX4 = some m.cls := findClass_of_methodNamed B.named
  have hlocks := B.notSynchronized
  have hen : entryFrame m args 3 = entryFrame m ([.ref (AD 0 0), .int (nI x), .int (nI y)] : List Value).toArray 3 := by rw [hargs]
  rw [hen]
  have hl := lv_entry ([.ref (AD 0 0), .int (nI x), .int (nI y)]) (n := 3) (Nat.le_of_ble_eq_true rfl)
  rw [lg_entry_eq]
  generalize (lg_sl ([.ref (AD 0 0), .int (nI x), .int (nI y)]) ++ List.replicate (3 - (lg_sl ([.ref (AD 0 0), .int (nI x), .int (nI y)])).length) Slot.unset).toArray = ls at hl ⊢
  have hl : lv_has ls 3 [(0, .ref (AD 0 0)), (1, .int (nI x)), (2, .int (nI y))] := hl
  generalize hQ : vx_MQ below xQc (xXC "java/lang/IllegalStateException") args s 1 6 (fun _ => False) = Q
  refine lv_iload_n hx hb dX4_nest_0 rfl (lv_at hl 1 rfl) ?_
  refine va_csv (W.runS (As := [.int (nI x)]) (rest := []) ⟨hx, hb, hml, hown, hts⟩ (k_X4_refuseNoGroup l x (by omega)) (va_cwS 1 hts gX4_nest_X4_refuseNoGroup rfl rfl rfl (by decide +kernel) ⟨Nat.le_of_ble_eq_true rfl, Nat.le_of_ble_eq_true rfl⟩) ⟨nf_blind, fun U hU hW => ⟨rfl, trivial⟩⟩ rfl rfl hl.1 rfl (lv_room (Nat.le_of_ble_eq_true rfl)) dX4_nest_1 ⟨Nat.le_of_ble_eq_true rfl, Nat.le_of_ble_eq_true rfl⟩) (fun _ => ?_)
  refine lv_iload_n hx hb dX4_nest_4 rfl (lv_at hl 2 rfl) ?_
  refine va_csv (W.runS (As := [.int (nI y)]) (rest := []) ⟨hx, hb, hml, hown, hts⟩ (k_X4_refuseNoGroup l y (by omega)) (va_cwS 1 hts gX4_nest_X4_refuseNoGroup rfl rfl rfl (by decide +kernel) ⟨Nat.le_of_ble_eq_true rfl, Nat.le_of_ble_eq_true rfl⟩) ⟨nf_blind, fun U hU hW => ⟨rfl, trivial⟩⟩ rfl rfl hl.1 rfl (lv_room (Nat.le_of_ble_eq_true rfl)) dX4_nest_5 ⟨Nat.le_of_ble_eq_true rfl, Nat.le_of_ble_eq_true rfl⟩) (fun _ => ?_)
  refine lv_aload_n hx hb dX4_nest_8 rfl (lv_at hl 0 rfl) ?_
  obtain ⟨kp1, ep1⟩ := (hR.x).at
  refine va_get (D := D) (ci := 5) (v := .ref (AD 0 1)) (C := RX4) (T := TX4) (N := 3) hx hb hts (fun _ h => List.mem_cons_of_mem _ (List.mem_append_left _ (List.mem_append_left _ (List.mem_append_left _ (List.mem_append_right _ (h)))))) hown hK hP kp1 ep1 rfl 0 (by decide) (hts _ (List.mem_of_getElem? (i := 3) rfl)) (fun _ h9 => h9) rfl dX4_nest_9 ?_
  refine lv_iload_n hx hb dX4_nest_12 rfl (lv_at hl 2 rfl) ?_
  obtain ⟨ev, hPg, hev⟩ := rp_gr hR hP
  refine vp_callSi (W.runV (As := [.int (nI y)]) (rest := []) ⟨hx, hb, hml, hown, hts⟩ (k_X2_reachedFrom l D cI cZ cO (fun k => AD 0 (k + 1)) (F 1) (F 2) ev y) (cwV 1 hts gX4_nest_X2_reachedFrom rfl rfl rfl (by decide +kernel) ⟨Nat.le_of_ble_eq_true rfl, Nat.le_of_ble_eq_true rfl⟩) ⟨rd_blind, va_recv hK hPg (ci := 3) (q0 := 0) rfl rfl, rd_pre hPg hK hN⟩ rfl rfl hl.1 rfl (lv_room (Nat.le_of_ble_eq_true rfl)) dX4_nest_13 ⟨Nat.le_of_ble_eq_true rfl, Nat.le_of_ble_eq_true rfl⟩) (fun r er => ?_)
  subst er
  refine lv_iload_n hx hb dX4_nest_16 rfl (lv_at hl 1 rfl) ?_
  refine vp_callSi (W.runS (As := [.int (cRch (F 2) y), .int (nI x)]) (rest := []) ⟨hx, hb, hml, hown, hts⟩ (k_X4_contains l (cRch (F 2) y) (nI x)) (va_cwS 2 hts gX4_nest_X4_contains rfl rfl rfl (by decide +kernel) ⟨Nat.le_of_ble_eq_true rfl, Nat.le_of_ble_eq_true rfl⟩) ⟨nf_blind, fun U hU hW => ⟨rfl, trivial⟩⟩ rfl rfl hl.1 rfl (lv_room (Nat.le_of_ble_eq_true rfl)) dX4_nest_17 ⟨Nat.le_of_ble_eq_true rfl, Nat.le_of_ble_eq_true rfl⟩) (fun r er => ?_)
  subst er
  refine lv_if_eq (tgt := 33) hx hb dX4_nest_20 (by decide) (fun c_20 => ?_) (fun c_20 => ?_)
  ·
    have c_20 := b2i_0 c_20
    exact absurd hc (b2i_bf c_20)
  ·
    have c_20 := b2i_1 c_20
    subst hQ
    exact xx_throw (cls := "java/lang/IllegalStateException") (ik := 58) (is := 60) (ic := 62) (text := "the outer group is in the inner one") hX htab hlocks hx hb hl0 hown (by decide +kernel) (hts _ (List.mem_of_getElem? (i := 1) rfl)) (hts _ (List.mem_of_getElem? (i := 2) rfl)) (by decide +kernel) (hX.hat (by decide +kernel) xx_ngS (fun w h => hts w (List.mem_cons_of_mem _ (List.mem_append_left _ (List.mem_append_right _ (h)))))) xx_gdS (hl.1.trans hml.symm) dX4_nest_23 dX4_nest_26 dX4_nest_27 dX4_nest_29 dX4_nest_32 (Nat.le_of_ble_eq_true rfl) (Nat.le_of_ble_eq_true rfl) (Nat.le_of_ble_eq_true rfl) (Nat.le_of_ble_eq_true rfl)

set_option maxHeartbeats 800000 in
set_option maxRecDepth 100000 in
theorem x_members (l : Launch) (hl0 : l.stackTraces = false) (D : va_G) (cI cZ cO : ClassId) {L : List Nat} {f : Nat → va_E} {tg : Nat → Nat} {AD : Nat → Nat → Nat} {mc : Nat → Int32} {F : Nat → Nat → Int32} {ik kp tu : Nat → Int32} {n : Nat} {he gv : Nat → Int32} {gp gb ob nm lo : Int32} (hR : Rep cI cO L f tg AD mc F ik kp tu n he gv gp gb ob nm lo) (x0 : Int32) (hb1 : inB x0 0 5 = false) : vx_Met l yX4_members wsX4_members (rmx 7 102) (va_Pc [.ref (AD 0 0), .int x0] (rdX D ([(cI, .int), (cZ, .boolean), (cO, .object "java/lang/Object")]) (va_pl L f))) xQc (xXC "java/lang/IndexOutOfBoundsException") 1 6 (fun _ => False) := by
  refine vx_ofW (cc := cX4_members) (maxL := 2) (ret := (some .int)) (by decide) rfl ?_
  intro p e s m args below meth c s₁ B hml htab hv
  obtain ⟨hargs, ⟨hP, hK, hN⟩, hX⟩ := hv
  have hx := B.exec
  have hb := B.bytes
  have hr := B.returns
  have hts := atoms_spec (ws := wsX4_members) B.pre
  have hown : s.vm.findClass RX4 = some m.cls := findClass_of_methodNamed B.named
  have hlocks := B.notSynchronized
  have hen : entryFrame m args 2 = entryFrame m ([.ref (AD 0 0), .int x0] : List Value).toArray 2 := by rw [hargs]
  rw [hen]
  have hl := lv_entry ([.ref (AD 0 0), .int x0]) (n := 2) (Nat.le_of_ble_eq_true rfl)
  rw [lg_entry_eq]
  generalize (lg_sl ([.ref (AD 0 0), .int x0]) ++ List.replicate (2 - (lg_sl ([.ref (AD 0 0), .int x0])).length) Slot.unset).toArray = ls at hl ⊢
  have hl : lv_has ls 2 [(0, .ref (AD 0 0)), (1, .int x0)] := hl
  generalize hQ : vx_MQ below xQc (xXC "java/lang/IndexOutOfBoundsException") args s 1 6 (fun _ => False) = Q
  refine lv_iload_n hx hb dX4_members_0 rfl (lv_at hl 1 rfl) ?_
  subst hQ
  exact xx_pass htab hlocks (vx_runS (As := [.int x0]) (rest := []) ⟨hx, hb, hml, hown, hts⟩ (x_noGroup l hl0 x0 hb1) (va_cwS 1 hts gX4_members_X4_refuseNoGroup rfl rfl rfl (by decide +kernel) ⟨Nat.le_of_ble_eq_true rfl, Nat.le_of_ble_eq_true rfl⟩) ⟨nx_blind, nx_pre hX⟩ rfl rfl hl.1 rfl (lv_room (Nat.le_of_ble_eq_true rfl)) dX4_members_1 ⟨Nat.le_of_ble_eq_true rfl, Nat.le_of_ble_eq_true rfl⟩)

set_option maxHeartbeats 800000 in
set_option maxRecDepth 100000 in
theorem x_setOwner_a (l : Launch) (hl0 : l.stackTraces = false) (D : va_G) (cI cZ cO : ClassId) {L : List Nat} {f : Nat → va_E} {tg : Nat → Nat} {AD : Nat → Nat → Nat} {mc : Nat → Int32} {F : Nat → Nat → Int32} {ik kp tu : Nat → Int32} {n : Nat} {he gv : Nat → Int32} {gp gb ob nm lo : Int32} (hR : Rep cI cO L f tg AD mc F ik kp tu n he gv gp gb ob nm lo) (x0 : Int32) (x1 : Int32) (hM : okC F n) (hb1 : inB x0 0 (nI n - 1) = false) : vx_Met l yX4_setOwner wsX4_setOwner (rmx 7 103) (va_Pc [.ref (AD 0 0), .int x0, .int x1] (rdX D ([(cI, .int), (cZ, .boolean), (cO, .object "java/lang/Object")]) (va_pl L f))) xQc (xXC "java/lang/IndexOutOfBoundsException") 1 6 (fun _ => False) := by
  refine vx_ofW (cc := cX4_setOwner) (maxL := 5) (ret := (some .int)) (by decide) rfl ?_
  intro p e s m args below meth c s₁ B hml htab hv
  obtain ⟨hargs, ⟨hP, hK, hN⟩, hX⟩ := hv
  have hx := B.exec
  have hb := B.bytes
  have hr := B.returns
  have hts := atoms_spec (ws := wsX4_setOwner) B.pre
  have hown : s.vm.findClass RX4 = some m.cls := findClass_of_methodNamed B.named
  have hlocks := B.notSynchronized
  have hen : entryFrame m args 5 = entryFrame m ([.ref (AD 0 0), .int x0, .int x1] : List Value).toArray 5 := by rw [hargs]
  rw [hen]
  have hl := lv_entry ([.ref (AD 0 0), .int x0, .int x1]) (n := 5) (Nat.le_of_ble_eq_true rfl)
  rw [lg_entry_eq]
  generalize (lg_sl ([.ref (AD 0 0), .int x0, .int x1]) ++ List.replicate (5 - (lg_sl ([.ref (AD 0 0), .int x0, .int x1])).length) Slot.unset).toArray = ls at hl ⊢
  have hl : lv_has ls 5 [(0, .ref (AD 0 0)), (1, .int x0), (2, .int x1)] := hl
  generalize hQ : vx_MQ below xQc (xXC "java/lang/IndexOutOfBoundsException") args s 1 6 (fun _ => False) = Q
  refine lv_aload_n hx hb dX4_setOwner_0 rfl (lv_at hl 0 rfl) ?_
  refine lv_iload_n hx hb dX4_setOwner_1 rfl (lv_at hl 1 rfl) ?_
  subst hQ
  obtain ⟨kp1, ep1⟩ := (hR.x).at
  exact xx_pass htab hlocks (vx_runV (As := [.int x0]) (rest := []) ⟨hx, hb, hml, hown, hts⟩ (x_folderAt l hl0 D cI cZ cO hR x0 hM hb1) (cwV 1 hts gX4_setOwner_X4_folderAt rfl rfl rfl (by decide +kernel) ⟨Nat.le_of_ble_eq_true rfl, Nat.le_of_ble_eq_true rfl⟩) ⟨rdX_blind, va_recv hK hP (ci := 5) (q0 := kp1) rfl ep1, rdX_pre hP hK hN hX rfl⟩ rfl rfl hl.1 rfl (lv_room (Nat.le_of_ble_eq_true rfl)) dX4_setOwner_2 ⟨Nat.le_of_ble_eq_true rfl, Nat.le_of_ble_eq_true rfl⟩)

set_option maxHeartbeats 800000 in
set_option maxRecDepth 100000 in
theorem x_setOwner_b (l : Launch) (hl0 : l.stackTraces = false) (D : va_G) (cI cZ cO : ClassId) {L : List Nat} {f : Nat → va_E} {tg : Nat → Nat} {AD : Nat → Nat → Nat} {mc : Nat → Int32} {F : Nat → Nat → Int32} {ik kp tu : Nat → Int32} {n : Nat} {he gv : Nat → Int32} {gp gb ob nm lo : Int32} (hR : Rep cI cO L f tg AD mc F ik kp tu n he gv gp gb ob nm lo) (x : Nat) (x1 : Int32) (hxn : x < n) (hb1 : inB x1 0 7 = false) : vx_Met l yX4_setOwner wsX4_setOwner (rmx 7 102) (va_Pc [.ref (AD 0 0), .int (nI x), .int x1] (rdX D ([(cI, .int), (cZ, .boolean), (cO, .object "java/lang/Object")]) (va_pl L f))) xQc (xXC "java/lang/IndexOutOfBoundsException") 1 6 (fun _ => False) := by
  refine vx_ofW (cc := cX4_setOwner) (maxL := 5) (ret := (some .int)) (by decide) rfl ?_
  intro p e s m args below meth c s₁ B hml htab hv
  obtain ⟨hargs, ⟨hP, hK, hN⟩, hX⟩ := hv
  have hx := B.exec
  have hb := B.bytes
  have hr := B.returns
  have hts := atoms_spec (ws := wsX4_setOwner) B.pre
  have hown : s.vm.findClass RX4 = some m.cls := findClass_of_methodNamed B.named
  have hlocks := B.notSynchronized
  have hen : entryFrame m args 5 = entryFrame m ([.ref (AD 0 0), .int (nI x), .int x1] : List Value).toArray 5 := by rw [hargs]
  rw [hen]
  have hl := lv_entry ([.ref (AD 0 0), .int (nI x), .int x1]) (n := 5) (Nat.le_of_ble_eq_true rfl)
  rw [lg_entry_eq]
  generalize (lg_sl ([.ref (AD 0 0), .int (nI x), .int x1]) ++ List.replicate (5 - (lg_sl ([.ref (AD 0 0), .int (nI x), .int x1])).length) Slot.unset).toArray = ls at hl ⊢
  have hl : lv_has ls 5 [(0, .ref (AD 0 0)), (1, .int (nI x)), (2, .int x1)] := hl
  generalize hQ : vx_MQ below xQc (xXC "java/lang/IndexOutOfBoundsException") args s 1 6 (fun _ => False) = Q
  refine lv_aload_n hx hb dX4_setOwner_0 rfl (lv_at hl 0 rfl) ?_
  refine lv_iload_n hx hb dX4_setOwner_1 rfl (lv_at hl 1 rfl) ?_
  obtain ⟨kp1, ep1⟩ := (hR.x).at
  refine va_csq (W.runV (As := [.int (nI x)]) (rest := []) ⟨hx, hb, hml, hown, hts⟩ (k_X4_folderAt l D cI cZ cO hR x (by omega)) (cwV 1 hts gX4_setOwner_X4_folderAt rfl rfl rfl (by decide +kernel) ⟨Nat.le_of_ble_eq_true rfl, Nat.le_of_ble_eq_true rfl⟩) ⟨rd_blind, va_recv hK hP (ci := 5) (q0 := kp1) rfl ep1, rd_pre hP hK hN⟩ rfl rfl hl.1 rfl (lv_room (Nat.le_of_ble_eq_true rfl)) dX4_setOwner_2 ⟨Nat.le_of_ble_eq_true rfl, Nat.le_of_ble_eq_true rfl⟩) (fun r er => ?_)
  subst er
  refine top_rf (q := AD 1 x) rfl ?_
  refine lv_astore_n (lv' := [(3, .ref (AD 1 x)), (0, .ref (AD 0 0)), (1, .int (nI x)), (2, .int x1)]) hx hb dX4_setOwner_5 rfl hl (by decide) rfl (fun ls hl => ?_)
  refine lv_iload_n hx hb dX4_setOwner_6 rfl (lv_at hl 3 rfl) ?_
  subst hQ
  exact xx_pass htab hlocks (vx_runS (As := [.int x1]) (rest := []) ⟨hx, hb, hml, hown, hts⟩ (x_noPerson l hl0 x1 hb1) (va_cwS 1 hts gX4_setOwner_X4_refuseNoPerson rfl rfl rfl (by decide +kernel) ⟨Nat.le_of_ble_eq_true rfl, Nat.le_of_ble_eq_true rfl⟩) ⟨nx_blind, nx_pre hX⟩ rfl rfl hl.1 rfl (lv_room (Nat.le_of_ble_eq_true rfl)) dX4_setOwner_7 ⟨Nat.le_of_ble_eq_true rfl, Nat.le_of_ble_eq_true rfl⟩)

set_option maxHeartbeats 800000 in
set_option maxRecDepth 100000 in
theorem x_setInherits (l : Launch) (hl0 : l.stackTraces = false) (D : va_G) (cI cZ cO : ClassId) {L : List Nat} {f : Nat → va_E} {tg : Nat → Nat} {AD : Nat → Nat → Nat} {mc : Nat → Int32} {F : Nat → Nat → Int32} {ik kp tu : Nat → Int32} {n : Nat} {he gv : Nat → Int32} {gp gb ob nm lo : Int32} (hR : Rep cI cO L f tg AD mc F ik kp tu n he gv gp gb ob nm lo) (x0 : Int32) (b : Bool) (hM : okC F n) (hb1 : inB x0 0 (nI n - 1) = false) : vx_Met l yX4_setInherits wsX4_setInherits (rmx 7 103) (va_Pc [.ref (AD 0 0), .int x0, .int (b2i b)] (rdX D ([(cI, .int), (cZ, .boolean), (cO, .object "java/lang/Object")]) (va_pl L f))) xQc (xXC "java/lang/IndexOutOfBoundsException") 1 6 (fun _ => False) := by
  refine vx_ofW (cc := cX4_setInherits) (maxL := 5) (ret := (some .boolean)) (by decide) rfl ?_
  intro p e s m args below meth c s₁ B hml htab hv
  obtain ⟨hargs, ⟨hP, hK, hN⟩, hX⟩ := hv
  have hx := B.exec
  have hb := B.bytes
  have hr := B.returns
  have hts := atoms_spec (ws := wsX4_setInherits) B.pre
  have hown : s.vm.findClass RX4 = some m.cls := findClass_of_methodNamed B.named
  have hlocks := B.notSynchronized
  have hen : entryFrame m args 5 = entryFrame m ([.ref (AD 0 0), .int x0, .int (b2i b)] : List Value).toArray 5 := by rw [hargs]
  rw [hen]
  have hl := lv_entry ([.ref (AD 0 0), .int x0, .int (b2i b)]) (n := 5) (Nat.le_of_ble_eq_true rfl)
  rw [lg_entry_eq]
  generalize (lg_sl ([.ref (AD 0 0), .int x0, .int (b2i b)]) ++ List.replicate (5 - (lg_sl ([.ref (AD 0 0), .int x0, .int (b2i b)])).length) Slot.unset).toArray = ls at hl ⊢
  have hl : lv_has ls 5 [(0, .ref (AD 0 0)), (1, .int x0), (2, .int (b2i b))] := hl
  generalize hQ : vx_MQ below xQc (xXC "java/lang/IndexOutOfBoundsException") args s 1 6 (fun _ => False) = Q
  refine lv_aload_n hx hb dX4_setInherits_0 rfl (lv_at hl 0 rfl) ?_
  refine lv_iload_n hx hb dX4_setInherits_1 rfl (lv_at hl 1 rfl) ?_
  subst hQ
  obtain ⟨kp1, ep1⟩ := (hR.x).at
  exact xx_pass htab hlocks (vx_runV (As := [.int x0]) (rest := []) ⟨hx, hb, hml, hown, hts⟩ (x_folderAt l hl0 D cI cZ cO hR x0 hM hb1) (cwV 1 hts gX4_setInherits_X4_folderAt rfl rfl rfl (by decide +kernel) ⟨Nat.le_of_ble_eq_true rfl, Nat.le_of_ble_eq_true rfl⟩) ⟨rdX_blind, va_recv hK hP (ci := 5) (q0 := kp1) rfl ep1, rdX_pre hP hK hN hX rfl⟩ rfl rfl hl.1 rfl (lv_room (Nat.le_of_ble_eq_true rfl)) dX4_setInherits_2 ⟨Nat.le_of_ble_eq_true rfl, Nat.le_of_ble_eq_true rfl⟩)

set_option maxHeartbeats 800000 in
set_option maxRecDepth 100000 in
theorem x_allow_a (l : Launch) (hl0 : l.stackTraces = false) (D : va_G) (cI cZ cO : ClassId) {L : List Nat} {f : Nat → va_E} {tg : Nat → Nat} {AD : Nat → Nat → Nat} {mc : Nat → Int32} {F : Nat → Nat → Int32} {ik kp tu : Nat → Int32} {n : Nat} {he gv : Nat → Int32} {gp gb ob nm lo : Int32} (hR : Rep cI cO L f tg AD mc F ik kp tu n he gv gp gb ob nm lo) (x0 : Int32) (x1 : Int32) (b : Bool) (x2 : Int32) (x3 : Int32) (hM : okC F n) (hb1 : inB x0 0 (nI n - 1) = false) : vx_Met l yX4_allow wsX4_allow (rmx 7 103) (va_Pc [.ref (AD 0 0), .int x0, .int x1, .int (b2i b), .int x2, .int x3] (rdX D ([(cI, .int), (cZ, .boolean), (cO, .object "java/lang/Object")]) (va_pl L f))) xQc (xXC "java/lang/IndexOutOfBoundsException") 1 6 (fun _ => False) := by
  refine vx_ofW (cc := cX4_allow) (maxL := 7) (ret := (some .int)) (by decide) rfl ?_
  intro p e s m args below meth c s₁ B hml htab hv
  obtain ⟨hargs, ⟨hP, hK, hN⟩, hX⟩ := hv
  have hx := B.exec
  have hb := B.bytes
  have hr := B.returns
  have hts := atoms_spec (ws := wsX4_allow) B.pre
  have hown : s.vm.findClass RX4 = some m.cls := findClass_of_methodNamed B.named
  have hlocks := B.notSynchronized
  have hen : entryFrame m args 7 = entryFrame m ([.ref (AD 0 0), .int x0, .int x1, .int (b2i b), .int x2, .int x3] : List Value).toArray 7 := by rw [hargs]
  rw [hen]
  have hl := lv_entry ([.ref (AD 0 0), .int x0, .int x1, .int (b2i b), .int x2, .int x3]) (n := 7) (Nat.le_of_ble_eq_true rfl)
  rw [lg_entry_eq]
  generalize (lg_sl ([.ref (AD 0 0), .int x0, .int x1, .int (b2i b), .int x2, .int x3]) ++ List.replicate (7 - (lg_sl ([.ref (AD 0 0), .int x0, .int x1, .int (b2i b), .int x2, .int x3])).length) Slot.unset).toArray = ls at hl ⊢
  have hl : lv_has ls 7 [(0, .ref (AD 0 0)), (1, .int x0), (2, .int x1), (3, .int (b2i b)), (4, .int x2), (5, .int x3)] := hl
  generalize hQ : vx_MQ below xQc (xXC "java/lang/IndexOutOfBoundsException") args s 1 6 (fun _ => False) = Q
  refine lv_aload_n hx hb dX4_allow_0 rfl (lv_at hl 0 rfl) ?_
  refine lv_iload_n hx hb dX4_allow_1 rfl (lv_at hl 1 rfl) ?_
  subst hQ
  obtain ⟨kp1, ep1⟩ := (hR.x).at
  exact xx_pass htab hlocks (vx_runV (As := [.int x0]) (rest := []) ⟨hx, hb, hml, hown, hts⟩ (x_folderAt l hl0 D cI cZ cO hR x0 hM hb1) (cwV 1 hts gX4_allow_X4_folderAt rfl rfl rfl (by decide +kernel) ⟨Nat.le_of_ble_eq_true rfl, Nat.le_of_ble_eq_true rfl⟩) ⟨rdX_blind, va_recv hK hP (ci := 5) (q0 := kp1) rfl ep1, rdX_pre hP hK hN hX rfl⟩ rfl rfl hl.1 rfl (lv_room (Nat.le_of_ble_eq_true rfl)) dX4_allow_2 ⟨Nat.le_of_ble_eq_true rfl, Nat.le_of_ble_eq_true rfl⟩)

set_option maxHeartbeats 800000 in
set_option maxRecDepth 100000 in
theorem x_allow_b (l : Launch) (hl0 : l.stackTraces = false) (D : va_G) (cI cZ cO : ClassId) {L : List Nat} {f : Nat → va_E} {tg : Nat → Nat} {AD : Nat → Nat → Nat} {mc : Nat → Int32} {F : Nat → Nat → Int32} {ik kp tu : Nat → Int32} {n : Nat} {he gv : Nat → Int32} {gp gb ob nm lo : Int32} (hR : Rep cI cO L f tg AD mc F ik kp tu n he gv gp gb ob nm lo) (x : Nat) (x1 : Int32) (b : Bool) (x2 : Int32) (x3 : Int32) (hxn : x < n) (hb1 : inB x1 0 13 = false) : vx_Met l yX4_allow wsX4_allow (rmx 6 85) (va_Pc [.ref (AD 0 0), .int (nI x), .int x1, .int (b2i b), .int x2, .int x3] (rdX D ([(cI, .int), (cZ, .boolean), (cO, .object "java/lang/Object")]) (va_pl L f))) xQc (xXC "java/lang/IndexOutOfBoundsException") 1 6 (fun _ => False) := by
  refine vx_ofW (cc := cX4_allow) (maxL := 7) (ret := (some .int)) (by decide) rfl ?_
  intro p e s m args below meth c s₁ B hml htab hv
  obtain ⟨hargs, ⟨hP, hK, hN⟩, hX⟩ := hv
  have hx := B.exec
  have hb := B.bytes
  have hr := B.returns
  have hts := atoms_spec (ws := wsX4_allow) B.pre
  have hown : s.vm.findClass RX4 = some m.cls := findClass_of_methodNamed B.named
  have hlocks := B.notSynchronized
  have hen : entryFrame m args 7 = entryFrame m ([.ref (AD 0 0), .int (nI x), .int x1, .int (b2i b), .int x2, .int x3] : List Value).toArray 7 := by rw [hargs]
  rw [hen]
  have hl := lv_entry ([.ref (AD 0 0), .int (nI x), .int x1, .int (b2i b), .int x2, .int x3]) (n := 7) (Nat.le_of_ble_eq_true rfl)
  rw [lg_entry_eq]
  generalize (lg_sl ([.ref (AD 0 0), .int (nI x), .int x1, .int (b2i b), .int x2, .int x3]) ++ List.replicate (7 - (lg_sl ([.ref (AD 0 0), .int (nI x), .int x1, .int (b2i b), .int x2, .int x3])).length) Slot.unset).toArray = ls at hl ⊢
  have hl : lv_has ls 7 [(0, .ref (AD 0 0)), (1, .int (nI x)), (2, .int x1), (3, .int (b2i b)), (4, .int x2), (5, .int x3)] := hl
  generalize hQ : vx_MQ below xQc (xXC "java/lang/IndexOutOfBoundsException") args s 1 6 (fun _ => False) = Q
  refine lv_aload_n hx hb dX4_allow_0 rfl (lv_at hl 0 rfl) ?_
  refine lv_iload_n hx hb dX4_allow_1 rfl (lv_at hl 1 rfl) ?_
  obtain ⟨kp1, ep1⟩ := (hR.x).at
  refine va_csq (W.runV (As := [.int (nI x)]) (rest := []) ⟨hx, hb, hml, hown, hts⟩ (k_X4_folderAt l D cI cZ cO hR x (by omega)) (cwV 1 hts gX4_allow_X4_folderAt rfl rfl rfl (by decide +kernel) ⟨Nat.le_of_ble_eq_true rfl, Nat.le_of_ble_eq_true rfl⟩) ⟨rd_blind, va_recv hK hP (ci := 5) (q0 := kp1) rfl ep1, rd_pre hP hK hN⟩ rfl rfl hl.1 rfl (lv_room (Nat.le_of_ble_eq_true rfl)) dX4_allow_2 ⟨Nat.le_of_ble_eq_true rfl, Nat.le_of_ble_eq_true rfl⟩) (fun r er => ?_)
  subst er
  refine top_rf (q := AD 1 x) rfl ?_
  refine lv_astore (lv' := [(6, .ref (AD 1 x)), (0, .ref (AD 0 0)), (1, .int (nI x)), (2, .int x1), (3, .int (b2i b)), (4, .int x2), (5, .int x3)]) hx hb dX4_allow_5 hl (by decide) rfl (fun ls hl => ?_)
  refine lv_iload_n hx hb dX4_allow_7 rfl (lv_at hl 3 rfl) ?_
  refine lv_if_lt (tgt := 17) hx hb dX4_allow_8 (by decide) (fun c_8 => ?_) (fun c_8 => ?_)
  ·
    subst hQ
    exact xx_throw (cls := "java/lang/IndexOutOfBoundsException") (ik := 89) (is := 91) (ic := 93) (text := "no such person or group") hX htab hlocks hx hb hl0 hown (by decide +kernel) (hts _ (List.mem_of_getElem? (i := 1) rfl)) (hts _ (List.mem_of_getElem? (i := 2) rfl)) (by decide +kernel) (hX.hat (by decide +kernel) xx_ngI (fun w h => hts w (List.mem_cons_of_mem _ (List.mem_append_left _ (List.mem_append_left _ (List.mem_append_right _ (h))))))) xx_gdI (hl.1.trans hml.symm) dX4_allow_17 dX4_allow_20 dX4_allow_21 dX4_allow_23 dX4_allow_26 (Nat.le_of_ble_eq_true rfl) (Nat.le_of_ble_eq_true rfl) (Nat.le_of_ble_eq_true rfl) (Nat.le_of_ble_eq_true rfl)
  ·
    refine lv_iload_n hx hb dX4_allow_11 rfl (lv_at hl 3 rfl) ?_
    refine lv_bipush (v := 14) hx hb dX4_allow_12 (by decide) ?_
    refine lv_icmp_lt (tgt := 27) hx hb dX4_allow_14 (by decide) (fun c_14 => ?_) (fun c_14 => ?_)
    ·
      exact absurd (inB_n (N := 13) (by decide) c_8 c_14 (by decide)) (b2i_bf hb1)
    ·
      subst hQ
      exact xx_throw (cls := "java/lang/IndexOutOfBoundsException") (ik := 89) (is := 91) (ic := 93) (text := "no such person or group") hX htab hlocks hx hb hl0 hown (by decide +kernel) (hts _ (List.mem_of_getElem? (i := 1) rfl)) (hts _ (List.mem_of_getElem? (i := 2) rfl)) (by decide +kernel) (hX.hat (by decide +kernel) xx_ngI (fun w h => hts w (List.mem_cons_of_mem _ (List.mem_append_left _ (List.mem_append_left _ (List.mem_append_right _ (h))))))) xx_gdI (hl.1.trans hml.symm) dX4_allow_17 dX4_allow_20 dX4_allow_21 dX4_allow_23 dX4_allow_26 (Nat.le_of_ble_eq_true rfl) (Nat.le_of_ble_eq_true rfl) (Nat.le_of_ble_eq_true rfl) (Nat.le_of_ble_eq_true rfl)

set_option maxHeartbeats 800000 in
set_option maxRecDepth 100000 in
theorem x_allow_c (l : Launch) (hl0 : l.stackTraces = false) (D : va_G) (cI cZ cO : ClassId) {L : List Nat} {f : Nat → va_E} {tg : Nat → Nat} {AD : Nat → Nat → Nat} {mc : Nat → Int32} {F : Nat → Nat → Int32} {ik kp tu : Nat → Int32} {n : Nat} {he gv : Nat → Int32} {gp gb ob nm lo : Int32} (hR : Rep cI cO L f tg AD mc F ik kp tu n he gv gp gb ob nm lo) (x : Nat) (w : Nat) (b : Bool) (x2 : Int32) (x3 : Int32) (hxn : x < n) (hw : w < 14) (hb2 : (inB x2 1 7 && inB x3 0 2) = false) : vx_Met l yX4_allow wsX4_allow (rmx 6 85) (va_Pc [.ref (AD 0 0), .int (nI x), .int (nI w), .int (b2i b), .int x2, .int x3] (rdX D ([(cI, .int), (cZ, .boolean), (cO, .object "java/lang/Object")]) (va_pl L f))) xQc (xXC "java/lang/IllegalArgumentException") 1 6 (fun _ => False) := by
  refine vx_ofW (cc := cX4_allow) (maxL := 7) (ret := (some .int)) (by decide) rfl ?_
  intro p e s m args below meth c s₁ B hml htab hv
  obtain ⟨hargs, ⟨hP, hK, hN⟩, hX⟩ := hv
  have hx := B.exec
  have hb := B.bytes
  have hr := B.returns
  have hts := atoms_spec (ws := wsX4_allow) B.pre
  have hown : s.vm.findClass RX4 = some m.cls := findClass_of_methodNamed B.named
  have hlocks := B.notSynchronized
  have hen : entryFrame m args 7 = entryFrame m ([.ref (AD 0 0), .int (nI x), .int (nI w), .int (b2i b), .int x2, .int x3] : List Value).toArray 7 := by rw [hargs]
  rw [hen]
  have hl := lv_entry ([.ref (AD 0 0), .int (nI x), .int (nI w), .int (b2i b), .int x2, .int x3]) (n := 7) (Nat.le_of_ble_eq_true rfl)
  rw [lg_entry_eq]
  generalize (lg_sl ([.ref (AD 0 0), .int (nI x), .int (nI w), .int (b2i b), .int x2, .int x3]) ++ List.replicate (7 - (lg_sl ([.ref (AD 0 0), .int (nI x), .int (nI w), .int (b2i b), .int x2, .int x3])).length) Slot.unset).toArray = ls at hl ⊢
  have hl : lv_has ls 7 [(0, .ref (AD 0 0)), (1, .int (nI x)), (2, .int (nI w)), (3, .int (b2i b)), (4, .int x2), (5, .int x3)] := hl
  generalize hQ : vx_MQ below xQc (xXC "java/lang/IllegalArgumentException") args s 1 6 (fun _ => False) = Q
  refine lv_aload_n hx hb dX4_allow_0 rfl (lv_at hl 0 rfl) ?_
  refine lv_iload_n hx hb dX4_allow_1 rfl (lv_at hl 1 rfl) ?_
  obtain ⟨kp1, ep1⟩ := (hR.x).at
  refine va_csq (W.runV (As := [.int (nI x)]) (rest := []) ⟨hx, hb, hml, hown, hts⟩ (k_X4_folderAt l D cI cZ cO hR x (by omega)) (cwV 1 hts gX4_allow_X4_folderAt rfl rfl rfl (by decide +kernel) ⟨Nat.le_of_ble_eq_true rfl, Nat.le_of_ble_eq_true rfl⟩) ⟨rd_blind, va_recv hK hP (ci := 5) (q0 := kp1) rfl ep1, rd_pre hP hK hN⟩ rfl rfl hl.1 rfl (lv_room (Nat.le_of_ble_eq_true rfl)) dX4_allow_2 ⟨Nat.le_of_ble_eq_true rfl, Nat.le_of_ble_eq_true rfl⟩) (fun r er => ?_)
  subst er
  refine top_rf (q := AD 1 x) rfl ?_
  refine lv_astore (lv' := [(6, .ref (AD 1 x)), (0, .ref (AD 0 0)), (1, .int (nI x)), (2, .int (nI w)), (3, .int (b2i b)), (4, .int x2), (5, .int x3)]) hx hb dX4_allow_5 hl (by decide) rfl (fun ls hl => ?_)
  refine lv_iload_n hx hb dX4_allow_7 rfl (lv_at hl 3 rfl) ?_
  refine lv_if_lt (tgt := 17) hx hb dX4_allow_8 (by decide) (fun c_8 => ?_) (fun c_8 => ?_)
  ·
    exact absurd c_8 (nI_pos (by omega))
  ·
    refine lv_iload_n hx hb dX4_allow_11 rfl (lv_at hl 3 rfl) ?_
    refine lv_bipush (v := 14) hx hb dX4_allow_12 (by decide) ?_
    refine lv_icmp_lt (tgt := 27) hx hb dX4_allow_14 (by decide) (fun c_14 => ?_) (fun c_14 => ?_)
    ·
      refine lv_iload hx hb dX4_allow_27 (lv_at hl 5 rfl) ?_
      refine lv_iconst (v := 1) hx hb dX4_allow_29 (by decide) ?_
      refine lv_icmp_lt (tgt := 51) hx hb dX4_allow_30 (by decide) (fun c_30 => ?_) (fun c_30 => ?_)
      ·
        subst hQ
        exact xx_throw (cls := "java/lang/IllegalArgumentException") (ik := 94) (is := 96) (ic := 98) (text := "rights or scope out of range") hX htab hlocks hx hb hl0 hown (by decide +kernel) (hts _ (List.mem_of_getElem? (i := 3) rfl)) (hts _ (List.mem_of_getElem? (i := 4) rfl)) (by decide +kernel) (hX.hat (by decide +kernel) xx_ngA (fun w h => hts w (List.mem_cons_of_mem _ (List.mem_append_left _ (List.mem_append_right _ (h)))))) xx_gdA (hl.1.trans hml.symm) dX4_allow_51 dX4_allow_54 dX4_allow_55 dX4_allow_57 dX4_allow_60 (Nat.le_of_ble_eq_true rfl) (Nat.le_of_ble_eq_true rfl) (Nat.le_of_ble_eq_true rfl) (Nat.le_of_ble_eq_true rfl)
      ·
        refine lv_iload hx hb dX4_allow_33 (lv_at hl 5 rfl) ?_
        refine lv_bipush (v := 7) hx hb dX4_allow_35 (by decide) ?_
        refine lv_icmp_gt (tgt := 51) hx hb dX4_allow_37 (by decide) (fun c_37 => ?_) (fun c_37 => ?_)
        ·
          subst hQ
          exact xx_throw (cls := "java/lang/IllegalArgumentException") (ik := 94) (is := 96) (ic := 98) (text := "rights or scope out of range") hX htab hlocks hx hb hl0 hown (by decide +kernel) (hts _ (List.mem_of_getElem? (i := 3) rfl)) (hts _ (List.mem_of_getElem? (i := 4) rfl)) (by decide +kernel) (hX.hat (by decide +kernel) xx_ngA (fun w h => hts w (List.mem_cons_of_mem _ (List.mem_append_left _ (List.mem_append_right _ (h)))))) xx_gdA (hl.1.trans hml.symm) dX4_allow_51 dX4_allow_54 dX4_allow_55 dX4_allow_57 dX4_allow_60 (Nat.le_of_ble_eq_true rfl) (Nat.le_of_ble_eq_true rfl) (Nat.le_of_ble_eq_true rfl) (Nat.le_of_ble_eq_true rfl)
        ·
          refine lv_iload hx hb dX4_allow_40 (lv_at hl 6 rfl) ?_
          refine lv_if_lt (tgt := 51) hx hb dX4_allow_42 (by decide) (fun c_42 => ?_) (fun c_42 => ?_)
          ·
            subst hQ
            exact xx_throw (cls := "java/lang/IllegalArgumentException") (ik := 94) (is := 96) (ic := 98) (text := "rights or scope out of range") hX htab hlocks hx hb hl0 hown (by decide +kernel) (hts _ (List.mem_of_getElem? (i := 3) rfl)) (hts _ (List.mem_of_getElem? (i := 4) rfl)) (by decide +kernel) (hX.hat (by decide +kernel) xx_ngA (fun w h => hts w (List.mem_cons_of_mem _ (List.mem_append_left _ (List.mem_append_right _ (h)))))) xx_gdA (hl.1.trans hml.symm) dX4_allow_51 dX4_allow_54 dX4_allow_55 dX4_allow_57 dX4_allow_60 (Nat.le_of_ble_eq_true rfl) (Nat.le_of_ble_eq_true rfl) (Nat.le_of_ble_eq_true rfl) (Nat.le_of_ble_eq_true rfl)
          ·
            refine lv_iload hx hb dX4_allow_45 (lv_at hl 6 rfl) ?_
            refine lv_iconst (v := 2) hx hb dX4_allow_47 (by decide) ?_
            refine lv_icmp_le (tgt := 61) hx hb dX4_allow_48 (by decide) (fun c_48 => ?_) (fun c_48 => ?_)
            ·
              exact absurd (B2t (inB_of c_30 c_37) (inB_of c_42 (Int32.not_lt.mpr c_48))) (b2i_bf hb2)
            ·
              subst hQ
              exact xx_throw (cls := "java/lang/IllegalArgumentException") (ik := 94) (is := 96) (ic := 98) (text := "rights or scope out of range") hX htab hlocks hx hb hl0 hown (by decide +kernel) (hts _ (List.mem_of_getElem? (i := 3) rfl)) (hts _ (List.mem_of_getElem? (i := 4) rfl)) (by decide +kernel) (hX.hat (by decide +kernel) xx_ngA (fun w h => hts w (List.mem_cons_of_mem _ (List.mem_append_left _ (List.mem_append_right _ (h)))))) xx_gdA (hl.1.trans hml.symm) dX4_allow_51 dX4_allow_54 dX4_allow_55 dX4_allow_57 dX4_allow_60 (Nat.le_of_ble_eq_true rfl) (Nat.le_of_ble_eq_true rfl) (Nat.le_of_ble_eq_true rfl) (Nat.le_of_ble_eq_true rfl)
    ·
      exact absurd (nI_lt hw (by decide)) c_14

set_option maxHeartbeats 800000 in
set_option maxRecDepth 100000 in
theorem x_allow_d (l : Launch) (hl0 : l.stackTraces = false) (D : va_G) (cI cZ cO : ClassId) {L : List Nat} {f : Nat → va_E} {tg : Nat → Nat} {AD : Nat → Nat → Nat} {mc : Nat → Int32} {F : Nat → Nat → Int32} {ik kp tu : Nat → Int32} {n : Nat} {he gv : Nat → Int32} {gp gb ob nm lo : Int32} (hR : Rep cI cO L f tg AD mc F ik kp tu n he gv gp gb ob nm lo) (x : Nat) (w : Nat) (b : Bool) (r : Int32) (sc : Int32) (hxn : x < n) (hw : w < 14) (hr7 : inB r 1 7 = true) (hs2 : inB sc 0 2 = true) (h6 : F 6 x = 6) : vx_Met l yX4_allow wsX4_allow (rmx 6 85) (va_Pc [.ref (AD 0 0), .int (nI x), .int (nI w), .int (b2i b), .int r, .int sc] (rdX D ([(cI, .int), (cZ, .boolean), (cO, .object "java/lang/Object")]) (va_pl L f))) xQc (xXC "java/lang/IllegalStateException") 1 6 (fun _ => False) := by
  refine vx_ofW (cc := cX4_allow) (maxL := 7) (ret := (some .int)) (by decide) rfl ?_
  intro p e s m args below meth c s₁ B hml htab hv
  obtain ⟨hargs, ⟨hP, hK, hN⟩, hX⟩ := hv
  have hx := B.exec
  have hb := B.bytes
  have hr := B.returns
  have hts := atoms_spec (ws := wsX4_allow) B.pre
  have hown : s.vm.findClass RX4 = some m.cls := findClass_of_methodNamed B.named
  have hlocks := B.notSynchronized
  have hen : entryFrame m args 7 = entryFrame m ([.ref (AD 0 0), .int (nI x), .int (nI w), .int (b2i b), .int r, .int sc] : List Value).toArray 7 := by rw [hargs]
  rw [hen]
  have hl := lv_entry ([.ref (AD 0 0), .int (nI x), .int (nI w), .int (b2i b), .int r, .int sc]) (n := 7) (Nat.le_of_ble_eq_true rfl)
  rw [lg_entry_eq]
  generalize (lg_sl ([.ref (AD 0 0), .int (nI x), .int (nI w), .int (b2i b), .int r, .int sc]) ++ List.replicate (7 - (lg_sl ([.ref (AD 0 0), .int (nI x), .int (nI w), .int (b2i b), .int r, .int sc])).length) Slot.unset).toArray = ls at hl ⊢
  have hl : lv_has ls 7 [(0, .ref (AD 0 0)), (1, .int (nI x)), (2, .int (nI w)), (3, .int (b2i b)), (4, .int r), (5, .int sc)] := hl
  generalize hQ : vx_MQ below xQc (xXC "java/lang/IllegalStateException") args s 1 6 (fun _ => False) = Q
  refine lv_aload_n hx hb dX4_allow_0 rfl (lv_at hl 0 rfl) ?_
  refine lv_iload_n hx hb dX4_allow_1 rfl (lv_at hl 1 rfl) ?_
  obtain ⟨kp1, ep1⟩ := (hR.x).at
  refine va_csq (W.runV (As := [.int (nI x)]) (rest := []) ⟨hx, hb, hml, hown, hts⟩ (k_X4_folderAt l D cI cZ cO hR x (by omega)) (cwV 1 hts gX4_allow_X4_folderAt rfl rfl rfl (by decide +kernel) ⟨Nat.le_of_ble_eq_true rfl, Nat.le_of_ble_eq_true rfl⟩) ⟨rd_blind, va_recv hK hP (ci := 5) (q0 := kp1) rfl ep1, rd_pre hP hK hN⟩ rfl rfl hl.1 rfl (lv_room (Nat.le_of_ble_eq_true rfl)) dX4_allow_2 ⟨Nat.le_of_ble_eq_true rfl, Nat.le_of_ble_eq_true rfl⟩) (fun r er => ?_)
  subst er
  refine top_rf (q := AD 1 x) rfl ?_
  refine lv_astore (lv' := [(6, .ref (AD 1 x)), (0, .ref (AD 0 0)), (1, .int (nI x)), (2, .int (nI w)), (3, .int (b2i b)), (4, .int r), (5, .int sc)]) hx hb dX4_allow_5 hl (by decide) rfl (fun ls hl => ?_)
  refine lv_iload_n hx hb dX4_allow_7 rfl (lv_at hl 3 rfl) ?_
  refine lv_if_lt (tgt := 17) hx hb dX4_allow_8 (by decide) (fun c_8 => ?_) (fun c_8 => ?_)
  ·
    exact absurd c_8 (nI_pos (by omega))
  ·
    refine lv_iload_n hx hb dX4_allow_11 rfl (lv_at hl 3 rfl) ?_
    refine lv_bipush (v := 14) hx hb dX4_allow_12 (by decide) ?_
    refine lv_icmp_lt (tgt := 27) hx hb dX4_allow_14 (by decide) (fun c_14 => ?_) (fun c_14 => ?_)
    ·
      refine lv_iload hx hb dX4_allow_27 (lv_at hl 5 rfl) ?_
      refine lv_iconst (v := 1) hx hb dX4_allow_29 (by decide) ?_
      refine lv_icmp_lt (tgt := 51) hx hb dX4_allow_30 (by decide) (fun c_30 => ?_) (fun c_30 => ?_)
      ·
        exact absurd c_30 (inB_lo hr7)
      ·
        refine lv_iload hx hb dX4_allow_33 (lv_at hl 5 rfl) ?_
        refine lv_bipush (v := 7) hx hb dX4_allow_35 (by decide) ?_
        refine lv_icmp_gt (tgt := 51) hx hb dX4_allow_37 (by decide) (fun c_37 => ?_) (fun c_37 => ?_)
        ·
          exact absurd c_37 (inB_hi hr7)
        ·
          refine lv_iload hx hb dX4_allow_40 (lv_at hl 6 rfl) ?_
          refine lv_if_lt (tgt := 51) hx hb dX4_allow_42 (by decide) (fun c_42 => ?_) (fun c_42 => ?_)
          ·
            exact absurd c_42 (inB_lo hs2)
          ·
            refine lv_iload hx hb dX4_allow_45 (lv_at hl 6 rfl) ?_
            refine lv_iconst (v := 2) hx hb dX4_allow_47 (by decide) ?_
            refine lv_icmp_le (tgt := 61) hx hb dX4_allow_48 (by decide) (fun c_48 => ?_) (fun c_48 => ?_)
            ·
              refine lv_aload hx hb dX4_allow_61 (lv_at hl 0 rfl) ?_
              obtain ⟨kp2, ep2⟩ := (hR.fo (i := x) (by omega)).at
              refine va_get (D := D) (ci := 2) (v := .ref (AD 2 x)) (C := RX1) (T := TX1) (N := 7) hx hb hts (fun _ h => List.mem_cons_of_mem _ (List.mem_append_left _ (List.mem_append_left _ (List.mem_append_left _ (List.mem_append_left _ (List.mem_append_left _ (List.mem_append_left _ (List.mem_append_right _ (h))))))))) hown hK hP kp2 ep2 rfl 1 (by decide) (hts _ (List.mem_of_getElem? (i := 7) rfl)) (fun _ h9 => h9) rfl dX4_allow_63 ?_
              obtain ⟨kp3, ep3⟩ := (hR.ro (i := x) (by omega)).at
              obtain ⟨kp4, ep4⟩ := (hR.ro (i := x) (by omega)).at
              refine vp_callSi (W.runV (As := []) (rest := []) ⟨hx, hb, hml, hown, hts⟩ (k_Jx4a65c_size_8abf5 l D cI cZ cO ep3 ) (cwV 0 hts gX4_allow_Jx4a65c_size_8abf5 rfl rfl rfl (by decide +kernel) ⟨Nat.le_of_ble_eq_true rfl, Nat.le_of_ble_eq_true rfl⟩) ⟨rd_blind, va_recv hK hP (ci := 0) (q0 := kp4) rfl ep4, rd_pre hP hK hN⟩ rfl rfl hl.1 rfl (lv_room (Nat.le_of_ble_eq_true rfl)) dX4_allow_66 ⟨Nat.le_of_ble_eq_true rfl, Nat.le_of_ble_eq_true rfl⟩) (fun r er => ?_)
              subst er
              refine lv_bipush (v := 6) hx hb dX4_allow_69 (by decide) ?_
              refine lv_icmp_lt (tgt := 84) hx hb dX4_allow_71 (by decide) (fun c_71 => ?_) (fun c_71 => ?_)
              ·
                exact absurd c_71 (by rw [h6]; decide)
              ·
                subst hQ
                exact xx_throw (cls := "java/lang/IllegalStateException") (ik := 58) (is := 102) (ic := 62) (text := "the folder has 6 entries") hX htab hlocks hx hb hl0 hown (by decide +kernel) (hts _ (List.mem_of_getElem? (i := 5) rfl)) (hts _ (List.mem_of_getElem? (i := 6) rfl)) (by decide +kernel) (hX.hat (by decide +kernel) xx_ngS (fun w h => hts w (List.mem_cons_of_mem _ (List.mem_append_right _ (h))))) xx_gdS (hl.1.trans hml.symm) dX4_allow_74 dX4_allow_77 dX4_allow_78 dX4_allow_80 dX4_allow_83 (Nat.le_of_ble_eq_true rfl) (Nat.le_of_ble_eq_true rfl) (Nat.le_of_ble_eq_true rfl) (Nat.le_of_ble_eq_true rfl)
            ·
              exact absurd (inB_le hs2) c_48
    ·
      exact absurd (nI_lt hw (by decide)) c_14

set_option maxHeartbeats 800000 in
set_option maxRecDepth 100000 in
theorem x_rights_a (l : Launch) (hl0 : l.stackTraces = false) (D : va_G) (cI cZ cO : ClassId) {L : List Nat} {f : Nat → va_E} {tg : Nat → Nat} {AD : Nat → Nat → Nat} {mc : Nat → Int32} {F : Nat → Nat → Int32} {ik kp tu : Nat → Int32} {n : Nat} {he gv : Nat → Int32} {gp gb ob nm lo : Int32} (hR : Rep cI cO L f tg AD mc F ik kp tu n he gv gp gb ob nm lo) (x0 : Int32) (x1 : Int32) (hb1 : inB x0 0 7 = false) : vx_Met l yX4_rights wsX4_rights (rmx 7 102) (va_Pc [.ref (AD 0 0), .int x0, .int x1] (rdX D ([(cI, .int), (cZ, .boolean), (cO, .object "java/lang/Object")]) (va_pl L f))) xQc (xXC "java/lang/IndexOutOfBoundsException") 1 6 (fun _ => False) := by
  refine vx_ofW (cc := cX4_rights) (maxL := 3) (ret := (some .int)) (by decide) rfl ?_
  intro p e s m args below meth c s₁ B hml htab hv
  obtain ⟨hargs, ⟨hP, hK, hN⟩, hX⟩ := hv
  have hx := B.exec
  have hb := B.bytes
  have hr := B.returns
  have hts := atoms_spec (ws := wsX4_rights) B.pre
  have hown : s.vm.findClass RX4 = some m.cls := findClass_of_methodNamed B.named
  have hlocks := B.notSynchronized
  have hen : entryFrame m args 3 = entryFrame m ([.ref (AD 0 0), .int x0, .int x1] : List Value).toArray 3 := by rw [hargs]
  rw [hen]
  have hl := lv_entry ([.ref (AD 0 0), .int x0, .int x1]) (n := 3) (Nat.le_of_ble_eq_true rfl)
  rw [lg_entry_eq]
  generalize (lg_sl ([.ref (AD 0 0), .int x0, .int x1]) ++ List.replicate (3 - (lg_sl ([.ref (AD 0 0), .int x0, .int x1])).length) Slot.unset).toArray = ls at hl ⊢
  have hl : lv_has ls 3 [(0, .ref (AD 0 0)), (1, .int x0), (2, .int x1)] := hl
  generalize hQ : vx_MQ below xQc (xXC "java/lang/IndexOutOfBoundsException") args s 1 6 (fun _ => False) = Q
  refine lv_iload_n hx hb dX4_rights_0 rfl (lv_at hl 1 rfl) ?_
  subst hQ
  exact xx_pass htab hlocks (vx_runS (As := [.int x0]) (rest := []) ⟨hx, hb, hml, hown, hts⟩ (x_noPerson l hl0 x0 hb1) (va_cwS 1 hts gX4_rights_X4_refuseNoPerson rfl rfl rfl (by decide +kernel) ⟨Nat.le_of_ble_eq_true rfl, Nat.le_of_ble_eq_true rfl⟩) ⟨nx_blind, nx_pre hX⟩ rfl rfl hl.1 rfl (lv_room (Nat.le_of_ble_eq_true rfl)) dX4_rights_1 ⟨Nat.le_of_ble_eq_true rfl, Nat.le_of_ble_eq_true rfl⟩)

set_option maxHeartbeats 800000 in
set_option maxRecDepth 100000 in
theorem x_rights_b (l : Launch) (hl0 : l.stackTraces = false) (D : va_G) (cI cZ cO : ClassId) {L : List Nat} {f : Nat → va_E} {tg : Nat → Nat} {AD : Nat → Nat → Nat} {mc : Nat → Int32} {F : Nat → Nat → Int32} {ik kp tu : Nat → Int32} {n : Nat} {he gv : Nat → Int32} {gp gb ob nm lo : Int32} (hR : Rep cI cO L f tg AD mc F ik kp tu n he gv gp gb ob nm lo) (x : Nat) (x1 : Int32) (hM : okC F n) (hx8 : x < 8) (hb1 : inB x1 0 (nI n - 1) = false) : vx_Met l yX4_rights wsX4_rights (rmx 7 103) (va_Pc [.ref (AD 0 0), .int (nI x), .int x1] (rdX D ([(cI, .int), (cZ, .boolean), (cO, .object "java/lang/Object")]) (va_pl L f))) xQc (xXC "java/lang/IndexOutOfBoundsException") 1 6 (fun _ => False) := by
  refine vx_ofW (cc := cX4_rights) (maxL := 3) (ret := (some .int)) (by decide) rfl ?_
  intro p e s m args below meth c s₁ B hml htab hv
  obtain ⟨hargs, ⟨hP, hK, hN⟩, hX⟩ := hv
  have hx := B.exec
  have hb := B.bytes
  have hr := B.returns
  have hts := atoms_spec (ws := wsX4_rights) B.pre
  have hown : s.vm.findClass RX4 = some m.cls := findClass_of_methodNamed B.named
  have hlocks := B.notSynchronized
  have hen : entryFrame m args 3 = entryFrame m ([.ref (AD 0 0), .int (nI x), .int x1] : List Value).toArray 3 := by rw [hargs]
  rw [hen]
  have hl := lv_entry ([.ref (AD 0 0), .int (nI x), .int x1]) (n := 3) (Nat.le_of_ble_eq_true rfl)
  rw [lg_entry_eq]
  generalize (lg_sl ([.ref (AD 0 0), .int (nI x), .int x1]) ++ List.replicate (3 - (lg_sl ([.ref (AD 0 0), .int (nI x), .int x1])).length) Slot.unset).toArray = ls at hl ⊢
  have hl : lv_has ls 3 [(0, .ref (AD 0 0)), (1, .int (nI x)), (2, .int x1)] := hl
  generalize hQ : vx_MQ below xQc (xXC "java/lang/IndexOutOfBoundsException") args s 1 6 (fun _ => False) = Q
  refine lv_iload_n hx hb dX4_rights_0 rfl (lv_at hl 1 rfl) ?_
  refine va_csv (W.runS (As := [.int (nI x)]) (rest := []) ⟨hx, hb, hml, hown, hts⟩ (k_X4_refuseNoPerson l x (by omega)) (va_cwS 1 hts gX4_rights_X4_refuseNoPerson rfl rfl rfl (by decide +kernel) ⟨Nat.le_of_ble_eq_true rfl, Nat.le_of_ble_eq_true rfl⟩) ⟨nf_blind, fun U hU hW => ⟨rfl, trivial⟩⟩ rfl rfl hl.1 rfl (lv_room (Nat.le_of_ble_eq_true rfl)) dX4_rights_1 ⟨Nat.le_of_ble_eq_true rfl, Nat.le_of_ble_eq_true rfl⟩) (fun _ => ?_)
  refine lv_aload_n hx hb dX4_rights_4 rfl (lv_at hl 0 rfl) ?_
  refine lv_iload_n hx hb dX4_rights_5 rfl (lv_at hl 1 rfl) ?_
  refine lv_aload_n hx hb dX4_rights_6 rfl (lv_at hl 0 rfl) ?_
  refine lv_iload_n hx hb dX4_rights_7 rfl (lv_at hl 2 rfl) ?_
  subst hQ
  obtain ⟨kp1, ep1⟩ := (hR.x).at
  exact xx_pass htab hlocks (vx_runV (As := [.int x1]) (rest := [.int (nI x), .ref (AD 0 0)]) ⟨hx, hb, hml, hown, hts⟩ (x_folderAt l hl0 D cI cZ cO hR x1 hM hb1) (cwV 1 hts gX4_rights_X4_folderAt rfl rfl rfl (by decide +kernel) ⟨Nat.le_of_ble_eq_true rfl, Nat.le_of_ble_eq_true rfl⟩) ⟨rdX_blind, va_recv hK hP (ci := 5) (q0 := kp1) rfl ep1, rdX_pre hP hK hN hX rfl⟩ rfl rfl hl.1 rfl (lv_room (Nat.le_of_ble_eq_true rfl)) dX4_rights_8 ⟨Nat.le_of_ble_eq_true rfl, Nat.le_of_ble_eq_true rfl⟩)

set_option maxHeartbeats 800000 in
set_option maxRecDepth 100000 in
theorem x_rightsBackwards_a (l : Launch) (hl0 : l.stackTraces = false) (D : va_G) (cI cZ cO : ClassId) {L : List Nat} {f : Nat → va_E} {tg : Nat → Nat} {AD : Nat → Nat → Nat} {mc : Nat → Int32} {F : Nat → Nat → Int32} {ik kp tu : Nat → Int32} {n : Nat} {he gv : Nat → Int32} {gp gb ob nm lo : Int32} (hR : Rep cI cO L f tg AD mc F ik kp tu n he gv gp gb ob nm lo) (x0 : Int32) (x1 : Int32) (hb1 : inB x0 0 7 = false) : vx_Met l yX4_rightsBackwards wsX4_rightsBackwards (rmx 7 102) (va_Pc [.ref (AD 0 0), .int x0, .int x1] (rdX D ([(cI, .int), (cZ, .boolean), (cO, .object "java/lang/Object")]) (va_pl L f))) xQc (xXC "java/lang/IndexOutOfBoundsException") 1 6 (fun _ => False) := by
  refine vx_ofW (cc := cX4_rightsBackwards) (maxL := 3) (ret := (some .int)) (by decide) rfl ?_
  intro p e s m args below meth c s₁ B hml htab hv
  obtain ⟨hargs, ⟨hP, hK, hN⟩, hX⟩ := hv
  have hx := B.exec
  have hb := B.bytes
  have hr := B.returns
  have hts := atoms_spec (ws := wsX4_rightsBackwards) B.pre
  have hown : s.vm.findClass RX4 = some m.cls := findClass_of_methodNamed B.named
  have hlocks := B.notSynchronized
  have hen : entryFrame m args 3 = entryFrame m ([.ref (AD 0 0), .int x0, .int x1] : List Value).toArray 3 := by rw [hargs]
  rw [hen]
  have hl := lv_entry ([.ref (AD 0 0), .int x0, .int x1]) (n := 3) (Nat.le_of_ble_eq_true rfl)
  rw [lg_entry_eq]
  generalize (lg_sl ([.ref (AD 0 0), .int x0, .int x1]) ++ List.replicate (3 - (lg_sl ([.ref (AD 0 0), .int x0, .int x1])).length) Slot.unset).toArray = ls at hl ⊢
  have hl : lv_has ls 3 [(0, .ref (AD 0 0)), (1, .int x0), (2, .int x1)] := hl
  generalize hQ : vx_MQ below xQc (xXC "java/lang/IndexOutOfBoundsException") args s 1 6 (fun _ => False) = Q
  refine lv_iload_n hx hb dX4_rightsBackwards_0 rfl (lv_at hl 1 rfl) ?_
  subst hQ
  exact xx_pass htab hlocks (vx_runS (As := [.int x0]) (rest := []) ⟨hx, hb, hml, hown, hts⟩ (x_noPerson l hl0 x0 hb1) (va_cwS 1 hts gX4_rightsBackwards_X4_refuseNoPerson rfl rfl rfl (by decide +kernel) ⟨Nat.le_of_ble_eq_true rfl, Nat.le_of_ble_eq_true rfl⟩) ⟨nx_blind, nx_pre hX⟩ rfl rfl hl.1 rfl (lv_room (Nat.le_of_ble_eq_true rfl)) dX4_rightsBackwards_1 ⟨Nat.le_of_ble_eq_true rfl, Nat.le_of_ble_eq_true rfl⟩)

set_option maxHeartbeats 800000 in
set_option maxRecDepth 100000 in
theorem x_rightsBackwards_b (l : Launch) (hl0 : l.stackTraces = false) (D : va_G) (cI cZ cO : ClassId) {L : List Nat} {f : Nat → va_E} {tg : Nat → Nat} {AD : Nat → Nat → Nat} {mc : Nat → Int32} {F : Nat → Nat → Int32} {ik kp tu : Nat → Int32} {n : Nat} {he gv : Nat → Int32} {gp gb ob nm lo : Int32} (hR : Rep cI cO L f tg AD mc F ik kp tu n he gv gp gb ob nm lo) (x : Nat) (x1 : Int32) (hM : okC F n) (hx8 : x < 8) (hb1 : inB x1 0 (nI n - 1) = false) : vx_Met l yX4_rightsBackwards wsX4_rightsBackwards (rmx 7 103) (va_Pc [.ref (AD 0 0), .int (nI x), .int x1] (rdX D ([(cI, .int), (cZ, .boolean), (cO, .object "java/lang/Object")]) (va_pl L f))) xQc (xXC "java/lang/IndexOutOfBoundsException") 1 6 (fun _ => False) := by
  refine vx_ofW (cc := cX4_rightsBackwards) (maxL := 3) (ret := (some .int)) (by decide) rfl ?_
  intro p e s m args below meth c s₁ B hml htab hv
  obtain ⟨hargs, ⟨hP, hK, hN⟩, hX⟩ := hv
  have hx := B.exec
  have hb := B.bytes
  have hr := B.returns
  have hts := atoms_spec (ws := wsX4_rightsBackwards) B.pre
  have hown : s.vm.findClass RX4 = some m.cls := findClass_of_methodNamed B.named
  have hlocks := B.notSynchronized
  have hen : entryFrame m args 3 = entryFrame m ([.ref (AD 0 0), .int (nI x), .int x1] : List Value).toArray 3 := by rw [hargs]
  rw [hen]
  have hl := lv_entry ([.ref (AD 0 0), .int (nI x), .int x1]) (n := 3) (Nat.le_of_ble_eq_true rfl)
  rw [lg_entry_eq]
  generalize (lg_sl ([.ref (AD 0 0), .int (nI x), .int x1]) ++ List.replicate (3 - (lg_sl ([.ref (AD 0 0), .int (nI x), .int x1])).length) Slot.unset).toArray = ls at hl ⊢
  have hl : lv_has ls 3 [(0, .ref (AD 0 0)), (1, .int (nI x)), (2, .int x1)] := hl
  generalize hQ : vx_MQ below xQc (xXC "java/lang/IndexOutOfBoundsException") args s 1 6 (fun _ => False) = Q
  refine lv_iload_n hx hb dX4_rightsBackwards_0 rfl (lv_at hl 1 rfl) ?_
  refine va_csv (W.runS (As := [.int (nI x)]) (rest := []) ⟨hx, hb, hml, hown, hts⟩ (k_X4_refuseNoPerson l x (by omega)) (va_cwS 1 hts gX4_rightsBackwards_X4_refuseNoPerson rfl rfl rfl (by decide +kernel) ⟨Nat.le_of_ble_eq_true rfl, Nat.le_of_ble_eq_true rfl⟩) ⟨nf_blind, fun U hU hW => ⟨rfl, trivial⟩⟩ rfl rfl hl.1 rfl (lv_room (Nat.le_of_ble_eq_true rfl)) dX4_rightsBackwards_1 ⟨Nat.le_of_ble_eq_true rfl, Nat.le_of_ble_eq_true rfl⟩) (fun _ => ?_)
  refine lv_aload_n hx hb dX4_rightsBackwards_4 rfl (lv_at hl 0 rfl) ?_
  refine lv_iload_n hx hb dX4_rightsBackwards_5 rfl (lv_at hl 1 rfl) ?_
  refine lv_aload_n hx hb dX4_rightsBackwards_6 rfl (lv_at hl 0 rfl) ?_
  refine lv_iload_n hx hb dX4_rightsBackwards_7 rfl (lv_at hl 2 rfl) ?_
  subst hQ
  obtain ⟨kp1, ep1⟩ := (hR.x).at
  exact xx_pass htab hlocks (vx_runV (As := [.int x1]) (rest := [.int (nI x), .ref (AD 0 0)]) ⟨hx, hb, hml, hown, hts⟩ (x_folderAt l hl0 D cI cZ cO hR x1 hM hb1) (cwV 1 hts gX4_rightsBackwards_X4_folderAt rfl rfl rfl (by decide +kernel) ⟨Nat.le_of_ble_eq_true rfl, Nat.le_of_ble_eq_true rfl⟩) ⟨rdX_blind, va_recv hK hP (ci := 5) (q0 := kp1) rfl ep1, rdX_pre hP hK hN hX rfl⟩ rfl rfl hl.1 rfl (lv_room (Nat.le_of_ble_eq_true rfl)) dX4_rightsBackwards_8 ⟨Nat.le_of_ble_eq_true rfl, Nat.le_of_ble_eq_true rfl⟩)

set_option maxHeartbeats 800000 in
set_option maxRecDepth 100000 in
theorem x_rightsNow_a (l : Launch) (hl0 : l.stackTraces = false) (D : va_G) (cI cZ cO : ClassId) {L : List Nat} {f : Nat → va_E} {tg : Nat → Nat} {AD : Nat → Nat → Nat} {mc : Nat → Int32} {F : Nat → Nat → Int32} {ik kp tu : Nat → Int32} {n : Nat} {he gv : Nat → Int32} {gp gb ob nm lo : Int32} (hR : Rep cI cO L f tg AD mc F ik kp tu n he gv gp gb ob nm lo) (x0 : Int32) (x1 : Int32) (hb1 : inB x0 0 7 = false) : vx_Met l yX4_rightsNow wsX4_rightsNow (rmx 7 113) (va_Pc [.ref (AD 0 0), .int x0, .int x1] (rdX D ([(cI, .int), (cZ, .boolean), (cO, .object "java/lang/Object")]) (va_pl L f))) xQc (xXC "java/lang/IndexOutOfBoundsException") 1 6 (fun _ => False) := by
  refine vx_ofW (cc := cX4_rightsNow) (maxL := 3) (ret := (some .int)) (by decide) rfl ?_
  intro p e s m args below meth c s₁ B hml htab hv
  obtain ⟨hargs, ⟨hP, hK, hN⟩, hX⟩ := hv
  have hx := B.exec
  have hb := B.bytes
  have hr := B.returns
  have hts := atoms_spec (ws := wsX4_rightsNow) B.pre
  have hown : s.vm.findClass RX4 = some m.cls := findClass_of_methodNamed B.named
  have hlocks := B.notSynchronized
  have hen : entryFrame m args 3 = entryFrame m ([.ref (AD 0 0), .int x0, .int x1] : List Value).toArray 3 := by rw [hargs]
  rw [hen]
  have hl := lv_entry ([.ref (AD 0 0), .int x0, .int x1]) (n := 3) (Nat.le_of_ble_eq_true rfl)
  rw [lg_entry_eq]
  generalize (lg_sl ([.ref (AD 0 0), .int x0, .int x1]) ++ List.replicate (3 - (lg_sl ([.ref (AD 0 0), .int x0, .int x1])).length) Slot.unset).toArray = ls at hl ⊢
  have hl : lv_has ls 3 [(0, .ref (AD 0 0)), (1, .int x0), (2, .int x1)] := hl
  generalize hQ : vx_MQ below xQc (xXC "java/lang/IndexOutOfBoundsException") args s 1 6 (fun _ => False) = Q
  refine lv_iload_n hx hb dX4_rightsNow_0 rfl (lv_at hl 1 rfl) ?_
  subst hQ
  exact xx_pass htab hlocks (vx_runS (As := [.int x0]) (rest := []) ⟨hx, hb, hml, hown, hts⟩ (x_noPerson l hl0 x0 hb1) (va_cwS 1 hts gX4_rightsNow_X4_refuseNoPerson rfl rfl rfl (by decide +kernel) ⟨Nat.le_of_ble_eq_true rfl, Nat.le_of_ble_eq_true rfl⟩) ⟨nx_blind, nx_pre hX⟩ rfl rfl hl.1 rfl (lv_room (Nat.le_of_ble_eq_true rfl)) dX4_rightsNow_1 ⟨Nat.le_of_ble_eq_true rfl, Nat.le_of_ble_eq_true rfl⟩)

set_option maxHeartbeats 800000 in
set_option maxRecDepth 100000 in
theorem x_rightsNow_b (l : Launch) (hl0 : l.stackTraces = false) (D : va_G) (cI cZ cO : ClassId) {L : List Nat} {f : Nat → va_E} {tg : Nat → Nat} {AD : Nat → Nat → Nat} {mc : Nat → Int32} {F : Nat → Nat → Int32} {ik kp tu : Nat → Int32} {n : Nat} {he gv : Nat → Int32} {gp gb ob nm lo : Int32} (hR : Rep cI cO L f tg AD mc F ik kp tu n he gv gp gb ob nm lo) (x : Nat) (x1 : Int32) (hM : okC F n) (hx8 : x < 8) (hb1 : inB x1 0 (nI n - 1) = false) : vx_Met l yX4_rightsNow wsX4_rightsNow (rmx 7 113) (va_Pc [.ref (AD 0 0), .int (nI x), .int x1] (rdX D ([(cI, .int), (cZ, .boolean), (cO, .object "java/lang/Object")]) (va_pl L f))) xQc (xXC "java/lang/IndexOutOfBoundsException") 1 6 (fun _ => False) := by
  refine vx_ofW (cc := cX4_rightsNow) (maxL := 3) (ret := (some .int)) (by decide) rfl ?_
  intro p e s m args below meth c s₁ B hml htab hv
  obtain ⟨hargs, ⟨hP, hK, hN⟩, hX⟩ := hv
  have hx := B.exec
  have hb := B.bytes
  have hr := B.returns
  have hts := atoms_spec (ws := wsX4_rightsNow) B.pre
  have hown : s.vm.findClass RX4 = some m.cls := findClass_of_methodNamed B.named
  have hlocks := B.notSynchronized
  have hen : entryFrame m args 3 = entryFrame m ([.ref (AD 0 0), .int (nI x), .int x1] : List Value).toArray 3 := by rw [hargs]
  rw [hen]
  have hl := lv_entry ([.ref (AD 0 0), .int (nI x), .int x1]) (n := 3) (Nat.le_of_ble_eq_true rfl)
  rw [lg_entry_eq]
  generalize (lg_sl ([.ref (AD 0 0), .int (nI x), .int x1]) ++ List.replicate (3 - (lg_sl ([.ref (AD 0 0), .int (nI x), .int x1])).length) Slot.unset).toArray = ls at hl ⊢
  have hl : lv_has ls 3 [(0, .ref (AD 0 0)), (1, .int (nI x)), (2, .int x1)] := hl
  generalize hQ : vx_MQ below xQc (xXC "java/lang/IndexOutOfBoundsException") args s 1 6 (fun _ => False) = Q
  refine lv_iload_n hx hb dX4_rightsNow_0 rfl (lv_at hl 1 rfl) ?_
  refine va_csv (W.runS (As := [.int (nI x)]) (rest := []) ⟨hx, hb, hml, hown, hts⟩ (k_X4_refuseNoPerson l x (by omega)) (va_cwS 1 hts gX4_rightsNow_X4_refuseNoPerson rfl rfl rfl (by decide +kernel) ⟨Nat.le_of_ble_eq_true rfl, Nat.le_of_ble_eq_true rfl⟩) ⟨nf_blind, fun U hU hW => ⟨rfl, trivial⟩⟩ rfl rfl hl.1 rfl (lv_room (Nat.le_of_ble_eq_true rfl)) dX4_rightsNow_1 ⟨Nat.le_of_ble_eq_true rfl, Nat.le_of_ble_eq_true rfl⟩) (fun _ => ?_)
  refine lv_aload_n hx hb dX4_rightsNow_4 rfl (lv_at hl 0 rfl) ?_
  refine lv_iload_n hx hb dX4_rightsNow_5 rfl (lv_at hl 1 rfl) ?_
  refine lv_aload_n hx hb dX4_rightsNow_6 rfl (lv_at hl 0 rfl) ?_
  refine lv_iload_n hx hb dX4_rightsNow_7 rfl (lv_at hl 2 rfl) ?_
  subst hQ
  obtain ⟨kp1, ep1⟩ := (hR.x).at
  exact xx_pass htab hlocks (vx_runV (As := [.int x1]) (rest := [.int (nI x), .ref (AD 0 0)]) ⟨hx, hb, hml, hown, hts⟩ (x_folderAt l hl0 D cI cZ cO hR x1 hM hb1) (cwV 1 hts gX4_rightsNow_X4_folderAt rfl rfl rfl (by decide +kernel) ⟨Nat.le_of_ble_eq_true rfl, Nat.le_of_ble_eq_true rfl⟩) ⟨rdX_blind, va_recv hK hP (ci := 5) (q0 := kp1) rfl ep1, rdX_pre hP hK hN hX rfl⟩ rfl rfl hl.1 rfl (lv_room (Nat.le_of_ble_eq_true rfl)) dX4_rightsNow_8 ⟨Nat.le_of_ble_eq_true rfl, Nat.le_of_ble_eq_true rfl⟩)

set_option maxHeartbeats 800000 in
set_option maxRecDepth 100000 in
theorem x_mapped_a (l : Launch) (hl0 : l.stackTraces = false) (D : va_G) (cI cZ cO : ClassId) {L : List Nat} {f : Nat → va_E} {tg : Nat → Nat} {AD : Nat → Nat → Nat} {mc : Nat → Int32} {F : Nat → Nat → Int32} {ik kp tu : Nat → Int32} {n : Nat} {he gv : Nat → Int32} {gp gb ob nm lo : Int32} (hR : Rep cI cO L f tg AD mc F ik kp tu n he gv gp gb ob nm lo) (x0 : Int32) (x1 : Int32) (hb1 : inB x0 0 7 = false) : vx_Met l yX4_mapped wsX4_mapped (rmx 7 139) (va_Pc [.ref (AD 0 0), .int x0, .int x1] (rdX D ([(cI, .int), (cZ, .boolean), (cO, .object "java/lang/Object")]) (va_pl L f))) xQc (xXC "java/lang/IndexOutOfBoundsException") 1 6 (fun _ => False) := by
  refine vx_ofW (cc := cX4_mapped) (maxL := 3) (ret := (some .int)) (by decide) rfl ?_
  intro p e s m args below meth c s₁ B hml htab hv
  obtain ⟨hargs, ⟨hP, hK, hN⟩, hX⟩ := hv
  have hx := B.exec
  have hb := B.bytes
  have hr := B.returns
  have hts := atoms_spec (ws := wsX4_mapped) B.pre
  have hown : s.vm.findClass RX4 = some m.cls := findClass_of_methodNamed B.named
  have hlocks := B.notSynchronized
  have hen : entryFrame m args 3 = entryFrame m ([.ref (AD 0 0), .int x0, .int x1] : List Value).toArray 3 := by rw [hargs]
  rw [hen]
  have hl := lv_entry ([.ref (AD 0 0), .int x0, .int x1]) (n := 3) (Nat.le_of_ble_eq_true rfl)
  rw [lg_entry_eq]
  generalize (lg_sl ([.ref (AD 0 0), .int x0, .int x1]) ++ List.replicate (3 - (lg_sl ([.ref (AD 0 0), .int x0, .int x1])).length) Slot.unset).toArray = ls at hl ⊢
  have hl : lv_has ls 3 [(0, .ref (AD 0 0)), (1, .int x0), (2, .int x1)] := hl
  generalize hQ : vx_MQ below xQc (xXC "java/lang/IndexOutOfBoundsException") args s 1 6 (fun _ => False) = Q
  refine lv_iload_n hx hb dX4_mapped_0 rfl (lv_at hl 1 rfl) ?_
  subst hQ
  exact xx_pass htab hlocks (vx_runS (As := [.int x0]) (rest := []) ⟨hx, hb, hml, hown, hts⟩ (x_noPerson l hl0 x0 hb1) (va_cwS 1 hts gX4_mapped_X4_refuseNoPerson rfl rfl rfl (by decide +kernel) ⟨Nat.le_of_ble_eq_true rfl, Nat.le_of_ble_eq_true rfl⟩) ⟨nx_blind, nx_pre hX⟩ rfl rfl hl.1 rfl (lv_room (Nat.le_of_ble_eq_true rfl)) dX4_mapped_1 ⟨Nat.le_of_ble_eq_true rfl, Nat.le_of_ble_eq_true rfl⟩)

set_option maxHeartbeats 800000 in
set_option maxRecDepth 100000 in
theorem x_mapped_b (l : Launch) (hl0 : l.stackTraces = false) (D : va_G) (cI cZ cO : ClassId) {L : List Nat} {f : Nat → va_E} {tg : Nat → Nat} {AD : Nat → Nat → Nat} {mc : Nat → Int32} {F : Nat → Nat → Int32} {ik kp tu : Nat → Int32} {n : Nat} {he gv : Nat → Int32} {gp gb ob nm lo : Int32} (hR : Rep cI cO L f tg AD mc F ik kp tu n he gv gp gb ob nm lo) (x : Nat) (x1 : Int32) (hM : okC F n) (hx8 : x < 8) (hb1 : inB x1 0 (nI n - 1) = false) : vx_Met l yX4_mapped wsX4_mapped (rmx 7 139) (va_Pc [.ref (AD 0 0), .int (nI x), .int x1] (rdX D ([(cI, .int), (cZ, .boolean), (cO, .object "java/lang/Object")]) (va_pl L f))) xQc (xXC "java/lang/IndexOutOfBoundsException") 1 6 (fun _ => False) := by
  refine vx_ofW (cc := cX4_mapped) (maxL := 3) (ret := (some .int)) (by decide) rfl ?_
  intro p e s m args below meth c s₁ B hml htab hv
  obtain ⟨hargs, ⟨hP, hK, hN⟩, hX⟩ := hv
  have hx := B.exec
  have hb := B.bytes
  have hr := B.returns
  have hts := atoms_spec (ws := wsX4_mapped) B.pre
  have hown : s.vm.findClass RX4 = some m.cls := findClass_of_methodNamed B.named
  have hlocks := B.notSynchronized
  have hen : entryFrame m args 3 = entryFrame m ([.ref (AD 0 0), .int (nI x), .int x1] : List Value).toArray 3 := by rw [hargs]
  rw [hen]
  have hl := lv_entry ([.ref (AD 0 0), .int (nI x), .int x1]) (n := 3) (Nat.le_of_ble_eq_true rfl)
  rw [lg_entry_eq]
  generalize (lg_sl ([.ref (AD 0 0), .int (nI x), .int x1]) ++ List.replicate (3 - (lg_sl ([.ref (AD 0 0), .int (nI x), .int x1])).length) Slot.unset).toArray = ls at hl ⊢
  have hl : lv_has ls 3 [(0, .ref (AD 0 0)), (1, .int (nI x)), (2, .int x1)] := hl
  generalize hQ : vx_MQ below xQc (xXC "java/lang/IndexOutOfBoundsException") args s 1 6 (fun _ => False) = Q
  refine lv_iload_n hx hb dX4_mapped_0 rfl (lv_at hl 1 rfl) ?_
  refine va_csv (W.runS (As := [.int (nI x)]) (rest := []) ⟨hx, hb, hml, hown, hts⟩ (k_X4_refuseNoPerson l x (by omega)) (va_cwS 1 hts gX4_mapped_X4_refuseNoPerson rfl rfl rfl (by decide +kernel) ⟨Nat.le_of_ble_eq_true rfl, Nat.le_of_ble_eq_true rfl⟩) ⟨nf_blind, fun U hU hW => ⟨rfl, trivial⟩⟩ rfl rfl hl.1 rfl (lv_room (Nat.le_of_ble_eq_true rfl)) dX4_mapped_1 ⟨Nat.le_of_ble_eq_true rfl, Nat.le_of_ble_eq_true rfl⟩) (fun _ => ?_)
  refine lv_aload_n hx hb dX4_mapped_4 rfl (lv_at hl 0 rfl) ?_
  refine lv_aload_n hx hb dX4_mapped_5 rfl (lv_at hl 0 rfl) ?_
  refine lv_iload_n hx hb dX4_mapped_6 rfl (lv_at hl 2 rfl) ?_
  subst hQ
  obtain ⟨kp1, ep1⟩ := (hR.x).at
  exact xx_pass htab hlocks (vx_runV (As := [.int x1]) (rest := [.ref (AD 0 0)]) ⟨hx, hb, hml, hown, hts⟩ (x_folderAt l hl0 D cI cZ cO hR x1 hM hb1) (cwV 1 hts gX4_mapped_X4_folderAt rfl rfl rfl (by decide +kernel) ⟨Nat.le_of_ble_eq_true rfl, Nat.le_of_ble_eq_true rfl⟩) ⟨rdX_blind, va_recv hK hP (ci := 5) (q0 := kp1) rfl ep1, rdX_pre hP hK hN hX rfl⟩ rfl rfl hl.1 rfl (lv_room (Nat.le_of_ble_eq_true rfl)) dX4_mapped_7 ⟨Nat.le_of_ble_eq_true rfl, Nat.le_of_ble_eq_true rfl⟩)

set_option maxHeartbeats 800000 in
set_option maxRecDepth 100000 in
theorem x_groupOf (l : Launch) (hl0 : l.stackTraces = false) (D : va_G) (cI cZ cO : ClassId) {L : List Nat} {f : Nat → va_E} {tg : Nat → Nat} {AD : Nat → Nat → Nat} {mc : Nat → Int32} {F : Nat → Nat → Int32} {ik kp tu : Nat → Int32} {n : Nat} {he gv : Nat → Int32} {gp gb ob nm lo : Int32} (hR : Rep cI cO L f tg AD mc F ik kp tu n he gv gp gb ob nm lo) (x0 : Int32) (hM : okC F n) (hb1 : inB x0 0 (nI n - 1) = false) : vx_Met l yX4_groupOf wsX4_groupOf (rmx 7 139) (va_Pc [.ref (AD 0 0), .int x0] (rdX D ([(cI, .int), (cZ, .boolean), (cO, .object "java/lang/Object")]) (va_pl L f))) xQc (xXC "java/lang/IndexOutOfBoundsException") 1 6 (fun _ => False) := by
  refine vx_ofW (cc := cX4_groupOf) (maxL := 2) (ret := (some .int)) (by decide) rfl ?_
  intro p e s m args below meth c s₁ B hml htab hv
  obtain ⟨hargs, ⟨hP, hK, hN⟩, hX⟩ := hv
  have hx := B.exec
  have hb := B.bytes
  have hr := B.returns
  have hts := atoms_spec (ws := wsX4_groupOf) B.pre
  have hown : s.vm.findClass RX4 = some m.cls := findClass_of_methodNamed B.named
  have hlocks := B.notSynchronized
  have hen : entryFrame m args 2 = entryFrame m ([.ref (AD 0 0), .int x0] : List Value).toArray 2 := by rw [hargs]
  rw [hen]
  have hl := lv_entry ([.ref (AD 0 0), .int x0]) (n := 2) (Nat.le_of_ble_eq_true rfl)
  rw [lg_entry_eq]
  generalize (lg_sl ([.ref (AD 0 0), .int x0]) ++ List.replicate (2 - (lg_sl ([.ref (AD 0 0), .int x0])).length) Slot.unset).toArray = ls at hl ⊢
  have hl : lv_has ls 2 [(0, .ref (AD 0 0)), (1, .int x0)] := hl
  generalize hQ : vx_MQ below xQc (xXC "java/lang/IndexOutOfBoundsException") args s 1 6 (fun _ => False) = Q
  refine lv_aload_n hx hb dX4_groupOf_0 rfl (lv_at hl 0 rfl) ?_
  refine lv_aload_n hx hb dX4_groupOf_1 rfl (lv_at hl 0 rfl) ?_
  refine lv_iload_n hx hb dX4_groupOf_2 rfl (lv_at hl 1 rfl) ?_
  subst hQ
  obtain ⟨kp1, ep1⟩ := (hR.x).at
  exact xx_pass htab hlocks (vx_runV (As := [.int x0]) (rest := [.ref (AD 0 0)]) ⟨hx, hb, hml, hown, hts⟩ (x_folderAt l hl0 D cI cZ cO hR x0 hM hb1) (cwV 1 hts gX4_groupOf_X4_folderAt rfl rfl rfl (by decide +kernel) ⟨Nat.le_of_ble_eq_true rfl, Nat.le_of_ble_eq_true rfl⟩) ⟨rdX_blind, va_recv hK hP (ci := 5) (q0 := kp1) rfl ep1, rdX_pre hP hK hN hX rfl⟩ rfl rfl hl.1 rfl (lv_room (Nat.le_of_ble_eq_true rfl)) dX4_groupOf_3 ⟨Nat.le_of_ble_eq_true rfl, Nat.le_of_ble_eq_true rfl⟩)

set_option maxHeartbeats 800000 in
set_option maxRecDepth 100000 in
theorem x_bits (l : Launch) (hl0 : l.stackTraces = false) (D : va_G) (cI cZ cO : ClassId) {L : List Nat} {f : Nat → va_E} {tg : Nat → Nat} {AD : Nat → Nat → Nat} {mc : Nat → Int32} {F : Nat → Nat → Int32} {ik kp tu : Nat → Int32} {n : Nat} {he gv : Nat → Int32} {gp gb ob nm lo : Int32} (hR : Rep cI cO L f tg AD mc F ik kp tu n he gv gp gb ob nm lo) (x0 : Int32) (hM : okC F n) (hb1 : inB x0 0 (nI n - 1) = false) : vx_Met l yX4_bits wsX4_bits (rmx 7 139) (va_Pc [.ref (AD 0 0), .int x0] (rdX D ([(cI, .int), (cZ, .boolean), (cO, .object "java/lang/Object")]) (va_pl L f))) xQc (xXC "java/lang/IndexOutOfBoundsException") 1 6 (fun _ => False) := by
  refine vx_ofW (cc := cX4_bits) (maxL := 3) (ret := (some .int)) (by decide) rfl ?_
  intro p e s m args below meth c s₁ B hml htab hv
  obtain ⟨hargs, ⟨hP, hK, hN⟩, hX⟩ := hv
  have hx := B.exec
  have hb := B.bytes
  have hr := B.returns
  have hts := atoms_spec (ws := wsX4_bits) B.pre
  have hown : s.vm.findClass RX4 = some m.cls := findClass_of_methodNamed B.named
  have hlocks := B.notSynchronized
  have hen : entryFrame m args 3 = entryFrame m ([.ref (AD 0 0), .int x0] : List Value).toArray 3 := by rw [hargs]
  rw [hen]
  have hl := lv_entry ([.ref (AD 0 0), .int x0]) (n := 3) (Nat.le_of_ble_eq_true rfl)
  rw [lg_entry_eq]
  generalize (lg_sl ([.ref (AD 0 0), .int x0]) ++ List.replicate (3 - (lg_sl ([.ref (AD 0 0), .int x0])).length) Slot.unset).toArray = ls at hl ⊢
  have hl : lv_has ls 3 [(0, .ref (AD 0 0)), (1, .int x0)] := hl
  generalize hQ : vx_MQ below xQc (xXC "java/lang/IndexOutOfBoundsException") args s 1 6 (fun _ => False) = Q
  refine lv_aload_n hx hb dX4_bits_0 rfl (lv_at hl 0 rfl) ?_
  refine lv_aload_n hx hb dX4_bits_1 rfl (lv_at hl 0 rfl) ?_
  refine lv_iload_n hx hb dX4_bits_2 rfl (lv_at hl 1 rfl) ?_
  subst hQ
  obtain ⟨kp1, ep1⟩ := (hR.x).at
  exact xx_pass htab hlocks (vx_runV (As := [.int x0]) (rest := [.ref (AD 0 0)]) ⟨hx, hb, hml, hown, hts⟩ (x_folderAt l hl0 D cI cZ cO hR x0 hM hb1) (cwV 1 hts gX4_bits_X4_folderAt rfl rfl rfl (by decide +kernel) ⟨Nat.le_of_ble_eq_true rfl, Nat.le_of_ble_eq_true rfl⟩) ⟨rdX_blind, va_recv hK hP (ci := 5) (q0 := kp1) rfl ep1, rdX_pre hP hK hN hX rfl⟩ rfl rfl hl.1 rfl (lv_room (Nat.le_of_ble_eq_true rfl)) dX4_bits_3 ⟨Nat.le_of_ble_eq_true rfl, Nat.le_of_ble_eq_true rfl⟩)

set_option maxHeartbeats 800000 in
set_option maxRecDepth 100000 in
theorem x_named (l : Launch) (hl0 : l.stackTraces = false) (D : va_G) (cI cZ cO : ClassId) {L : List Nat} {f : Nat → va_E} {tg : Nat → Nat} {AD : Nat → Nat → Nat} {mc : Nat → Int32} {F : Nat → Nat → Int32} {ik kp tu : Nat → Int32} {n : Nat} {he gv : Nat → Int32} {gp gb ob nm lo : Int32} (hR : Rep cI cO L f tg AD mc F ik kp tu n he gv gp gb ob nm lo) (x0 : Int32) (hM : okC F n) (hb1 : inB x0 0 (nI n - 1) = false) : vx_Met l yX4_named wsX4_named (rmx 7 139) (va_Pc [.ref (AD 0 0), .int x0] (rdX D ([(cI, .int), (cZ, .boolean), (cO, .object "java/lang/Object")]) (va_pl L f))) xQc (xXC "java/lang/IndexOutOfBoundsException") 1 6 (fun _ => False) := by
  refine vx_ofW (cc := cX4_named) (maxL := 2) (ret := (some .int)) (by decide) rfl ?_
  intro p e s m args below meth c s₁ B hml htab hv
  obtain ⟨hargs, ⟨hP, hK, hN⟩, hX⟩ := hv
  have hx := B.exec
  have hb := B.bytes
  have hr := B.returns
  have hts := atoms_spec (ws := wsX4_named) B.pre
  have hown : s.vm.findClass RX4 = some m.cls := findClass_of_methodNamed B.named
  have hlocks := B.notSynchronized
  have hen : entryFrame m args 2 = entryFrame m ([.ref (AD 0 0), .int x0] : List Value).toArray 2 := by rw [hargs]
  rw [hen]
  have hl := lv_entry ([.ref (AD 0 0), .int x0]) (n := 2) (Nat.le_of_ble_eq_true rfl)
  rw [lg_entry_eq]
  generalize (lg_sl ([.ref (AD 0 0), .int x0]) ++ List.replicate (2 - (lg_sl ([.ref (AD 0 0), .int x0])).length) Slot.unset).toArray = ls at hl ⊢
  have hl : lv_has ls 2 [(0, .ref (AD 0 0)), (1, .int x0)] := hl
  generalize hQ : vx_MQ below xQc (xXC "java/lang/IndexOutOfBoundsException") args s 1 6 (fun _ => False) = Q
  refine lv_aload_n hx hb dX4_named_0 rfl (lv_at hl 0 rfl) ?_
  refine lv_aload_n hx hb dX4_named_1 rfl (lv_at hl 0 rfl) ?_
  refine lv_iload_n hx hb dX4_named_2 rfl (lv_at hl 1 rfl) ?_
  subst hQ
  obtain ⟨kp1, ep1⟩ := (hR.x).at
  exact xx_pass htab hlocks (vx_runV (As := [.int x0]) (rest := [.ref (AD 0 0)]) ⟨hx, hb, hml, hown, hts⟩ (x_folderAt l hl0 D cI cZ cO hR x0 hM hb1) (cwV 1 hts gX4_named_X4_folderAt rfl rfl rfl (by decide +kernel) ⟨Nat.le_of_ble_eq_true rfl, Nat.le_of_ble_eq_true rfl⟩) ⟨rdX_blind, va_recv hK hP (ci := 5) (q0 := kp1) rfl ep1, rdX_pre hP hK hN hX rfl⟩ rfl rfl hl.1 rfl (lv_room (Nat.le_of_ble_eq_true rfl)) dX4_named_3 ⟨Nat.le_of_ble_eq_true rfl, Nat.le_of_ble_eq_true rfl⟩)

set_option maxHeartbeats 800000 in
set_option maxRecDepth 100000 in
theorem x_loss (l : Launch) (hl0 : l.stackTraces = false) (D : va_G) (cI cZ cO : ClassId) {L : List Nat} {f : Nat → va_E} {tg : Nat → Nat} {AD : Nat → Nat → Nat} {mc : Nat → Int32} {F : Nat → Nat → Int32} {ik kp tu : Nat → Int32} {n : Nat} {he gv : Nat → Int32} {gp gb ob nm lo : Int32} (hR : Rep cI cO L f tg AD mc F ik kp tu n he gv gp gb ob nm lo) (x0 : Int32) (hM : okC F n) (hb1 : inB x0 0 (nI n - 1) = false) : vx_Met l yX4_loss wsX4_loss (rmx 7 139) (va_Pc [.ref (AD 0 0), .int x0] (rdX D ([(cI, .int), (cZ, .boolean), (cO, .object "java/lang/Object")]) (va_pl L f))) xQc (xXC "java/lang/IndexOutOfBoundsException") 1 6 (fun _ => False) := by
  refine vx_ofW (cc := cX4_loss) (maxL := 2) (ret := (some .int)) (by decide) rfl ?_
  intro p e s m args below meth c s₁ B hml htab hv
  obtain ⟨hargs, ⟨hP, hK, hN⟩, hX⟩ := hv
  have hx := B.exec
  have hb := B.bytes
  have hr := B.returns
  have hts := atoms_spec (ws := wsX4_loss) B.pre
  have hown : s.vm.findClass RX4 = some m.cls := findClass_of_methodNamed B.named
  have hlocks := B.notSynchronized
  have hen : entryFrame m args 2 = entryFrame m ([.ref (AD 0 0), .int x0] : List Value).toArray 2 := by rw [hargs]
  rw [hen]
  have hl := lv_entry ([.ref (AD 0 0), .int x0]) (n := 2) (Nat.le_of_ble_eq_true rfl)
  rw [lg_entry_eq]
  generalize (lg_sl ([.ref (AD 0 0), .int x0]) ++ List.replicate (2 - (lg_sl ([.ref (AD 0 0), .int x0])).length) Slot.unset).toArray = ls at hl ⊢
  have hl : lv_has ls 2 [(0, .ref (AD 0 0)), (1, .int x0)] := hl
  generalize hQ : vx_MQ below xQc (xXC "java/lang/IndexOutOfBoundsException") args s 1 6 (fun _ => False) = Q
  refine lv_aload_n hx hb dX4_loss_0 rfl (lv_at hl 0 rfl) ?_
  refine lv_aload_n hx hb dX4_loss_1 rfl (lv_at hl 0 rfl) ?_
  refine lv_iload_n hx hb dX4_loss_2 rfl (lv_at hl 1 rfl) ?_
  subst hQ
  obtain ⟨kp1, ep1⟩ := (hR.x).at
  exact xx_pass htab hlocks (vx_runV (As := [.int x0]) (rest := [.ref (AD 0 0)]) ⟨hx, hb, hml, hown, hts⟩ (x_folderAt l hl0 D cI cZ cO hR x0 hM hb1) (cwV 1 hts gX4_loss_X4_folderAt rfl rfl rfl (by decide +kernel) ⟨Nat.le_of_ble_eq_true rfl, Nat.le_of_ble_eq_true rfl⟩) ⟨rdX_blind, va_recv hK hP (ci := 5) (q0 := kp1) rfl ep1, rdX_pre hP hK hN hX rfl⟩ rfl rfl hl.1 rfl (lv_room (Nat.le_of_ble_eq_true rfl)) dX4_loss_3 ⟨Nat.le_of_ble_eq_true rfl, Nat.le_of_ble_eq_true rfl⟩)

set_option maxHeartbeats 800000 in
set_option maxRecDepth 100000 in
theorem x_isFresh (l : Launch) (hl0 : l.stackTraces = false) (D : va_G) (cI cZ cO : ClassId) {L : List Nat} {f : Nat → va_E} {tg : Nat → Nat} {AD : Nat → Nat → Nat} {mc : Nat → Int32} {F : Nat → Nat → Int32} {ik kp tu : Nat → Int32} {n : Nat} {he gv : Nat → Int32} {gp gb ob nm lo : Int32} (hR : Rep cI cO L f tg AD mc F ik kp tu n he gv gp gb ob nm lo) (x0 : Int32) (hM : okC F n) (hb1 : inB x0 0 (nI n - 1) = false) : vx_Met l yX4_isFresh wsX4_isFresh (rmx 7 139) (va_Pc [.ref (AD 0 0), .int x0] (rdX D ([(cI, .int), (cZ, .boolean), (cO, .object "java/lang/Object")]) (va_pl L f))) xQc (xXC "java/lang/IndexOutOfBoundsException") 1 6 (fun _ => False) := by
  refine vx_ofW (cc := cX4_isFresh) (maxL := 3) (ret := (some .boolean)) (by decide) rfl ?_
  intro p e s m args below meth c s₁ B hml htab hv
  obtain ⟨hargs, ⟨hP, hK, hN⟩, hX⟩ := hv
  have hx := B.exec
  have hb := B.bytes
  have hr := B.returns
  have hts := atoms_spec (ws := wsX4_isFresh) B.pre
  have hown : s.vm.findClass RX4 = some m.cls := findClass_of_methodNamed B.named
  have hlocks := B.notSynchronized
  have hen : entryFrame m args 3 = entryFrame m ([.ref (AD 0 0), .int x0] : List Value).toArray 3 := by rw [hargs]
  rw [hen]
  have hl := lv_entry ([.ref (AD 0 0), .int x0]) (n := 3) (Nat.le_of_ble_eq_true rfl)
  rw [lg_entry_eq]
  generalize (lg_sl ([.ref (AD 0 0), .int x0]) ++ List.replicate (3 - (lg_sl ([.ref (AD 0 0), .int x0])).length) Slot.unset).toArray = ls at hl ⊢
  have hl : lv_has ls 3 [(0, .ref (AD 0 0)), (1, .int x0)] := hl
  generalize hQ : vx_MQ below xQc (xXC "java/lang/IndexOutOfBoundsException") args s 1 6 (fun _ => False) = Q
  refine lv_aload_n hx hb dX4_isFresh_0 rfl (lv_at hl 0 rfl) ?_
  refine lv_iload_n hx hb dX4_isFresh_1 rfl (lv_at hl 1 rfl) ?_
  subst hQ
  obtain ⟨kp1, ep1⟩ := (hR.x).at
  exact xx_pass htab hlocks (vx_runV (As := [.int x0]) (rest := []) ⟨hx, hb, hml, hown, hts⟩ (x_folderAt l hl0 D cI cZ cO hR x0 hM hb1) (cwV 1 hts gX4_isFresh_X4_folderAt rfl rfl rfl (by decide +kernel) ⟨Nat.le_of_ble_eq_true rfl, Nat.le_of_ble_eq_true rfl⟩) ⟨rdX_blind, va_recv hK hP (ci := 5) (q0 := kp1) rfl ep1, rdX_pre hP hK hN hX rfl⟩ rfl rfl hl.1 rfl (lv_room (Nat.le_of_ble_eq_true rfl)) dX4_isFresh_2 ⟨Nat.le_of_ble_eq_true rfl, Nat.le_of_ble_eq_true rfl⟩)

set_option maxHeartbeats 800000 in
set_option maxRecDepth 100000 in
theorem x_gainers (l : Launch) (hl0 : l.stackTraces = false) (D : va_G) (cI cZ cO : ClassId) {L : List Nat} {f : Nat → va_E} {tg : Nat → Nat} {AD : Nat → Nat → Nat} {mc : Nat → Int32} {F : Nat → Nat → Int32} {ik kp tu : Nat → Int32} {n : Nat} {he gv : Nat → Int32} {gp gb ob nm lo : Int32} (hR : Rep cI cO L f tg AD mc F ik kp tu n he gv gp gb ob nm lo) (x0 : Int32) (hM : okC F n) (hb1 : inB x0 0 (nI n - 1) = false) : vx_Met l yX4_gainers wsX4_gainers (rmx 7 113) (va_Pc [.ref (AD 0 0), .int x0] (rdX D ([(cI, .int), (cZ, .boolean), (cO, .object "java/lang/Object")]) (va_pl L f))) xQc (xXC "java/lang/IndexOutOfBoundsException") 1 6 (fun _ => False) := by
  refine vx_ofW (cc := cX4_gainers) (maxL := 5) (ret := (some .int)) (by decide) rfl ?_
  intro p e s m args below meth c s₁ B hml htab hv
  obtain ⟨hargs, ⟨hP, hK, hN⟩, hX⟩ := hv
  have hx := B.exec
  have hb := B.bytes
  have hr := B.returns
  have hts := atoms_spec (ws := wsX4_gainers) B.pre
  have hown : s.vm.findClass RX4 = some m.cls := findClass_of_methodNamed B.named
  have hlocks := B.notSynchronized
  have hen : entryFrame m args 5 = entryFrame m ([.ref (AD 0 0), .int x0] : List Value).toArray 5 := by rw [hargs]
  rw [hen]
  have hl := lv_entry ([.ref (AD 0 0), .int x0]) (n := 5) (Nat.le_of_ble_eq_true rfl)
  rw [lg_entry_eq]
  generalize (lg_sl ([.ref (AD 0 0), .int x0]) ++ List.replicate (5 - (lg_sl ([.ref (AD 0 0), .int x0])).length) Slot.unset).toArray = ls at hl ⊢
  have hl : lv_has ls 5 [(0, .ref (AD 0 0)), (1, .int x0)] := hl
  generalize hQ : vx_MQ below xQc (xXC "java/lang/IndexOutOfBoundsException") args s 1 6 (fun _ => False) = Q
  refine lv_aload_n hx hb dX4_gainers_0 rfl (lv_at hl 0 rfl) ?_
  refine lv_iload_n hx hb dX4_gainers_1 rfl (lv_at hl 1 rfl) ?_
  subst hQ
  obtain ⟨kp1, ep1⟩ := (hR.x).at
  exact xx_pass htab hlocks (vx_runV (As := [.int x0]) (rest := []) ⟨hx, hb, hml, hown, hts⟩ (x_folderAt l hl0 D cI cZ cO hR x0 hM hb1) (cwV 1 hts gX4_gainers_X4_folderAt rfl rfl rfl (by decide +kernel) ⟨Nat.le_of_ble_eq_true rfl, Nat.le_of_ble_eq_true rfl⟩) ⟨rdX_blind, va_recv hK hP (ci := 5) (q0 := kp1) rfl ep1, rdX_pre hP hK hN hX rfl⟩ rfl rfl hl.1 rfl (lv_room (Nat.le_of_ble_eq_true rfl)) dX4_gainers_2 ⟨Nat.le_of_ble_eq_true rfl, Nat.le_of_ble_eq_true rfl⟩)

set_option maxHeartbeats 800000 in
set_option maxRecDepth 100000 in
theorem x_turn_a (l : Launch) (hl0 : l.stackTraces = false) (D : va_G) (cI cZ cO : ClassId) {L : List Nat} {f : Nat → va_E} {tg : Nat → Nat} {AD : Nat → Nat → Nat} {mc : Nat → Int32} {F : Nat → Nat → Int32} {ik kp tu : Nat → Int32} {n : Nat} {he gv : Nat → Int32} {gp gb ob nm lo : Int32} (hR : Rep cI cO L f tg AD mc F ik kp tu n he gv gp gb ob nm lo) (x0 : Int32) (hM : okC F n) (hb1 : inB x0 0 (nI n - 1) = false) : vx_Met l yX4_turn wsX4_turn (rmx 7 103) (va_Pc [.ref (AD 0 0), .int x0] (rdX D ([(cI, .int), (cZ, .boolean), (cO, .object "java/lang/Object")]) (va_pl L f))) xQc (xXC "java/lang/IndexOutOfBoundsException") 1 6 (fun _ => False) := by
  refine vx_ofW (cc := cX4_turn) (maxL := 3) (ret := (some .boolean)) (by decide) rfl ?_
  intro p e s m args below meth c s₁ B hml htab hv
  obtain ⟨hargs, ⟨hP, hK, hN⟩, hX⟩ := hv
  have hx := B.exec
  have hb := B.bytes
  have hr := B.returns
  have hts := atoms_spec (ws := wsX4_turn) B.pre
  have hown : s.vm.findClass RX4 = some m.cls := findClass_of_methodNamed B.named
  have hlocks := B.notSynchronized
  have hen : entryFrame m args 3 = entryFrame m ([.ref (AD 0 0), .int x0] : List Value).toArray 3 := by rw [hargs]
  rw [hen]
  have hl := lv_entry ([.ref (AD 0 0), .int x0]) (n := 3) (Nat.le_of_ble_eq_true rfl)
  rw [lg_entry_eq]
  generalize (lg_sl ([.ref (AD 0 0), .int x0]) ++ List.replicate (3 - (lg_sl ([.ref (AD 0 0), .int x0])).length) Slot.unset).toArray = ls at hl ⊢
  have hl : lv_has ls 3 [(0, .ref (AD 0 0)), (1, .int x0)] := hl
  generalize hQ : vx_MQ below xQc (xXC "java/lang/IndexOutOfBoundsException") args s 1 6 (fun _ => False) = Q
  refine lv_aload_n hx hb dX4_turn_0 rfl (lv_at hl 0 rfl) ?_
  refine lv_iload_n hx hb dX4_turn_1 rfl (lv_at hl 1 rfl) ?_
  subst hQ
  obtain ⟨kp1, ep1⟩ := (hR.x).at
  exact xx_pass htab hlocks (vx_runV (As := [.int x0]) (rest := []) ⟨hx, hb, hml, hown, hts⟩ (x_folderAt l hl0 D cI cZ cO hR x0 hM hb1) (cwV 1 hts gX4_turn_X4_folderAt rfl rfl rfl (by decide +kernel) ⟨Nat.le_of_ble_eq_true rfl, Nat.le_of_ble_eq_true rfl⟩) ⟨rdX_blind, va_recv hK hP (ci := 5) (q0 := kp1) rfl ep1, rdX_pre hP hK hN hX rfl⟩ rfl rfl hl.1 rfl (lv_room (Nat.le_of_ble_eq_true rfl)) dX4_turn_2 ⟨Nat.le_of_ble_eq_true rfl, Nat.le_of_ble_eq_true rfl⟩)

set_option maxHeartbeats 800000 in
set_option maxRecDepth 100000 in
theorem x_turn_b (l : Launch) (hl0 : l.stackTraces = false) (D : va_G) (cI cZ cO : ClassId) {L : List Nat} {f : Nat → va_E} {tg : Nat → Nat} {AD : Nat → Nat → Nat} {mc : Nat → Int32} {F : Nat → Nat → Int32} {ik kp tu : Nat → Int32} {n : Nat} {he gv : Nat → Int32} {gp gb ob nm lo : Int32} (hR : Rep cI cO L f tg AD mc F ik kp tu n he gv gp gb ob nm lo) (x : Nat) (hxn : x < n) (hk : ik x = 0) : vx_Met l yX4_turn wsX4_turn (rmx 6 85) (va_Pc [.ref (AD 0 0), .int (nI x)] (rdX D ([(cI, .int), (cZ, .boolean), (cO, .object "java/lang/Object")]) (va_pl L f))) xQc (xXC "java/lang/IllegalStateException") 1 6 (fun _ => False) := by
  refine vx_ofW (cc := cX4_turn) (maxL := 3) (ret := (some .boolean)) (by decide) rfl ?_
  intro p e s m args below meth c s₁ B hml htab hv
  obtain ⟨hargs, ⟨hP, hK, hN⟩, hX⟩ := hv
  have hx := B.exec
  have hb := B.bytes
  have hr := B.returns
  have hts := atoms_spec (ws := wsX4_turn) B.pre
  have hown : s.vm.findClass RX4 = some m.cls := findClass_of_methodNamed B.named
  have hlocks := B.notSynchronized
  have hen : entryFrame m args 3 = entryFrame m ([.ref (AD 0 0), .int (nI x)] : List Value).toArray 3 := by rw [hargs]
  rw [hen]
  have hl := lv_entry ([.ref (AD 0 0), .int (nI x)]) (n := 3) (Nat.le_of_ble_eq_true rfl)
  rw [lg_entry_eq]
  generalize (lg_sl ([.ref (AD 0 0), .int (nI x)]) ++ List.replicate (3 - (lg_sl ([.ref (AD 0 0), .int (nI x)])).length) Slot.unset).toArray = ls at hl ⊢
  have hl : lv_has ls 3 [(0, .ref (AD 0 0)), (1, .int (nI x))] := hl
  generalize hQ : vx_MQ below xQc (xXC "java/lang/IllegalStateException") args s 1 6 (fun _ => False) = Q
  refine lv_aload_n hx hb dX4_turn_0 rfl (lv_at hl 0 rfl) ?_
  refine lv_iload_n hx hb dX4_turn_1 rfl (lv_at hl 1 rfl) ?_
  obtain ⟨kp1, ep1⟩ := (hR.x).at
  refine va_csq (W.runV (As := [.int (nI x)]) (rest := []) ⟨hx, hb, hml, hown, hts⟩ (k_X4_folderAt l D cI cZ cO hR x (by omega)) (cwV 1 hts gX4_turn_X4_folderAt rfl rfl rfl (by decide +kernel) ⟨Nat.le_of_ble_eq_true rfl, Nat.le_of_ble_eq_true rfl⟩) ⟨rd_blind, va_recv hK hP (ci := 5) (q0 := kp1) rfl ep1, rd_pre hP hK hN⟩ rfl rfl hl.1 rfl (lv_room (Nat.le_of_ble_eq_true rfl)) dX4_turn_2 ⟨Nat.le_of_ble_eq_true rfl, Nat.le_of_ble_eq_true rfl⟩) (fun r er => ?_)
  subst er
  refine top_rf (q := AD 1 x) rfl ?_
  refine lv_astore_n (lv' := [(2, .ref (AD 1 x)), (0, .ref (AD 0 0)), (1, .int (nI x))]) hx hb dX4_turn_5 rfl hl (by decide) rfl (fun ls hl => ?_)
  refine lv_aload_n hx hb dX4_turn_6 rfl (lv_at hl 0 rfl) ?_
  obtain ⟨kp2, ep2⟩ := (hR.fo (i := x) (by omega)).at
  refine va_get (D := D) (ci := 2) (v := .int (ik x)) (C := RX1) (T := TX1) (N := 7) hx hb hts (fun _ h => List.mem_cons_of_mem _ (List.mem_append_left _ (List.mem_append_left _ (List.mem_append_left _ (List.mem_append_left _ (List.mem_append_right _ (h))))))) hown hK hP kp2 ep2 rfl 5 (by decide) (hts _ (List.mem_of_getElem? (i := 3) rfl)) (fun _ h9 => h9) rfl dX4_turn_7 ?_
  refine lv_if_ne (tgt := 23) hx hb dX4_turn_10 (by decide) (fun c_10 => ?_) (fun c_10 => ?_)
  ·
    exact absurd hk c_10
  ·
    subst hQ
    exact xx_throw (cls := "java/lang/IllegalStateException") (ik := 58) (is := 168) (ic := 62) (text := "the folder has no kept mapping") hX htab hlocks hx hb hl0 hown (by decide +kernel) (hts _ (List.mem_of_getElem? (i := 1) rfl)) (hts _ (List.mem_of_getElem? (i := 2) rfl)) (by decide +kernel) (hX.hat (by decide +kernel) xx_ngS (fun w h => hts w (List.mem_cons_of_mem _ (List.mem_append_left _ (List.mem_append_right _ (h)))))) xx_gdS (hl.1.trans hml.symm) dX4_turn_13 dX4_turn_16 dX4_turn_17 dX4_turn_19 dX4_turn_22 (Nat.le_of_ble_eq_true rfl) (Nat.le_of_ble_eq_true rfl) (Nat.le_of_ble_eq_true rfl) (Nat.le_of_ble_eq_true rfl)

set_option maxHeartbeats 800000 in
set_option maxRecDepth 100000 in
theorem x_lossWith_a (l : Launch) (hl0 : l.stackTraces = false) (D : va_G) (cI cZ cO : ClassId) {L : List Nat} {f : Nat → va_E} {tg : Nat → Nat} {AD : Nat → Nat → Nat} {mc : Nat → Int32} {F : Nat → Nat → Int32} {ik kp tu : Nat → Int32} {n : Nat} {he gv : Nat → Int32} {gp gb ob nm lo : Int32} (hR : Rep cI cO L f tg AD mc F ik kp tu n he gv gp gb ob nm lo) (x0 : Int32) (x1 : Int32) (hM : okC F n) (hb1 : inB x0 0 (nI n - 1) = false) : vx_Met l yX4_lossWith wsX4_lossWith (rmx 7 115) (va_Pc [.ref (AD 0 0), .int x0, .int x1] (rdX D ([(cI, .int), (cZ, .boolean), (cO, .object "java/lang/Object")]) (va_pl L f))) xQc (xXC "java/lang/IndexOutOfBoundsException") 1 6 (fun _ => False) := by
  refine vx_ofW (cc := cX4_lossWith) (maxL := 4) (ret := (some .int)) (by decide) rfl ?_
  intro p e s m args below meth c s₁ B hml htab hv
  obtain ⟨hargs, ⟨hP, hK, hN⟩, hX⟩ := hv
  have hx := B.exec
  have hb := B.bytes
  have hr := B.returns
  have hts := atoms_spec (ws := wsX4_lossWith) B.pre
  have hown : s.vm.findClass RX4 = some m.cls := findClass_of_methodNamed B.named
  have hlocks := B.notSynchronized
  have hen : entryFrame m args 4 = entryFrame m ([.ref (AD 0 0), .int x0, .int x1] : List Value).toArray 4 := by rw [hargs]
  rw [hen]
  have hl := lv_entry ([.ref (AD 0 0), .int x0, .int x1]) (n := 4) (Nat.le_of_ble_eq_true rfl)
  rw [lg_entry_eq]
  generalize (lg_sl ([.ref (AD 0 0), .int x0, .int x1]) ++ List.replicate (4 - (lg_sl ([.ref (AD 0 0), .int x0, .int x1])).length) Slot.unset).toArray = ls at hl ⊢
  have hl : lv_has ls 4 [(0, .ref (AD 0 0)), (1, .int x0), (2, .int x1)] := hl
  generalize hQ : vx_MQ below xQc (xXC "java/lang/IndexOutOfBoundsException") args s 1 6 (fun _ => False) = Q
  refine lv_aload_n hx hb dX4_lossWith_0 rfl (lv_at hl 0 rfl) ?_
  refine lv_iload_n hx hb dX4_lossWith_1 rfl (lv_at hl 1 rfl) ?_
  subst hQ
  obtain ⟨kp1, ep1⟩ := (hR.x).at
  exact xx_pass htab hlocks (vx_runV (As := [.int x0]) (rest := []) ⟨hx, hb, hml, hown, hts⟩ (x_folderAt l hl0 D cI cZ cO hR x0 hM hb1) (cwV 1 hts gX4_lossWith_X4_folderAt rfl rfl rfl (by decide +kernel) ⟨Nat.le_of_ble_eq_true rfl, Nat.le_of_ble_eq_true rfl⟩) ⟨rdX_blind, va_recv hK hP (ci := 5) (q0 := kp1) rfl ep1, rdX_pre hP hK hN hX rfl⟩ rfl rfl hl.1 rfl (lv_room (Nat.le_of_ble_eq_true rfl)) dX4_lossWith_2 ⟨Nat.le_of_ble_eq_true rfl, Nat.le_of_ble_eq_true rfl⟩)

set_option maxHeartbeats 800000 in
set_option maxRecDepth 100000 in
theorem x_lossWith_b (l : Launch) (hl0 : l.stackTraces = false) (D : va_G) (cI cZ cO : ClassId) {L : List Nat} {f : Nat → va_E} {tg : Nat → Nat} {AD : Nat → Nat → Nat} {mc : Nat → Int32} {F : Nat → Nat → Int32} {ik kp tu : Nat → Int32} {n : Nat} {he gv : Nat → Int32} {gp gb ob nm lo : Int32} (hR : Rep cI cO L f tg AD mc F ik kp tu n he gv gp gb ob nm lo) (x : Nat) (x1 : Int32) (hxn : x < n) (hb1 : inB x1 (-1) 5 = false) : vx_Met l yX4_lossWith wsX4_lossWith (rmx 7 115) (va_Pc [.ref (AD 0 0), .int (nI x), .int x1] (rdX D ([(cI, .int), (cZ, .boolean), (cO, .object "java/lang/Object")]) (va_pl L f))) xQc (xXC "java/lang/IndexOutOfBoundsException") 1 6 (fun _ => False) := by
  refine vx_ofW (cc := cX4_lossWith) (maxL := 4) (ret := (some .int)) (by decide) rfl ?_
  intro p e s m args below meth c s₁ B hml htab hv
  obtain ⟨hargs, ⟨hP, hK, hN⟩, hX⟩ := hv
  have hx := B.exec
  have hb := B.bytes
  have hr := B.returns
  have hts := atoms_spec (ws := wsX4_lossWith) B.pre
  have hown : s.vm.findClass RX4 = some m.cls := findClass_of_methodNamed B.named
  have hlocks := B.notSynchronized
  have hen : entryFrame m args 4 = entryFrame m ([.ref (AD 0 0), .int (nI x), .int x1] : List Value).toArray 4 := by rw [hargs]
  rw [hen]
  have hl := lv_entry ([.ref (AD 0 0), .int (nI x), .int x1]) (n := 4) (Nat.le_of_ble_eq_true rfl)
  rw [lg_entry_eq]
  generalize (lg_sl ([.ref (AD 0 0), .int (nI x), .int x1]) ++ List.replicate (4 - (lg_sl ([.ref (AD 0 0), .int (nI x), .int x1])).length) Slot.unset).toArray = ls at hl ⊢
  have hl : lv_has ls 4 [(0, .ref (AD 0 0)), (1, .int (nI x)), (2, .int x1)] := hl
  generalize hQ : vx_MQ below xQc (xXC "java/lang/IndexOutOfBoundsException") args s 1 6 (fun _ => False) = Q
  refine lv_aload_n hx hb dX4_lossWith_0 rfl (lv_at hl 0 rfl) ?_
  refine lv_iload_n hx hb dX4_lossWith_1 rfl (lv_at hl 1 rfl) ?_
  obtain ⟨kp1, ep1⟩ := (hR.x).at
  refine va_csq (W.runV (As := [.int (nI x)]) (rest := []) ⟨hx, hb, hml, hown, hts⟩ (k_X4_folderAt l D cI cZ cO hR x (by omega)) (cwV 1 hts gX4_lossWith_X4_folderAt rfl rfl rfl (by decide +kernel) ⟨Nat.le_of_ble_eq_true rfl, Nat.le_of_ble_eq_true rfl⟩) ⟨rd_blind, va_recv hK hP (ci := 5) (q0 := kp1) rfl ep1, rd_pre hP hK hN⟩ rfl rfl hl.1 rfl (lv_room (Nat.le_of_ble_eq_true rfl)) dX4_lossWith_2 ⟨Nat.le_of_ble_eq_true rfl, Nat.le_of_ble_eq_true rfl⟩) (fun r er => ?_)
  subst er
  refine top_rf (q := AD 1 x) rfl ?_
  refine lv_astore_n (lv' := [(3, .ref (AD 1 x)), (0, .ref (AD 0 0)), (1, .int (nI x)), (2, .int x1)]) hx hb dX4_lossWith_5 rfl hl (by decide) rfl (fun ls hl => ?_)
  refine lv_iload_n hx hb dX4_lossWith_6 rfl (lv_at hl 3 rfl) ?_
  refine lv_iconst (v := (-1)) hx hb dX4_lossWith_7 (by decide) ?_
  refine lv_icmp_eq (tgt := 15) hx hb dX4_lossWith_8 (by decide) (fun c_8 => ?_) (fun c_8 => ?_)
  ·
    exact absurd (show inB x1 (-1) 5 = true by rw [c_8]; decide) (b2i_bf hb1)
  ·
    refine lv_iload_n hx hb dX4_lossWith_11 rfl (lv_at hl 3 rfl) ?_
    subst hQ
    exact xx_pass htab hlocks (vx_runS (As := [.int x1]) (rest := []) ⟨hx, hb, hml, hown, hts⟩ (x_noGroup l hl0 x1 (inB_05 hb1)) (va_cwS 1 hts gX4_lossWith_X4_refuseNoGroup rfl rfl rfl (by decide +kernel) ⟨Nat.le_of_ble_eq_true rfl, Nat.le_of_ble_eq_true rfl⟩) ⟨nx_blind, nx_pre hX⟩ rfl rfl hl.1 rfl (lv_room (Nat.le_of_ble_eq_true rfl)) dX4_lossWith_12 ⟨Nat.le_of_ble_eq_true rfl, Nat.le_of_ble_eq_true rfl⟩)
