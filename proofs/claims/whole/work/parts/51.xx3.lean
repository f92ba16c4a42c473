set_option maxHeartbeats 800000 in
set_option maxRecDepth 100000 in
theorem x_addFolder_a (l : Launch) (hl0 : l.stackTraces = false) (D : va_G) (cI cZ cO : ClassId) {L : List Nat} {f : Nat → va_E} {tg : Nat → Nat} {AD : Nat → Nat → Nat} {mc : Nat → Int32} {F : Nat → Nat → Int32} {ik kp tu : Nat → Int32} {n : Nat} {he gv : Nat → Int32} {gp gb ob nm lo : Int32} (hR : Rep cI cO L f tg AD mc F ik kp tu n he gv gp gb ob nm lo) (x0 : Int32) (x1 : Int32) (hM : okC F n) (hb1 : inB x0 0 (nI n - 1) = false) : vx_Met l yX4_addFolder wsX4_addFolder (rmx 7 103) (va_Pc [.ref (AD 0 0), .int x0, .int x1] (rdX D ([(cI, .int), (cZ, .boolean), (cO, .object "java/lang/Object")]) (va_pl L f))) xQc (xXC "java/lang/IndexOutOfBoundsException") 1 6 (fun _ => False) := by
  refine vx_ofW (cc := cX4_addFolder) (maxL := 4) (ret := (some .int)) (by decide) rfl ?_
  intro p e s m args below meth c s₁ B hml htab hv
  obtain ⟨hargs, ⟨hP, hK, hN⟩, hX⟩ := hv
  have hx := B.exec
  have hb := B.bytes
  have hr := B.returns
  have hts := atoms_spec (ws := wsX4_addFolder) B.pre
  have hown : s.vm.findClass RX4 = some m.cls := findClass_of_methodNamed B.named
  have hlocks := B.notSynchronized
  have hen : entryFrame m args 4 = entryFrame m ([.ref (AD 0 0), .int x0, .int x1] : List Value).toArray 4 := by rw [hargs]
  rw [hen]
  have hl := lv_entry ([.ref (AD 0 0), .int x0, .int x1]) (n := 4) (Nat.le_of_ble_eq_true rfl)
  rw [lg_entry_eq]
  generalize (lg_sl ([.ref (AD 0 0), .int x0, .int x1]) ++ List.replicate (4 - (lg_sl ([.ref (AD 0 0), .int x0, .int x1])).length) Slot.unset).toArray = ls at hl ⊢
  have hl : lv_has ls 4 [(0, .ref (AD 0 0)), (1, .int x0), (2, .int x1)] := hl
  generalize hQ : vx_MQ below xQc (xXC "java/lang/IndexOutOfBoundsException") args s 1 6 (fun _ => False) = Q
  refine lv_aload_n hx hb dX4_addFolder_0 rfl (lv_at hl 0 rfl) ?_
  refine lv_iload_n hx hb dX4_addFolder_1 rfl (lv_at hl 1 rfl) ?_
  subst hQ
  obtain ⟨kp1, ep1⟩ := (hR.x).at
  exact xx_pass htab hlocks (vx_runV (As := [.int x0]) (rest := []) ⟨hx, hb, hml, hown, hts⟩ (x_folderAt l hl0 D cI cZ cO hR x0 hM hb1) (cwV 1 hts gX4_addFolder_X4_folderAt rfl rfl rfl (by decide +kernel) ⟨Nat.le_of_ble_eq_true rfl, Nat.le_of_ble_eq_true rfl⟩) ⟨rdX_blind, va_recv hK hP (ci := 5) (q0 := kp1) rfl ep1, rdX_pre hP hK hN hX rfl⟩ rfl rfl hl.1 rfl (lv_room (Nat.le_of_ble_eq_true rfl)) dX4_addFolder_2 ⟨Nat.le_of_ble_eq_true rfl, Nat.le_of_ble_eq_true rfl⟩)

set_option maxHeartbeats 800000 in
set_option maxRecDepth 100000 in
theorem x_addFolder_b (l : Launch) (hl0 : l.stackTraces = false) (D : va_G) (cI cZ cO : ClassId) {L : List Nat} {f : Nat → va_E} {tg : Nat → Nat} {AD : Nat → Nat → Nat} {mc : Nat → Int32} {F : Nat → Nat → Int32} {ik kp tu : Nat → Int32} {n : Nat} {he gv : Nat → Int32} {gp gb ob nm lo : Int32} (hR : Rep cI cO L f tg AD mc F ik kp tu n he gv gp gb ob nm lo) (x : Nat) (x1 : Int32) (hxn : x < n) (hb1 : inB x1 0 7 = false) : vx_Met l yX4_addFolder wsX4_addFolder (rmx 7 102) (va_Pc [.ref (AD 0 0), .int (nI x), .int x1] (rdX D ([(cI, .int), (cZ, .boolean), (cO, .object "java/lang/Object")]) (va_pl L f))) xQc (xXC "java/lang/IndexOutOfBoundsException") 1 6 (fun _ => False) := by
  refine vx_ofW (cc := cX4_addFolder) (maxL := 4) (ret := (some .int)) (by decide) rfl ?_
  intro p e s m args below meth c s₁ B hml htab hv
  obtain ⟨hargs, ⟨hP, hK, hN⟩, hX⟩ := hv
  have hx := B.exec
  have hb := B.bytes
  have hr := B.returns
  have hts := atoms_spec (ws := wsX4_addFolder) B.pre
  have hown : s.vm.findClass RX4 = some m.cls := findClass_of_methodNamed B.named
  have hlocks := B.notSynchronized
  have hen : entryFrame m args 4 = entryFrame m ([.ref (AD 0 0), .int (nI x), .int x1] : List Value).toArray 4 := by rw [hargs]
  rw [hen]
  have hl := lv_entry ([.ref (AD 0 0), .int (nI x), .int x1]) (n := 4) (Nat.le_of_ble_eq_true rfl)
  rw [lg_entry_eq]
  generalize (lg_sl ([.ref (AD 0 0), .int (nI x), .int x1]) ++ List.replicate (4 - (lg_sl ([.ref (AD 0 0), .int (nI x), .int x1])).length) Slot.unset).toArray = ls at hl ⊢
  have hl : lv_has ls 4 [(0, .ref (AD 0 0)), (1, .int (nI x)), (2, .int x1)] := hl
  generalize hQ : vx_MQ below xQc (xXC "java/lang/IndexOutOfBoundsException") args s 1 6 (fun _ => False) = Q
  refine lv_aload_n hx hb dX4_addFolder_0 rfl (lv_at hl 0 rfl) ?_
  refine lv_iload_n hx hb dX4_addFolder_1 rfl (lv_at hl 1 rfl) ?_
  obtain ⟨kp1, ep1⟩ := (hR.x).at
  refine va_csq (W.runV (As := [.int (nI x)]) (rest := []) ⟨hx, hb, hml, hown, hts⟩ (k_X4_folderAt l D cI cZ cO hR x (by omega)) (cwV 1 hts gX4_addFolder_X4_folderAt rfl rfl rfl (by decide +kernel) ⟨Nat.le_of_ble_eq_true rfl, Nat.le_of_ble_eq_true rfl⟩) ⟨rd_blind, va_recv hK hP (ci := 5) (q0 := kp1) rfl ep1, rd_pre hP hK hN⟩ rfl rfl hl.1 rfl (lv_room (Nat.le_of_ble_eq_true rfl)) dX4_addFolder_2 ⟨Nat.le_of_ble_eq_true rfl, Nat.le_of_ble_eq_true rfl⟩) (fun r er => ?_)
  subst er
  refine top_rf (q := AD 1 x) rfl ?_
  refine lv_astore_n (lv' := [(3, .ref (AD 1 x)), (0, .ref (AD 0 0)), (1, .int (nI x)), (2, .int x1)]) hx hb dX4_addFolder_5 rfl hl (by decide) rfl (fun ls hl => ?_)
  refine lv_iload_n hx hb dX4_addFolder_6 rfl (lv_at hl 3 rfl) ?_
  subst hQ
  exact xx_pass htab hlocks (vx_runS (As := [.int x1]) (rest := []) ⟨hx, hb, hml, hown, hts⟩ (x_noPerson l hl0 x1 hb1) (va_cwS 1 hts gX4_addFolder_X4_refuseNoPerson rfl rfl rfl (by decide +kernel) ⟨Nat.le_of_ble_eq_true rfl, Nat.le_of_ble_eq_true rfl⟩) ⟨nx_blind, nx_pre hX⟩ rfl rfl hl.1 rfl (lv_room (Nat.le_of_ble_eq_true rfl)) dX4_addFolder_7 ⟨Nat.le_of_ble_eq_true rfl, Nat.le_of_ble_eq_true rfl⟩)

set_option maxHeartbeats 800000 in
set_option maxRecDepth 100000 in
theorem x_addFolder_c (l : Launch) (hl0 : l.stackTraces = false) (D : va_G) (cI cZ cO : ClassId) {L : List Nat} {f : Nat → va_E} {tg : Nat → Nat} {AD : Nat → Nat → Nat} {mc : Nat → Int32} {F : Nat → Nat → Int32} {ik kp tu : Nat → Int32} {n : Nat} {he gv : Nat → Int32} {gp gb ob nm lo : Int32} (hR : Rep cI cO L f tg AD mc F ik kp tu n he gv gp gb ob nm lo) (x : Nat) (y : Nat) (hxn : x < n) (hy8 : y < 8) (h20 : nI n = 20) : vx_Met l yX4_addFolder wsX4_addFolder (rmx 6 85) (va_Pc [.ref (AD 0 0), .int (nI x), .int (nI y)] (rdX D ([(cI, .int), (cZ, .boolean), (cO, .object "java/lang/Object")]) (va_pl L f))) xQc (xXC "java/lang/IllegalStateException") 1 6 (fun _ => False) := by
  refine vx_ofW (cc := cX4_addFolder) (maxL := 4) (ret := (some .int)) (by decide) rfl ?_
  intro p e s m args below meth c s₁ B hml htab hv
  obtain ⟨hargs, ⟨hP, hK, hN⟩, hX⟩ := hv
  have hx := B.exec
  have hb := B.bytes
  have hr := B.returns
  have hts := atoms_spec (ws := wsX4_addFolder) B.pre
  have hown : s.vm.findClass RX4 = some m.cls := findClass_of_methodNamed B.named
  have hlocks := B.notSynchronized
  have hen : entryFrame m args 4 = entryFrame m ([.ref (AD 0 0), .int (nI x), .int (nI y)] : List Value).toArray 4 := by rw [hargs]
  rw [hen]
  have hl := lv_entry ([.ref (AD 0 0), .int (nI x), .int (nI y)]) (n := 4) (Nat.le_of_ble_eq_true rfl)
  rw [lg_entry_eq]
  generalize (lg_sl ([.ref (AD 0 0), .int (nI x), .int (nI y)]) ++ List.replicate (4 - (lg_sl ([.ref (AD 0 0), .int (nI x), .int (nI y)])).length) Slot.unset).toArray = ls at hl ⊢
  have hl : lv_has ls 4 [(0, .ref (AD 0 0)), (1, .int (nI x)), (2, .int (nI y))] := hl
  generalize hQ : vx_MQ below xQc (xXC "java/lang/IllegalStateException") args s 1 6 (fun _ => False) = Q
  refine lv_aload_n hx hb dX4_addFolder_0 rfl (lv_at hl 0 rfl) ?_
  refine lv_iload_n hx hb dX4_addFolder_1 rfl (lv_at hl 1 rfl) ?_
  obtain ⟨kp1, ep1⟩ := (hR.x).at
  refine va_csq (W.runV (As := [.int (nI x)]) (rest := []) ⟨hx, hb, hml, hown, hts⟩ (k_X4_folderAt l D cI cZ cO hR x (by omega)) (cwV 1 hts gX4_addFolder_X4_folderAt rfl rfl rfl (by decide +kernel) ⟨Nat.le_of_ble_eq_true rfl, Nat.le_of_ble_eq_true rfl⟩) ⟨rd_blind, va_recv hK hP (ci := 5) (q0 := kp1) rfl ep1, rd_pre hP hK hN⟩ rfl rfl hl.1 rfl (lv_room (Nat.le_of_ble_eq_true rfl)) dX4_addFolder_2 ⟨Nat.le_of_ble_eq_true rfl, Nat.le_of_ble_eq_true rfl⟩) (fun r er => ?_)
  subst er
  refine top_rf (q := AD 1 x) rfl ?_
  refine lv_astore_n (lv' := [(3, .ref (AD 1 x)), (0, .ref (AD 0 0)), (1, .int (nI x)), (2, .int (nI y))]) hx hb dX4_addFolder_5 rfl hl (by decide) rfl (fun ls hl => ?_)
  refine lv_iload_n hx hb dX4_addFolder_6 rfl (lv_at hl 3 rfl) ?_
  refine va_csv (W.runS (As := [.int (nI y)]) (rest := []) ⟨hx, hb, hml, hown, hts⟩ (k_X4_refuseNoPerson l y (by omega)) (va_cwS 1 hts gX4_addFolder_X4_refuseNoPerson rfl rfl rfl (by decide +kernel) ⟨Nat.le_of_ble_eq_true rfl, Nat.le_of_ble_eq_true rfl⟩) ⟨nf_blind, fun U hU hW => ⟨rfl, trivial⟩⟩ rfl rfl hl.1 rfl (lv_room (Nat.le_of_ble_eq_true rfl)) dX4_addFolder_7 ⟨Nat.le_of_ble_eq_true rfl, Nat.le_of_ble_eq_true rfl⟩) (fun _ => ?_)
  refine lv_aload_n hx hb dX4_addFolder_10 rfl (lv_at hl 1 rfl) ?_
  obtain ⟨kp2, ep2⟩ := (hR.x).at
  refine va_get (D := D) (ci := 5) (v := .ref (AD 0 8)) (C := RX4) (T := TX4) (N := 3) hx hb hts (fun _ h => List.mem_cons_of_mem _ (List.mem_append_left _ (List.mem_append_left _ (List.mem_append_left _ (List.mem_append_left _ (List.mem_append_right _ (h))))))) hown hK hP kp2 ep2 rfl 1 (by decide) (hts _ (List.mem_of_getElem? (i := 3) rfl)) (fun _ h9 => h9) rfl dX4_addFolder_11 ?_
  obtain ⟨kp3, ep3⟩ := (hR.t).at
  obtain ⟨kp4, ep4⟩ := (hR.t).at
  refine vp_callSi (W.runV (As := []) (rest := []) ⟨hx, hb, hml, hown, hts⟩ (k_Jx4a65c_size_8abf5 l D cI cZ cO ep3 ) (cwV 0 hts gX4_addFolder_Jx4a65c_size_8abf5 rfl rfl rfl (by decide +kernel) ⟨Nat.le_of_ble_eq_true rfl, Nat.le_of_ble_eq_true rfl⟩) ⟨rd_blind, va_recv hK hP (ci := 0) (q0 := kp4) rfl ep4, rd_pre hP hK hN⟩ rfl rfl hl.1 rfl (lv_room (Nat.le_of_ble_eq_true rfl)) dX4_addFolder_14 ⟨Nat.le_of_ble_eq_true rfl, Nat.le_of_ble_eq_true rfl⟩) (fun r er => ?_)
  subst er
  refine lv_bipush (v := 20) hx hb dX4_addFolder_17 (by decide) ?_
  refine lv_icmp_lt (tgt := 32) hx hb dX4_addFolder_19 (by decide) (fun c_19 => ?_) (fun c_19 => ?_)
  ·
    exact absurd c_19 (by rw [h20]; decide)
  ·
    subst hQ
    exact xx_throw (cls := "java/lang/IllegalStateException") (ik := 58) (is := 79) (ic := 62) (text := "there are 20 folders") hX htab hlocks hx hb hl0 hown (by decide +kernel) (hts _ (List.mem_of_getElem? (i := 1) rfl)) (hts _ (List.mem_of_getElem? (i := 2) rfl)) (by decide +kernel) (hX.hat (by decide +kernel) xx_ngS (fun w h => hts w (List.mem_cons_of_mem _ (List.mem_append_left _ (List.mem_append_right _ (h)))))) xx_gdS (hl.1.trans hml.symm) dX4_addFolder_22 dX4_addFolder_25 dX4_addFolder_26 dX4_addFolder_28 dX4_addFolder_31 (Nat.le_of_ble_eq_true rfl) (Nat.le_of_ble_eq_true rfl) (Nat.le_of_ble_eq_true rfl) (Nat.le_of_ble_eq_true rfl)

set_option maxHeartbeats 800000 in
set_option maxRecDepth 100000 in
theorem x_drop_a (l : Launch) (hl0 : l.stackTraces = false) (D : va_G) (cI cZ cO : ClassId) {L : List Nat} {f : Nat → va_E} {tg : Nat → Nat} {AD : Nat → Nat → Nat} {mc : Nat → Int32} {F : Nat → Nat → Int32} {ik kp tu : Nat → Int32} {n : Nat} {he gv : Nat → Int32} {gp gb ob nm lo : Int32} (hR : Rep cI cO L f tg AD mc F ik kp tu n he gv gp gb ob nm lo) (x0 : Int32) (x1 : Int32) (hM : okC F n) (hb1 : inB x0 0 (nI n - 1) = false) : vx_Met l yX4_drop wsX4_drop (rmx 7 103) (va_Pc [.ref (AD 0 0), .int x0, .int x1] (rdX D ([(cI, .int), (cZ, .boolean), (cO, .object "java/lang/Object")]) (va_pl L f))) xQc (xXC "java/lang/IndexOutOfBoundsException") 1 6 (fun _ => False) := by
  refine vx_ofW (cc := cX4_drop) (maxL := 4) (ret := (some .int)) (by decide) rfl ?_
  intro p e s m args below meth c s₁ B hml htab hv
  obtain ⟨hargs, ⟨hP, hK, hN⟩, hX⟩ := hv
  have hx := B.exec
  have hb := B.bytes
  have hr := B.returns
  have hts := atoms_spec (ws := wsX4_drop) B.pre
  have hown : s.vm.findClass RX4 = some m.cls := findClass_of_methodNamed B.named
  have hlocks := B.notSynchronized
  have hen : entryFrame m args 4 = entryFrame m ([.ref (AD 0 0), .int x0, .int x1] : List Value).toArray 4 := by rw [hargs]
  rw [hen]
  have hl := lv_entry ([.ref (AD 0 0), .int x0, .int x1]) (n := 4) (Nat.le_of_ble_eq_true rfl)
  rw [lg_entry_eq]
  generalize (lg_sl ([.ref (AD 0 0), .int x0, .int x1]) ++ List.replicate (4 - (lg_sl ([.ref (AD 0 0), .int x0, .int x1])).length) Slot.unset).toArray = ls at hl ⊢
  have hl : lv_has ls 4 [(0, .ref (AD 0 0)), (1, .int x0), (2, .int x1)] := hl
  generalize hQ : vx_MQ below xQc (xXC "java/lang/IndexOutOfBoundsException") args s 1 6 (fun _ => False) = Q
  refine lv_aload_n hx hb dX4_drop_0 rfl (lv_at hl 0 rfl) ?_
  refine lv_iload_n hx hb dX4_drop_1 rfl (lv_at hl 1 rfl) ?_
  subst hQ
  obtain ⟨kp1, ep1⟩ := (hR.x).at
  exact xx_pass htab hlocks (vx_runV (As := [.int x0]) (rest := []) ⟨hx, hb, hml, hown, hts⟩ (x_folderAt l hl0 D cI cZ cO hR x0 hM hb1) (cwV 1 hts gX4_drop_X4_folderAt rfl rfl rfl (by decide +kernel) ⟨Nat.le_of_ble_eq_true rfl, Nat.le_of_ble_eq_true rfl⟩) ⟨rdX_blind, va_recv hK hP (ci := 5) (q0 := kp1) rfl ep1, rdX_pre hP hK hN hX rfl⟩ rfl rfl hl.1 rfl (lv_room (Nat.le_of_ble_eq_true rfl)) dX4_drop_2 ⟨Nat.le_of_ble_eq_true rfl, Nat.le_of_ble_eq_true rfl⟩)

set_option maxHeartbeats 800000 in
set_option maxRecDepth 100000 in
theorem x_drop_b (l : Launch) (hl0 : l.stackTraces = false) (D : va_G) (cI cZ cO : ClassId) {L : List Nat} {f : Nat → va_E} {tg : Nat → Nat} {AD : Nat → Nat → Nat} {mc : Nat → Int32} {F : Nat → Nat → Int32} {ik kp tu : Nat → Int32} {n : Nat} {he gv : Nat → Int32} {gp gb ob nm lo : Int32} (hR : Rep cI cO L f tg AD mc F ik kp tu n he gv gp gb ob nm lo) (x : Nat) (x1 : Int32) (hM : okC F n) (hxn : x < n) (hb1 : inB x1 0 (F 6 x - 1) = false) : vx_Met l yX4_drop wsX4_drop (rmx 6 85) (va_Pc [.ref (AD 0 0), .int (nI x), .int x1] (rdX D ([(cI, .int), (cZ, .boolean), (cO, .object "java/lang/Object")]) (va_pl L f))) xQc (xXC "java/lang/IndexOutOfBoundsException") 1 6 (fun _ => False) := by
  refine vx_ofW (cc := cX4_drop) (maxL := 4) (ret := (some .int)) (by decide) rfl ?_
  intro p e s m args below meth c s₁ B hml htab hv
  obtain ⟨hargs, ⟨hP, hK, hN⟩, hX⟩ := hv
  have hx := B.exec
  have hb := B.bytes
  have hr := B.returns
  have hts := atoms_spec (ws := wsX4_drop) B.pre
  have hown : s.vm.findClass RX4 = some m.cls := findClass_of_methodNamed B.named
  have hlocks := B.notSynchronized
  have hen : entryFrame m args 4 = entryFrame m ([.ref (AD 0 0), .int (nI x), .int x1] : List Value).toArray 4 := by rw [hargs]
  rw [hen]
  have hl := lv_entry ([.ref (AD 0 0), .int (nI x), .int x1]) (n := 4) (Nat.le_of_ble_eq_true rfl)
  rw [lg_entry_eq]
  generalize (lg_sl ([.ref (AD 0 0), .int (nI x), .int x1]) ++ List.replicate (4 - (lg_sl ([.ref (AD 0 0), .int (nI x), .int x1])).length) Slot.unset).toArray = ls at hl ⊢
  have hl : lv_has ls 4 [(0, .ref (AD 0 0)), (1, .int (nI x)), (2, .int x1)] := hl
  generalize hQ : vx_MQ below xQc (xXC "java/lang/IndexOutOfBoundsException") args s 1 6 (fun _ => False) = Q
  refine lv_aload_n hx hb dX4_drop_0 rfl (lv_at hl 0 rfl) ?_
  refine lv_iload_n hx hb dX4_drop_1 rfl (lv_at hl 1 rfl) ?_
  obtain ⟨kp1, ep1⟩ := (hR.x).at
  refine va_csq (W.runV (As := [.int (nI x)]) (rest := []) ⟨hx, hb, hml, hown, hts⟩ (k_X4_folderAt l D cI cZ cO hR x (by omega)) (cwV 1 hts gX4_drop_X4_folderAt rfl rfl rfl (by decide +kernel) ⟨Nat.le_of_ble_eq_true rfl, Nat.le_of_ble_eq_true rfl⟩) ⟨rd_blind, va_recv hK hP (ci := 5) (q0 := kp1) rfl ep1, rd_pre hP hK hN⟩ rfl rfl hl.1 rfl (lv_room (Nat.le_of_ble_eq_true rfl)) dX4_drop_2 ⟨Nat.le_of_ble_eq_true rfl, Nat.le_of_ble_eq_true rfl⟩) (fun r er => ?_)
  subst er
  refine top_rf (q := AD 1 x) rfl ?_
  refine lv_astore_n (lv' := [(3, .ref (AD 1 x)), (0, .ref (AD 0 0)), (1, .int (nI x)), (2, .int x1)]) hx hb dX4_drop_5 rfl hl (by decide) rfl (fun ls hl => ?_)
  refine lv_iload_n hx hb dX4_drop_6 rfl (lv_at hl 3 rfl) ?_
  refine lv_if_lt (tgt := 21) hx hb dX4_drop_7 (by decide) (fun c_7 => ?_) (fun c_7 => ?_)
  ·
    subst hQ
    exact xx_throw (cls := "java/lang/IndexOutOfBoundsException") (ik := 89) (is := 109) (ic := 93) (text := "no such entry") hX htab hlocks hx hb hl0 hown (by decide +kernel) (hts _ (List.mem_of_getElem? (i := 1) rfl)) (hts _ (List.mem_of_getElem? (i := 2) rfl)) (by decide +kernel) (hX.hat (by decide +kernel) xx_ngI (fun w h => hts w (List.mem_cons_of_mem _ (List.mem_append_right _ (h))))) xx_gdI (hl.1.trans hml.symm) dX4_drop_21 dX4_drop_24 dX4_drop_25 dX4_drop_27 dX4_drop_30 (Nat.le_of_ble_eq_true rfl) (Nat.le_of_ble_eq_true rfl) (Nat.le_of_ble_eq_true rfl) (Nat.le_of_ble_eq_true rfl)
  ·
    refine lv_iload_n hx hb dX4_drop_10 rfl (lv_at hl 3 rfl) ?_
    refine lv_aload_n hx hb dX4_drop_11 rfl (lv_at hl 0 rfl) ?_
    obtain ⟨kp2, ep2⟩ := (hR.fo (i := x) (by omega)).at
    refine va_get (D := D) (ci := 2) (v := .ref (AD 2 x)) (C := RX1) (T := TX1) (N := 7) hx hb hts (fun _ h => List.mem_cons_of_mem _ (List.mem_append_left _ (List.mem_append_left _ (List.mem_append_left _ (List.mem_append_left _ (List.mem_append_right _ (h))))))) hown hK hP kp2 ep2 rfl 1 (by decide) (hts _ (List.mem_of_getElem? (i := 3) rfl)) (fun _ h9 => h9) rfl dX4_drop_12 ?_
    obtain ⟨kp3, ep3⟩ := (hR.ro (i := x) (by omega)).at
    obtain ⟨kp4, ep4⟩ := (hR.ro (i := x) (by omega)).at
    refine vp_callSi (W.runV (As := []) (rest := [.int x1]) ⟨hx, hb, hml, hown, hts⟩ (k_Jx4a65c_size_8abf5 l D cI cZ cO ep3 ) (cwV 0 hts gX4_drop_Jx4a65c_size_8abf5 rfl rfl rfl (by decide +kernel) ⟨Nat.le_of_ble_eq_true rfl, Nat.le_of_ble_eq_true rfl⟩) ⟨rd_blind, va_recv hK hP (ci := 0) (q0 := kp4) rfl ep4, rd_pre hP hK hN⟩ rfl rfl hl.1 rfl (lv_room (Nat.le_of_ble_eq_true rfl)) dX4_drop_15 ⟨Nat.le_of_ble_eq_true rfl, Nat.le_of_ble_eq_true rfl⟩) (fun r er => ?_)
    subst er
    refine lv_icmp_lt (tgt := 31) hx hb dX4_drop_18 (by decide) (fun c_18 => ?_) (fun c_18 => ?_)
    ·
      exact absurd (inB_nz (hM.len hxn).1 (Nat.le_trans (hM.len hxn).2 (by decide)) c_7 c_18) (b2i_bf hb1)
    ·
      subst hQ
      exact xx_throw (cls := "java/lang/IndexOutOfBoundsException") (ik := 89) (is := 109) (ic := 93) (text := "no such entry") hX htab hlocks hx hb hl0 hown (by decide +kernel) (hts _ (List.mem_of_getElem? (i := 1) rfl)) (hts _ (List.mem_of_getElem? (i := 2) rfl)) (by decide +kernel) (hX.hat (by decide +kernel) xx_ngI (fun w h => hts w (List.mem_cons_of_mem _ (List.mem_append_right _ (h))))) xx_gdI (hl.1.trans hml.symm) dX4_drop_21 dX4_drop_24 dX4_drop_25 dX4_drop_27 dX4_drop_30 (Nat.le_of_ble_eq_true rfl) (Nat.le_of_ble_eq_true rfl) (Nat.le_of_ble_eq_true rfl) (Nat.le_of_ble_eq_true rfl)
