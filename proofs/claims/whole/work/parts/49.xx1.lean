set_option maxHeartbeats 800000 in
set_option maxRecDepth 100000 in
theorem x_noPerson (l : Launch) (hl0 : l.stackTraces = false) (x0 : Int32) (hb1 : inB x0 0 7 = false) : vx_Met l yX4_refuseNoPerson wsX4_refuseNoPerson (rmx 6 82) (va_Pc [.int x0] NX) xQc (xXC "java/lang/IndexOutOfBoundsException") 1 6 (fun _ => False) := by
  refine vx_ofW (cc := cX4_refuseNoPerson) (maxL := 1) (ret := none) (by decide) rfl ?_
  intro p e s m args below meth c s₁ B hml htab hv
  obtain ⟨hargs, hX⟩ := hv
  have hx := B.exec
  have hb := B.bytes
  have hr := B.returns
  have hts := atoms_spec (ws := wsX4_refuseNoPerson) B.pre
  have hown : s.vm.findClass RX4 = some m.cls := findClass_of_methodNamed B.named
  have hlocks := B.notSynchronized
  have hen : entryFrame m args 1 = entryFrame m ([.int x0] : List Value).toArray 1 := by rw [hargs]
  rw [hen]
  have hl := lv_entry ([.int x0]) (n := 1) (Nat.le_of_ble_eq_true rfl)
  rw [lg_entry_eq]
  generalize (lg_sl ([.int x0]) ++ List.replicate (1 - (lg_sl ([.int x0])).length) Slot.unset).toArray = ls at hl ⊢
  have hl : lv_has ls 1 [(0, .int x0)] := hl
  generalize hQ : vx_MQ below xQc (xXC "java/lang/IndexOutOfBoundsException") args s 1 6 (fun _ => False) = Q
  refine lv_iload_n hx hb dX4_refuseNoPerson_0 rfl (lv_at hl 0 rfl) ?_
  refine lv_if_lt (tgt := 10) hx hb dX4_refuseNoPerson_1 (by decide) (fun c_1 => ?_) (fun c_1 => ?_)
  ·
    subst hQ
    exact xx_throw (cls := "java/lang/IndexOutOfBoundsException") (ik := 89) (is := 176) (ic := 93) (text := "no such person") hX htab hlocks hx hb hl0 hown (by decide +kernel) (hts _ (List.mem_of_getElem? (i := 1) rfl)) (hts _ (List.mem_of_getElem? (i := 2) rfl)) (by decide +kernel) (hX.hat (by decide +kernel) xx_ngI (fun w h => hts w (List.mem_cons_of_mem _ (List.mem_append_right _ (h))))) xx_gdI (hl.1.trans hml.symm) dX4_refuseNoPerson_10 dX4_refuseNoPerson_13 dX4_refuseNoPerson_14 dX4_refuseNoPerson_16 dX4_refuseNoPerson_19 (Nat.le_of_ble_eq_true rfl) (Nat.le_of_ble_eq_true rfl) (Nat.le_of_ble_eq_true rfl) (Nat.le_of_ble_eq_true rfl)
  ·
    refine lv_iload_n hx hb dX4_refuseNoPerson_4 rfl (lv_at hl 0 rfl) ?_
    refine lv_bipush (v := 8) hx hb dX4_refuseNoPerson_5 (by decide) ?_
    refine lv_icmp_lt (tgt := 20) hx hb dX4_refuseNoPerson_7 (by decide) (fun c_7 => ?_) (fun c_7 => ?_)
    ·
      exact absurd (inB_n (N := 7) (by decide) c_1 c_7 (by decide)) (b2i_bf hb1)
    ·
      subst hQ
      exact xx_throw (cls := "java/lang/IndexOutOfBoundsException") (ik := 89) (is := 176) (ic := 93) (text := "no such person") hX htab hlocks hx hb hl0 hown (by decide +kernel) (hts _ (List.mem_of_getElem? (i := 1) rfl)) (hts _ (List.mem_of_getElem? (i := 2) rfl)) (by decide +kernel) (hX.hat (by decide +kernel) xx_ngI (fun w h => hts w (List.mem_cons_of_mem _ (List.mem_append_right _ (h))))) xx_gdI (hl.1.trans hml.symm) dX4_refuseNoPerson_10 dX4_refuseNoPerson_13 dX4_refuseNoPerson_14 dX4_refuseNoPerson_16 dX4_refuseNoPerson_19 (Nat.le_of_ble_eq_true rfl) (Nat.le_of_ble_eq_true rfl) (Nat.le_of_ble_eq_true rfl) (Nat.le_of_ble_eq_true rfl)

set_option maxHeartbeats 800000 in
set_option maxRecDepth 100000 in
theorem x_noGroup (l : Launch) (hl0 : l.stackTraces = false) (x0 : Int32) (hb1 : inB x0 0 5 = false) : vx_Met l yX4_refuseNoGroup wsX4_refuseNoGroup (rmx 6 82) (va_Pc [.int x0] NX) xQc (xXC "java/lang/IndexOutOfBoundsException") 1 6 (fun _ => False) := by
  refine vx_ofW (cc := cX4_refuseNoGroup) (maxL := 1) (ret := none) (by decide) rfl ?_
  intro p e s m args below meth c s₁ B hml htab hv
  obtain ⟨hargs, hX⟩ := hv
  have hx := B.exec
  have hb := B.bytes
  have hr := B.returns
  have hts := atoms_spec (ws := wsX4_refuseNoGroup) B.pre
  have hown : s.vm.findClass RX4 = some m.cls := findClass_of_methodNamed B.named
  have hlocks := B.notSynchronized
  have hen : entryFrame m args 1 = entryFrame m ([.int x0] : List Value).toArray 1 := by rw [hargs]
  rw [hen]
  have hl := lv_entry ([.int x0]) (n := 1) (Nat.le_of_ble_eq_true rfl)
  rw [lg_entry_eq]
  generalize (lg_sl ([.int x0]) ++ List.replicate (1 - (lg_sl ([.int x0])).length) Slot.unset).toArray = ls at hl ⊢
  have hl : lv_has ls 1 [(0, .int x0)] := hl
  generalize hQ : vx_MQ below xQc (xXC "java/lang/IndexOutOfBoundsException") args s 1 6 (fun _ => False) = Q
  refine lv_iload_n hx hb dX4_refuseNoGroup_0 rfl (lv_at hl 0 rfl) ?_
  refine lv_if_lt (tgt := 10) hx hb dX4_refuseNoGroup_1 (by decide) (fun c_1 => ?_) (fun c_1 => ?_)
  ·
    subst hQ
    exact xx_throw (cls := "java/lang/IndexOutOfBoundsException") (ik := 89) (is := 178) (ic := 93) (text := "no such group") hX htab hlocks hx hb hl0 hown (by decide +kernel) (hts _ (List.mem_of_getElem? (i := 1) rfl)) (hts _ (List.mem_of_getElem? (i := 2) rfl)) (by decide +kernel) (hX.hat (by decide +kernel) xx_ngI (fun w h => hts w (List.mem_cons_of_mem _ (List.mem_append_right _ (h))))) xx_gdI (hl.1.trans hml.symm) dX4_refuseNoGroup_10 dX4_refuseNoGroup_13 dX4_refuseNoGroup_14 dX4_refuseNoGroup_16 dX4_refuseNoGroup_19 (Nat.le_of_ble_eq_true rfl) (Nat.le_of_ble_eq_true rfl) (Nat.le_of_ble_eq_true rfl) (Nat.le_of_ble_eq_true rfl)
  ·
    refine lv_iload_n hx hb dX4_refuseNoGroup_4 rfl (lv_at hl 0 rfl) ?_
    refine lv_bipush (v := 6) hx hb dX4_refuseNoGroup_5 (by decide) ?_
    refine lv_icmp_lt (tgt := 20) hx hb dX4_refuseNoGroup_7 (by decide) (fun c_7 => ?_) (fun c_7 => ?_)
    ·
      exact absurd (inB_n (N := 5) (by decide) c_1 c_7 (by decide)) (b2i_bf hb1)
    ·
      subst hQ
      exact xx_throw (cls := "java/lang/IndexOutOfBoundsException") (ik := 89) (is := 178) (ic := 93) (text := "no such group") hX htab hlocks hx hb hl0 hown (by decide +kernel) (hts _ (List.mem_of_getElem? (i := 1) rfl)) (hts _ (List.mem_of_getElem? (i := 2) rfl)) (by decide +kernel) (hX.hat (by decide +kernel) xx_ngI (fun w h => hts w (List.mem_cons_of_mem _ (List.mem_append_right _ (h))))) xx_gdI (hl.1.trans hml.symm) dX4_refuseNoGroup_10 dX4_refuseNoGroup_13 dX4_refuseNoGroup_14 dX4_refuseNoGroup_16 dX4_refuseNoGroup_19 (Nat.le_of_ble_eq_true rfl) (Nat.le_of_ble_eq_true rfl) (Nat.le_of_ble_eq_true rfl) (Nat.le_of_ble_eq_true rfl)

set_option maxHeartbeats 800000 in
set_option maxRecDepth 100000 in
theorem x_folderAt (l : Launch) (hl0 : l.stackTraces = false) (D : va_G) (cI cZ cO : ClassId) {L : List Nat} {f : Nat → va_E} {tg : Nat → Nat} {AD : Nat → Nat → Nat} {mc : Nat → Int32} {F : Nat → Nat → Int32} {ik kp tu : Nat → Int32} {n : Nat} {he gv : Nat → Int32} {gp gb ob nm lo : Int32} (hR : Rep cI cO L f tg AD mc F ik kp tu n he gv gp gb ob nm lo) (x0 : Int32) (hM : okC F n) (hb1 : inB x0 0 (nI n - 1) = false) : vx_Met l yX4_folderAt wsX4_folderAt (rmx 6 82) (va_Pc [.ref (AD 0 0), .int x0] (rdX D ([(cI, .int), (cZ, .boolean), (cO, .object "java/lang/Object")]) (va_pl L f))) xQc (xXC "java/lang/IndexOutOfBoundsException") 1 6 (fun _ => False) := by
  refine vx_ofW (cc := cX4_folderAt) (maxL := 2) (ret := (some (.object "ShareMover$Folder"))) (by decide) rfl ?_
  intro p e s m args below meth c s₁ B hml htab hv
  obtain ⟨hargs, ⟨hP, hK, hN⟩, hX⟩ := hv
  have hx := B.exec
  have hb := B.bytes
  have hr := B.returns
  have hts := atoms_spec (ws := wsX4_folderAt) B.pre
  have hown : s.vm.findClass RX4 = some m.cls := findClass_of_methodNamed B.named
  have hlocks := B.notSynchronized
  have hen : entryFrame m args 2 = entryFrame m ([.ref (AD 0 0), .int x0] : List Value).toArray 2 := by rw [hargs]
  rw [hen]
  have hl := lv_entry ([.ref (AD 0 0), .int x0]) (n := 2) (Nat.le_of_ble_eq_true rfl)
  rw [lg_entry_eq]
  generalize (lg_sl ([.ref (AD 0 0), .int x0]) ++ List.replicate (2 - (lg_sl ([.ref (AD 0 0), .int x0])).length) Slot.unset).toArray = ls at hl ⊢
  have hl : lv_has ls 2 [(0, .ref (AD 0 0)), (1, .int x0)] := hl
  generalize hQ : vx_MQ below xQc (xXC "java/lang/IndexOutOfBoundsException") args s 1 6 (fun _ => False) = Q
  refine lv_iload_n hx hb dX4_folderAt_0 rfl (lv_at hl 1 rfl) ?_
  refine lv_if_lt (tgt := 15) hx hb dX4_folderAt_1 (by decide) (fun c_1 => ?_) (fun c_1 => ?_)
  ·
    subst hQ
    exact xx_throw (cls := "java/lang/IndexOutOfBoundsException") (ik := 89) (is := 180) (ic := 93) (text := "no such folder") hX htab hlocks hx hb hl0 hown (by decide +kernel) (hts _ (List.mem_of_getElem? (i := 1) rfl)) (hts _ (List.mem_of_getElem? (i := 2) rfl)) (by decide +kernel) (hX.hat (by decide +kernel) xx_ngI (fun w h => hts w (List.mem_cons_of_mem _ (List.mem_append_right _ (h))))) xx_gdI (hl.1.trans hml.symm) dX4_folderAt_15 dX4_folderAt_18 dX4_folderAt_19 dX4_folderAt_21 dX4_folderAt_24 (Nat.le_of_ble_eq_true rfl) (Nat.le_of_ble_eq_true rfl) (Nat.le_of_ble_eq_true rfl) (Nat.le_of_ble_eq_true rfl)
  ·
    refine lv_iload_n hx hb dX4_folderAt_4 rfl (lv_at hl 1 rfl) ?_
    refine lv_aload_n hx hb dX4_folderAt_5 rfl (lv_at hl 0 rfl) ?_
    obtain ⟨kp1, ep1⟩ := (hR.x).at
    refine va_get (D := D) (ci := 5) (v := .ref (AD 0 8)) (C := RX4) (T := TX4) (N := 3) hx hb hts (fun _ h => List.mem_cons_of_mem _ (List.mem_append_left _ (List.mem_append_left _ (List.mem_append_right _ (h))))) hown hK hP kp1 ep1 rfl 1 (by decide) (hts _ (List.mem_of_getElem? (i := 3) rfl)) (fun _ h9 => h9) rfl dX4_folderAt_6 ?_
    obtain ⟨kp2, ep2⟩ := (hR.t).at
    obtain ⟨kp3, ep3⟩ := (hR.t).at
    refine vp_callSi (W.runV (As := []) (rest := [.int x0]) ⟨hx, hb, hml, hown, hts⟩ (k_Jx4a65c_size_8abf5 l D cI cZ cO ep2 ) (cwV 0 hts gX4_folderAt_Jx4a65c_size_8abf5 rfl rfl rfl (by decide +kernel) ⟨Nat.le_of_ble_eq_true rfl, Nat.le_of_ble_eq_true rfl⟩) ⟨rd_blind, va_recv hK hP (ci := 0) (q0 := kp3) rfl ep3, rd_pre hP hK hN⟩ rfl rfl hl.1 rfl (lv_room (Nat.le_of_ble_eq_true rfl)) dX4_folderAt_9 ⟨Nat.le_of_ble_eq_true rfl, Nat.le_of_ble_eq_true rfl⟩) (fun r er => ?_)
    subst er
    refine lv_icmp_lt (tgt := 25) hx hb dX4_folderAt_12 (by decide) (fun c_12 => ?_) (fun c_12 => ?_)
    ·
      exact absurd (inB_nn hM.2.1 c_1 c_12) (b2i_bf hb1)
    ·
      subst hQ
      exact xx_throw (cls := "java/lang/IndexOutOfBoundsException") (ik := 89) (is := 180) (ic := 93) (text := "no such folder") hX htab hlocks hx hb hl0 hown (by decide +kernel) (hts _ (List.mem_of_getElem? (i := 1) rfl)) (hts _ (List.mem_of_getElem? (i := 2) rfl)) (by decide +kernel) (hX.hat (by decide +kernel) xx_ngI (fun w h => hts w (List.mem_cons_of_mem _ (List.mem_append_right _ (h))))) xx_gdI (hl.1.trans hml.symm) dX4_folderAt_15 dX4_folderAt_18 dX4_folderAt_19 dX4_folderAt_21 dX4_folderAt_24 (Nat.le_of_ble_eq_true rfl) (Nat.le_of_ble_eq_true rfl) (Nat.le_of_ble_eq_true rfl) (Nat.le_of_ble_eq_true rfl)
