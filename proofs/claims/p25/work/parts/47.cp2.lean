set_option maxHeartbeats 800000 in
set_option maxRecDepth 100000 in
theorem k_X4_folders (l : Launch) (D : va_G) (cI cZ cO : ClassId) {L : List Nat} {f : Nat → va_E} {tg : Nat → Nat} {AD : Nat → Nat → Nat} {mc : Nat → Int32} {F : Nat → Nat → Int32} {ik kp tu : Nat → Int32} {n : Nat} {he gv : Nat → Int32} {gp gb ob nm lo : Int32} (hR : Rep cI cO L f tg AD mc F ik kp tu n he gv gp gb ob nm lo)    : Met l yX4_folders wsX4_folders (rmr 1 20) (va_Pc [.ref (AD 0 0)] (rdP D ([(cI, .int), (cI, .int), (cO, .object "java/lang/Object")]) (va_pl L f))) (vp_Si (fun r => r = nI n)) 0 0 (fun _ => False) := by
  refine Met.ofW (cc := cX4_folders) (maxL := 1) (ret := (some .int)) (by decide) rfl ?_
  intro p e s m args below meth c s₁ B hml hv
  obtain ⟨hargs, hP, hK, hN⟩ := hv
  have hx := B.exec
  have hb := B.bytes
  have hr := B.returns
  have hts := atoms_spec (ws := wsX4_folders) B.pre
  have hown : s.vm.findClass RX4 = some m.cls := findClass_of_methodNamed B.named
  have hlocks := B.notSynchronized
  have hen : entryFrame m args 1 = entryFrame m ([.ref (AD 0 0)] : List Value).toArray 1 := by rw [hargs]
  rw [hen]
  have hl := lv_entry ([.ref (AD 0 0)]) (n := 1) (Nat.le_of_ble_eq_true rfl)
  rw [lg_entry_eq]
  generalize (lg_sl ([.ref (AD 0 0)]) ++ List.replicate (1 - (lg_sl ([.ref (AD 0 0)])).length) Slot.unset).toArray = ls at hl ⊢
  have hl : lv_has ls 1 [(0, .ref (AD 0 0))] := hl
  generalize hQ : MQ below (vp_Si (fun r => r = nI n)) args s 0 0 (fun _ => False) = Q
  refine lv_aload_n hx hb dX4_folders_0 rfl (lv_at hl 0 rfl) ?_
  obtain ⟨kp1, ep1⟩ := (hR.x).at
  refine va_get (D := D) (ci := 5) (v := .ref (AD 0 8)) (C := RX4) (T := TX4) (N := 3) hx hb hts (fun _ h => List.mem_cons_of_mem _ (List.mem_append_left _ (List.mem_append_right _ (h)))) hown hK hP kp1 ep1 rfl 1 (by decide) (hts _ (List.mem_of_getElem? (i := 1) rfl)) (fun _ h9 => h9) rfl dX4_folders_1 ?_
  obtain ⟨kp2, ep2⟩ := (hR.t).at
  obtain ⟨kp3, ep3⟩ := (hR.t).at
  refine vp_callSi (W.runV (As := []) (rest := []) ⟨hx, hb, hml, hown, hts⟩ (k_Jx4a65c_size_8abf5 l D cI cZ cO ep2 ) (cwV 0 hts gX4_folders_Jx4a65c_size_8abf5 rfl rfl rfl (by decide +kernel) ⟨Nat.le_of_ble_eq_true rfl, Nat.le_of_ble_eq_true rfl⟩) ⟨rd_blind, va_recv hK hP (ci := 0) (q0 := kp3) rfl ep3, rd_pre hP hK hN⟩ rfl rfl hl.1 rfl (lv_room (Nat.le_of_ble_eq_true rfl)) dX4_folders_4 ⟨Nat.le_of_ble_eq_true rfl, Nat.le_of_ble_eq_true rfl⟩) (fun r er => ?_)
  subst er
  subst hQ
  exact W.iret (v := (nI n)) hx hb hr (fun t ht _ => ⟨_, rfl, (by rfl), ht⟩) (fun _ h => absurd h List.not_mem_nil) dX4_folders_7

set_option maxHeartbeats 800000 in
set_option maxRecDepth 100000 in
theorem k_X4_setOwner (l : Launch) (D : va_G) (cI cZ cO : ClassId) {L : List Nat} {f : Nat → va_E} {tg : Nat → Nat} {AD : Nat → Nat → Nat} {mc : Nat → Int32} {F : Nat → Nat → Int32} {ik kp tu : Nat → Int32} {n : Nat} {he gv : Nat → Int32} {gp gb ob nm lo : Int32} (hR : Rep cI cO L f tg AD mc F ik kp tu n he gv gp gb ob nm lo) (A : Nat → Prop) (hL : L.Nodup) (hA : ∀ a, a ∈ L → A a) (x : Nat) (y : Nat)  (hxn : x < n) (hy8 : y < 8) : Met l yX4_setOwner wsX4_setOwner (rmr 4 85) (va_Pc [.ref (AD 0 0), .int (nI x), .int (nI y)] (rdP D ([(cI, .int), (cI, .int), (cO, .object "java/lang/Object")]) (va_pl L f))) (va_Qi (fun (r : Int32) (_ : Unit) => r = F 4 x) (fun _ t => PB D cI cO L tg AD mc (va_up F 4 (upd (F 4) x (nI y))) ik kp tu n he gv gp gb ob nm lo t) A) 0 0 A := by
  refine Met.ofW (cc := cX4_setOwner) (maxL := 5) (ret := (some .int)) (by decide) rfl ?_
  intro p e s m args below meth c s₁ B hml hv
  obtain ⟨hargs, hP, hK, hN⟩ := hv
  have hx := B.exec
  have hb := B.bytes
  have hr := B.returns
  have hts := atoms_spec (ws := wsX4_setOwner) B.pre
  have hown : s.vm.findClass RX4 = some m.cls := findClass_of_methodNamed B.named
  have hlocks := B.notSynchronized
  have hen : entryFrame m args 5 = entryFrame m ([.ref (AD 0 0), .int (nI x), .int (nI y)] : List Value).toArray 5 := by rw [hargs]
  rw [hen]
  have hl := lv_entry ([.ref (AD 0 0), .int (nI x), .int (nI y)]) (n := 5) (Nat.le_of_ble_eq_true rfl)
  rw [lg_entry_eq]
  generalize (lg_sl ([.ref (AD 0 0), .int (nI x), .int (nI y)]) ++ List.replicate (5 - (lg_sl ([.ref (AD 0 0), .int (nI x), .int (nI y)])).length) Slot.unset).toArray = ls at hl ⊢
  have hl : lv_has ls 5 [(0, .ref (AD 0 0)), (1, .int (nI x)), (2, .int (nI y))] := hl
  have hS : va_S A s.heap s.heap [] := va_S.rf
  generalize hQ : MQ below (va_Qi (fun (r : Int32) (_ : Unit) => r = F 4 x) (fun _ t => PB D cI cO L tg AD mc (va_up F 4 (upd (F 4) x (nI y))) ik kp tu n he gv gp gb ob nm lo t) A) args s 0 0 A = Q
  have go : ∀ (f : Nat → va_E) (H : Heap) (locs : List Loc), va_P D vwCl (va_pl L f) H → Rep cI cO L f tg AD mc F ik kp tu n he gv gp gb ob nm lo → va_S A s.heap H locs → W p l e (headSpec wsX4_setOwner (rmr 4 85)).room s m args below meth c H locs 0 0 Q (F0 m 0 ls []) := by
    intro f H locs hP hR hS
    refine lv_aload_n hx hb dX4_setOwner_0 rfl (lv_at hl 0 rfl) ?_
    refine lv_iload_n hx hb dX4_setOwner_1 rfl (lv_at hl 1 rfl) ?_
    obtain ⟨kp1, ep1⟩ := (hR.x).at
    refine va_csq (W.runV (As := [.int (nI x)]) (rest := []) ⟨hx, hb, hml, hown, hts⟩ (k_X4_folderAt l D cI cZ cO hR x (by omega)) (cwV 1 hts gX4_setOwner_X4_folderAt rfl rfl rfl (by decide +kernel) ⟨Nat.le_of_ble_eq_true rfl, Nat.le_of_ble_eq_true rfl⟩) ⟨rd_blind, va_recv hK hP (ci := 5) (q0 := kp1) rfl ep1, rd_pre hP hK hN⟩ rfl rfl hl.1 rfl (lv_room (Nat.le_of_ble_eq_true rfl)) dX4_setOwner_2 ⟨Nat.le_of_ble_eq_true rfl, Nat.le_of_ble_eq_true rfl⟩) (fun r er => ?_)
    subst er
    refine top_rf (q := AD 1 x) rfl ?_
    refine lv_astore_n (lv' := [(3, .ref (AD 1 x)), (0, .ref (AD 0 0)), (1, .int (nI x)), (2, .int (nI y))]) hx hb dX4_setOwner_5 rfl hl (by decide) rfl (fun ls hl => ?_)
    refine lv_iload_n hx hb dX4_setOwner_6 rfl (lv_at hl 3 rfl) ?_
    refine va_csv (W.runS (As := [.int (nI y)]) (rest := []) ⟨hx, hb, hml, hown, hts⟩ (k_X4_refuseNoPerson l y (by omega)) (va_cwS 1 hts gX4_setOwner_X4_refuseNoPerson rfl rfl rfl (by decide +kernel) ⟨Nat.le_of_ble_eq_true rfl, Nat.le_of_ble_eq_true rfl⟩) ⟨nf_blind, fun U hU hW => ⟨rfl, trivial⟩⟩ rfl rfl hl.1 rfl (lv_room (Nat.le_of_ble_eq_true rfl)) dX4_setOwner_7 ⟨Nat.le_of_ble_eq_true rfl, Nat.le_of_ble_eq_true rfl⟩) (fun _ => ?_)
    refine lv_aload_n hx hb dX4_setOwner_10 rfl (lv_at hl 0 rfl) ?_
    obtain ⟨kp2, ep2⟩ := (hR.fo (i := x) (by omega)).at
    refine va_get (D := D) (ci := 2) (v := .int (F 4 x)) (C := RX1) (T := TX1) (N := 7) hx hb hts (fun _ h => List.mem_cons_of_mem _ (List.mem_append_left _ (List.mem_append_left _ (List.mem_append_left _ (List.mem_append_right _ (h)))))) hown hK hP kp2 ep2 rfl 3 (by decide) (hts _ (List.mem_of_getElem? (i := 1) rfl)) (fun _ h9 => h9) rfl dX4_setOwner_11 ?_
    refine lv_istore (lv' := [(4, .int (F 4 x)), (3, .ref (AD 1 x)), (0, .ref (AD 0 0)), (1, .int (nI x)), (2, .int (nI y))]) hx hb dX4_setOwner_14 hl (by decide) rfl (fun ls hl => ?_)
    refine lv_aload_n hx hb dX4_setOwner_16 rfl (lv_at hl 1 rfl) ?_
    refine lv_iload_n hx hb dX4_setOwner_17 rfl (lv_at hl 4 rfl) ?_
    obtain ⟨kp3, ep3⟩ := (hR.fo (i := x) (by omega)).at
    refine va_put (D := D) (ci := 2) (v := .int (nI y)) (ty := .int) (C := RX1) (T := TX1) (N := 7) hx hb hts (fun _ h => List.mem_cons_of_mem _ (List.mem_append_left _ (List.mem_append_left _ (List.mem_append_left _ (List.mem_append_right _ (h)))))) tyX1 tyX1_ok nmX1 hown hK hP (pl_D hL hA) hS kp3 ep3 rfl 3 (by decide) (hts _ (List.mem_of_getElem? (i := 1) rfl)) (fun _ h9 => h9) rfl (by decide +kernel) rfl rfl (Nat.le_of_ble_eq_true rfl) dX4_setOwner_18 (fun H locs hP _ hS => ?_)
    obtain ⟨f, hP, hR⟩ := hR.st_ow hL (by omega) ep3 hP
    refine lv_iload hx hb dX4_setOwner_21 (lv_at hl 0 rfl) ?_
    subst hQ
    exact W.iret (v := F 4 x) hx hb hr (fun t ht hW => ⟨⟨_, (), rfl, (by rfl), ⟨_, by have e := hP; rw [← ht] at e; exact e, hR⟩⟩, hS.F ht⟩) hS.2.2 dX4_setOwner_23
  exact go _ _ _ hP hR hS

set_option maxHeartbeats 800000 in
set_option maxRecDepth 100000 in
theorem k_X4_setInherits (l : Launch) (D : va_G) (cI cZ cO : ClassId) {L : List Nat} {f : Nat → va_E} {tg : Nat → Nat} {AD : Nat → Nat → Nat} {mc : Nat → Int32} {F : Nat → Nat → Int32} {ik kp tu : Nat → Int32} {n : Nat} {he gv : Nat → Int32} {gp gb ob nm lo : Int32} (hR : Rep cI cO L f tg AD mc F ik kp tu n he gv gp gb ob nm lo) (A : Nat → Prop) (hL : L.Nodup) (hA : ∀ a, a ∈ L → A a) (x : Nat) (b : Bool)  (hxn : x < n) (hBo : okB F ik tu)  : Met l yX4_setInherits wsX4_setInherits (rmr 4 85) (va_Pc [.ref (AD 0 0), .int (nI x), .int (b2i b)] (rdP D ([(cI, .int), (cI, .int), (cO, .object "java/lang/Object")]) (va_pl L f))) (va_Qi (fun (r : Int32) (_ : Unit) => r = b2i (toB (F 5 x))) (fun _ t => PB D cI cO L tg AD mc (va_up F 5 (upd (F 5) x (b2i b))) ik kp tu n he gv gp gb ob nm lo t) A) 0 0 A := by
  refine Met.ofW (cc := cX4_setInherits) (maxL := 5) (ret := (some .boolean)) (by decide) rfl ?_
  intro p e s m args below meth c s₁ B hml hv
  obtain ⟨hargs, hP, hK, hN⟩ := hv
  have hx := B.exec
  have hb := B.bytes
  have hr := B.returns
  have hts := atoms_spec (ws := wsX4_setInherits) B.pre
  have hown : s.vm.findClass RX4 = some m.cls := findClass_of_methodNamed B.named
  have hlocks := B.notSynchronized
  have hen : entryFrame m args 5 = entryFrame m ([.ref (AD 0 0), .int (nI x), .int (b2i b)] : List Value).toArray 5 := by rw [hargs]
  rw [hen]
  have hl := lv_entry ([.ref (AD 0 0), .int (nI x), .int (b2i b)]) (n := 5) (Nat.le_of_ble_eq_true rfl)
  rw [lg_entry_eq]
  generalize (lg_sl ([.ref (AD 0 0), .int (nI x), .int (b2i b)]) ++ List.replicate (5 - (lg_sl ([.ref (AD 0 0), .int (nI x), .int (b2i b)])).length) Slot.unset).toArray = ls at hl ⊢
  have hl : lv_has ls 5 [(0, .ref (AD 0 0)), (1, .int (nI x)), (2, .int (b2i b))] := hl
  have hS : va_S A s.heap s.heap [] := va_S.rf
  generalize hQ : MQ below (va_Qi (fun (r : Int32) (_ : Unit) => r = b2i (toB (F 5 x))) (fun _ t => PB D cI cO L tg AD mc (va_up F 5 (upd (F 5) x (b2i b))) ik kp tu n he gv gp gb ob nm lo t) A) args s 0 0 A = Q
  have go : ∀ (f : Nat → va_E) (H : Heap) (locs : List Loc), va_P D vwCl (va_pl L f) H → Rep cI cO L f tg AD mc F ik kp tu n he gv gp gb ob nm lo → va_S A s.heap H locs → W p l e (headSpec wsX4_setInherits (rmr 4 85)).room s m args below meth c H locs 0 0 Q (F0 m 0 ls []) := by
    intro f H locs hP hR hS
    refine lv_aload_n hx hb dX4_setInherits_0 rfl (lv_at hl 0 rfl) ?_
    refine lv_iload_n hx hb dX4_setInherits_1 rfl (lv_at hl 1 rfl) ?_
    obtain ⟨kp1, ep1⟩ := (hR.x).at
    refine va_csq (W.runV (As := [.int (nI x)]) (rest := []) ⟨hx, hb, hml, hown, hts⟩ (k_X4_folderAt l D cI cZ cO hR x (by omega)) (cwV 1 hts gX4_setInherits_X4_folderAt rfl rfl rfl (by decide +kernel) ⟨Nat.le_of_ble_eq_true rfl, Nat.le_of_ble_eq_true rfl⟩) ⟨rd_blind, va_recv hK hP (ci := 5) (q0 := kp1) rfl ep1, rd_pre hP hK hN⟩ rfl rfl hl.1 rfl (lv_room (Nat.le_of_ble_eq_true rfl)) dX4_setInherits_2 ⟨Nat.le_of_ble_eq_true rfl, Nat.le_of_ble_eq_true rfl⟩) (fun r er => ?_)
    subst er
    refine top_rf (q := AD 1 x) rfl ?_
    refine lv_astore_n (lv' := [(3, .ref (AD 1 x)), (0, .ref (AD 0 0)), (1, .int (nI x)), (2, .int (b2i b))]) hx hb dX4_setInherits_5 rfl hl (by decide) rfl (fun ls hl => ?_)
    refine lv_aload_n hx hb dX4_setInherits_6 rfl (lv_at hl 0 rfl) ?_
    obtain ⟨kp2, ep2⟩ := (hR.fo (i := x) (by omega)).at
    refine va_get (D := D) (ci := 2) (v := .int (F 5 x)) (C := RX1) (T := TX1) (N := 7) hx hb hts (fun _ h => List.mem_cons_of_mem _ (List.mem_append_left _ (List.mem_append_left _ (List.mem_append_left _ (List.mem_append_right _ (h)))))) hown hK hP kp2 ep2 rfl 4 (by decide) (hts _ (List.mem_of_getElem? (i := 1) rfl)) (fun _ h9 => h9) rfl dX4_setInherits_7 ?_
    refine top_eq (y := b2i (toB (F 5 x))) (by exact of_b2i (hBo.1 x)) ?_
    refine lv_istore (lv' := [(4, .int (b2i (toB (F 5 x)))), (3, .ref (AD 1 x)), (0, .ref (AD 0 0)), (1, .int (nI x)), (2, .int (b2i b))]) hx hb dX4_setInherits_10 hl (by decide) rfl (fun ls hl => ?_)
    refine lv_aload_n hx hb dX4_setInherits_12 rfl (lv_at hl 1 rfl) ?_
    refine lv_iload_n hx hb dX4_setInherits_13 rfl (lv_at hl 4 rfl) ?_
    obtain ⟨kp3, ep3⟩ := (hR.fo (i := x) (by omega)).at
    refine va_put (D := D) (ci := 2) (v := .int (b2i b)) (ty := .boolean) (C := RX1) (T := TX1) (N := 7) hx hb hts (fun _ h => List.mem_cons_of_mem _ (List.mem_append_left _ (List.mem_append_left _ (List.mem_append_left _ (List.mem_append_right _ (h)))))) tyX1 tyX1_ok nmX1 hown hK hP (pl_D hL hA) hS kp3 ep3 rfl 4 (by decide) (hts _ (List.mem_of_getElem? (i := 1) rfl)) (fun _ h9 => h9) rfl (by decide +kernel) (by exact nar_b2i _) (fit_b2i _) (Nat.le_of_ble_eq_true rfl) dX4_setInherits_14 (fun H locs hP _ hS => ?_)
    obtain ⟨f, hP, hR⟩ := hR.st_in hL (by omega) ep3 hP
    refine lv_iload hx hb dX4_setInherits_17 (lv_at hl 0 rfl) ?_
    subst hQ
    have hrt : (b2i (toB (F 5 x)) : Int32) = b2i (toB (F 5 x)) := by rfl
    exact W.zret (v := b2i (toB (F 5 x))) hx hb hr (by rw [hrt]; exact nar_b2i _) (fun t ht hW => ⟨⟨_, (), rfl, hrt, ⟨_, by have e := hP; rw [← ht] at e; exact e, hR⟩⟩, hS.F ht⟩) hS.2.2 dX4_setInherits_19
  exact go _ _ _ hP hR hS

set_option maxHeartbeats 800000 in
set_option maxRecDepth 100000 in
theorem k_X4_turn (l : Launch) (D : va_G) (cI cZ cO : ClassId) {L : List Nat} {f : Nat → va_E} {tg : Nat → Nat} {AD : Nat → Nat → Nat} {mc : Nat → Int32} {F : Nat → Nat → Int32} {ik kp tu : Nat → Int32} {n : Nat} {he gv : Nat → Int32} {gp gb ob nm lo : Int32} (hR : Rep cI cO L f tg AD mc F ik kp tu n he gv gp gb ob nm lo) (A : Nat → Prop) (hL : L.Nodup) (hA : ∀ a, a ∈ L → A a) (x : Nat)  (hxn : x < n) (hBo : okB F ik tu) (hk : ¬ ik x = 0) : Met l yX4_turn wsX4_turn (rmr 4 85) (va_Pc [.ref (AD 0 0), .int (nI x)] (rdP D ([(cI, .int), (cI, .int), (cO, .object "java/lang/Object")]) (va_pl L f))) (va_Qi (fun (r : Int32) (_ : Unit) => r = b2i (!toB (tu x))) (fun _ t => PB D cI cO L tg AD mc F ik kp (upd tu x (b2i (!toB (tu x)))) n he gv gp gb ob nm lo t) A) 0 0 A := by
  refine Met.ofW (cc := cX4_turn) (maxL := 3) (ret := (some .boolean)) (by decide) rfl ?_
  intro p e s m args below meth c s₁ B hml hv
  obtain ⟨hargs, hP, hK, hN⟩ := hv
  have hx := B.exec
  have hb := B.bytes
  have hr := B.returns
  have hts := atoms_spec (ws := wsX4_turn) B.pre
  have hown : s.vm.findClass RX4 = some m.cls := findClass_of_methodNamed B.named
  have hlocks := B.notSynchronized
  have hen : entryFrame m args 3 = entryFrame m ([.ref (AD 0 0), .int (nI x)] : List Value).toArray 3 := by rw [hargs]
  rw [hen]
  have hl := lv_entry ([.ref (AD 0 0), .int (nI x)]) (n := 3) (Nat.le_of_ble_eq_true rfl)
  rw [lg_entry_eq]
  generalize (lg_sl ([.ref (AD 0 0), .int (nI x)]) ++ List.replicate (3 - (lg_sl ([.ref (AD 0 0), .int (nI x)])).length) Slot.unset).toArray = ls at hl ⊢
  have hl : lv_has ls 3 [(0, .ref (AD 0 0)), (1, .int (nI x))] := hl
  have hS : va_S A s.heap s.heap [] := va_S.rf
  generalize hQ : MQ below (va_Qi (fun (r : Int32) (_ : Unit) => r = b2i (!toB (tu x))) (fun _ t => PB D cI cO L tg AD mc F ik kp (upd tu x (b2i (!toB (tu x)))) n he gv gp gb ob nm lo t) A) args s 0 0 A = Q
  have go : ∀ (f : Nat → va_E) (H : Heap) (locs : List Loc), va_P D vwCl (va_pl L f) H → Rep cI cO L f tg AD mc F ik kp tu n he gv gp gb ob nm lo → va_S A s.heap H locs → W p l e (headSpec wsX4_turn (rmr 4 85)).room s m args below meth c H locs 0 0 Q (F0 m 0 ls []) := by
    intro f H locs hP hR hS
    refine lv_aload_n hx hb dX4_turn_0 rfl (lv_at hl 0 rfl) ?_
    refine lv_iload_n hx hb dX4_turn_1 rfl (lv_at hl 1 rfl) ?_
    obtain ⟨kp1, ep1⟩ := (hR.x).at
    refine va_csq (W.runV (As := [.int (nI x)]) (rest := []) ⟨hx, hb, hml, hown, hts⟩ (k_X4_folderAt l D cI cZ cO hR x (by omega)) (cwV 1 hts gX4_turn_X4_folderAt rfl rfl rfl (by decide +kernel) ⟨Nat.le_of_ble_eq_true rfl, Nat.le_of_ble_eq_true rfl⟩) ⟨rd_blind, va_recv hK hP (ci := 5) (q0 := kp1) rfl ep1, rd_pre hP hK hN⟩ rfl rfl hl.1 rfl (lv_room (Nat.le_of_ble_eq_true rfl)) dX4_turn_2 ⟨Nat.le_of_ble_eq_true rfl, Nat.le_of_ble_eq_true rfl⟩) (fun r er => ?_)
    subst er
    refine top_rf (q := AD 1 x) rfl ?_
    refine lv_astore_n (lv' := [(2, .ref (AD 1 x)), (0, .ref (AD 0 0)), (1, .int (nI x))]) hx hb dX4_turn_5 rfl hl (by decide) rfl (fun ls hl => ?_)
    refine lv_aload_n hx hb dX4_turn_6 rfl (lv_at hl 0 rfl) ?_
    obtain ⟨kp2, ep2⟩ := (hR.fo (i := x) (by omega)).at
    refine va_get (D := D) (ci := 2) (v := .int (ik x)) (C := RX1) (T := TX1) (N := 7) hx hb hts (fun _ h => List.mem_cons_of_mem _ (List.mem_append_left _ (List.mem_append_left _ (List.mem_append_left _ (List.mem_append_left _ (List.mem_append_right _ (h))))))) hown hK hP kp2 ep2 rfl 5 (by decide) (hts _ (List.mem_of_getElem? (i := 3) rfl)) (fun _ h9 => h9) rfl dX4_turn_7 ?_
    refine lv_if_ne (tgt := 23) hx hb dX4_turn_10 (by decide) (fun c_10 => ?_) (fun c_10 => ?_)
    ·
      refine lv_aload_n hx hb dX4_turn_23 rfl (lv_at hl 0 rfl) ?_
      refine lv_aload_n hx hb dX4_turn_24 rfl (lv_at hl 0 rfl) ?_
      obtain ⟨kp3, ep3⟩ := (hR.fo (i := x) (by omega)).at
      refine va_get (D := D) (ci := 2) (v := .int (tu x)) (C := RX1) (T := TX1) (N := 7) hx hb hts (fun _ h => List.mem_cons_of_mem _ (List.mem_append_left _ (List.mem_append_left _ (List.mem_append_left _ (List.mem_append_left _ (List.mem_append_right _ (h))))))) hown hK hP kp3 ep3 rfl 6 (by decide) (hts _ (List.mem_of_getElem? (i := 4) rfl)) (fun _ h9 => h9) rfl dX4_turn_25 ?_
      refine top_eq (y := b2i (toB (tu x))) (by exact of_b2i (hBo.2.2.2 x)) ?_
      have J_36 : ∀ (z0 : Int32), z0 = (if (toB (tu x)) = true then 0 else 1) → ∀ (f : Nat → va_E) (H : Heap) (locs : List Loc), va_P D vwCl (va_pl L f) H → Rep cI cO L f tg AD mc F ik kp tu n he gv gp gb ob nm lo → va_S A s.heap H locs → ∀ ls : Array Slot, lv_has ls 3 [(0, .ref (AD 0 0)), (1, .int (nI x)), (2, .ref (AD 1 x))] → W p l e (headSpec wsX4_turn (rmr 4 85)).room s m args below meth c H locs 0 0 Q (F0 m 36 ls [.int z0, .ref (AD 1 x)]) := by
        intro z0 ez0 f H locs hP hR hS ls hl
        subst ez0
        refine top_eq (y := b2i (!toB (tu x))) (by exact nb_if _) ?_
        obtain ⟨kp4, ep4⟩ := (hR.fo (i := x) (by omega)).at
        refine va_put (D := D) (ci := 2) (v := .int (b2i (!toB (tu x)))) (ty := .boolean) (C := RX1) (T := TX1) (N := 7) hx hb hts (fun _ h => List.mem_cons_of_mem _ (List.mem_append_left _ (List.mem_append_left _ (List.mem_append_left _ (List.mem_append_left _ (List.mem_append_right _ (h))))))) tyX1 tyX1_ok nmX1 hown hK hP (pl_D hL hA) hS kp4 ep4 rfl 6 (by decide) (hts _ (List.mem_of_getElem? (i := 4) rfl)) (fun _ h9 => h9) rfl (by decide +kernel) (by exact nar_b2i _) (fit_b2i _) (Nat.le_of_ble_eq_true rfl) dX4_turn_36 (fun H locs hP _ hS => ?_)
        obtain ⟨f, hP, hR⟩ := hR.st_sw hL (by omega) ep4 hP
        refine lv_aload_n hx hb dX4_turn_39 rfl (lv_at hl 2 rfl) ?_
        obtain ⟨kp5, ep5⟩ := (hR.fo (i := x) (by omega)).at
        refine va_get (D := D) (ci := 2) (v := .int ((upd tu x (b2i (!toB (tu x)))) x)) (C := RX1) (T := TX1) (N := 7) hx hb hts (fun _ h => List.mem_cons_of_mem _ (List.mem_append_left _ (List.mem_append_left _ (List.mem_append_left _ (List.mem_append_left _ (List.mem_append_right _ (h))))))) hown hK hP kp5 ep5 rfl 6 (by decide) (hts _ (List.mem_of_getElem? (i := 4) rfl)) (fun _ h9 => h9) rfl dX4_turn_40 ?_
        refine top_eq (y := b2i (!toB (tu x))) (by exact pk_us) ?_
        subst hQ
        have hrt : (b2i (!toB (tu x)) : Int32) = b2i (!toB (tu x)) := by rfl
        exact W.zret (v := b2i (!toB (tu x))) hx hb hr (by rw [hrt]; exact nar_b2i _) (fun t ht hW => ⟨⟨_, (), rfl, hrt, ⟨_, by have e := hP; rw [← ht] at e; exact e, hR⟩⟩, hS.F ht⟩) hS.2.2 dX4_turn_43
      refine lv_if_ne (tgt := 35) hx hb dX4_turn_28 (by decide) (fun c_28 => ?_) (fun c_28 => ?_)
      ·
        have c_28 := b2i_1 c_28
        refine lv_iconst (v := 0) hx hb dX4_turn_35 (by decide) ?_
        exact J_36 _ ((if_pos c_28).symm) _ _ _ hP hR hS ls (lv_sub hl [1, 2, 0] rfl)
      ·
        have c_28 := b2i_0 c_28
        refine lv_iconst (v := 1) hx hb dX4_turn_31 (by decide) ?_
        refine lv_goto (tgt := 36) hx hb dX4_turn_32 (by decide) ?_
        exact J_36 _ ((if_neg (b2i_bf c_28)).symm) _ _ _ hP hR hS ls (lv_sub hl [1, 2, 0] rfl)
    ·
      exact absurd c_10 hk
  exact go _ _ _ hP hR hS

set_option maxHeartbeats 800000 in
set_option maxRecDepth 100000 in
theorem k_X4_rights (l : Launch) (D : va_G) (cI cZ cO : ClassId) {L : List Nat} {f : Nat → va_E} {tg : Nat → Nat} {AD : Nat → Nat → Nat} {mc : Nat → Int32} {F : Nat → Nat → Int32} {ik kp tu : Nat → Int32} {n : Nat} {he gv : Nat → Int32} {gp gb ob nm lo : Int32} (hR : Rep cI cO L f tg AD mc F ik kp tu n he gv gp gb ob nm lo) (x : Nat) (y : Nat)  (hM : okC F n) (hE : okE F n) (hyn : y < n) (hx8 : x < 8) : Met l yX4_rights wsX4_rights (rmr 4 91) (va_Pc [.ref (AD 0 0), .int (nI x), .int (nI y)] (rdP D ([(cI, .int), (cI, .int), (cO, .object "java/lang/Object")]) (va_pl L f))) (vp_Si (fun r => r = mRights F x y)) 0 0 (fun _ => False) := by
  refine Met.ofW (cc := cX4_rights) (maxL := 3) (ret := (some .int)) (by decide) rfl ?_
  intro p e s m args below meth c s₁ B hml hv
  obtain ⟨hargs, hP, hK, hN⟩ := hv
  have hx := B.exec
  have hb := B.bytes
  have hr := B.returns
  have hts := atoms_spec (ws := wsX4_rights) B.pre
  have hown : s.vm.findClass RX4 = some m.cls := findClass_of_methodNamed B.named
  have hlocks := B.notSynchronized
  have hen : entryFrame m args 3 = entryFrame m ([.ref (AD 0 0), .int (nI x), .int (nI y)] : List Value).toArray 3 := by rw [hargs]
  rw [hen]
  have hl := lv_entry ([.ref (AD 0 0), .int (nI x), .int (nI y)]) (n := 3) (Nat.le_of_ble_eq_true rfl)
  rw [lg_entry_eq]
  generalize (lg_sl ([.ref (AD 0 0), .int (nI x), .int (nI y)]) ++ List.replicate (3 - (lg_sl ([.ref (AD 0 0), .int (nI x), .int (nI y)])).length) Slot.unset).toArray = ls at hl ⊢
  have hl : lv_has ls 3 [(0, .ref (AD 0 0)), (1, .int (nI x)), (2, .int (nI y))] := hl
  generalize hQ : MQ below (vp_Si (fun r => r = mRights F x y)) args s 0 0 (fun _ => False) = Q
  refine lv_iload_n hx hb dX4_rights_0 rfl (lv_at hl 1 rfl) ?_
  refine va_csv (W.runS (As := [.int (nI x)]) (rest := []) ⟨hx, hb, hml, hown, hts⟩ (k_X4_refuseNoPerson l x (by omega)) (va_cwS 1 hts gX4_rights_X4_refuseNoPerson rfl rfl rfl (by decide +kernel) ⟨Nat.le_of_ble_eq_true rfl, Nat.le_of_ble_eq_true rfl⟩) ⟨nf_blind, fun U hU hW => ⟨rfl, trivial⟩⟩ rfl rfl hl.1 rfl (lv_room (Nat.le_of_ble_eq_true rfl)) dX4_rights_1 ⟨Nat.le_of_ble_eq_true rfl, Nat.le_of_ble_eq_true rfl⟩) (fun _ => ?_)
  refine lv_aload_n hx hb dX4_rights_4 rfl (lv_at hl 0 rfl) ?_
  refine lv_iload_n hx hb dX4_rights_5 rfl (lv_at hl 1 rfl) ?_
  refine lv_aload_n hx hb dX4_rights_6 rfl (lv_at hl 0 rfl) ?_
  refine lv_iload_n hx hb dX4_rights_7 rfl (lv_at hl 2 rfl) ?_
  obtain ⟨kp1, ep1⟩ := (hR.x).at
  refine va_csq (W.runV (As := [.int (nI y)]) (rest := [.int (nI x), .ref (AD 0 0)]) ⟨hx, hb, hml, hown, hts⟩ (k_X4_folderAt l D cI cZ cO hR y (by omega)) (cwV 1 hts gX4_rights_X4_folderAt rfl rfl rfl (by decide +kernel) ⟨Nat.le_of_ble_eq_true rfl, Nat.le_of_ble_eq_true rfl⟩) ⟨rd_blind, va_recv hK hP (ci := 5) (q0 := kp1) rfl ep1, rd_pre hP hK hN⟩ rfl rfl hl.1 rfl (lv_room (Nat.le_of_ble_eq_true rfl)) dX4_rights_8 ⟨Nat.le_of_ble_eq_true rfl, Nat.le_of_ble_eq_true rfl⟩) (fun r er => ?_)
  subst er
  refine top_rf (q := AD 1 y) rfl ?_
  obtain ⟨kp2, ep2⟩ := (hR.x).at
  refine vp_callSi (W.runV (As := [.int (nI x), .ref (AD 1 y)]) (rest := []) ⟨hx, hb, hml, hown, hts⟩ (k_X4_rightsByEntries l D cI cZ cO hR x y hM hE hyn) (cwV 2 hts gX4_rights_X4_rightsByEntries rfl rfl rfl (by decide +kernel) ⟨Nat.le_of_ble_eq_true rfl, Nat.le_of_ble_eq_true rfl⟩) ⟨rd_blind, va_recv hK hP (ci := 5) (q0 := kp2) rfl ep2, rd_pre hP hK hN⟩ rfl rfl hl.1 rfl (lv_room (Nat.le_of_ble_eq_true rfl)) dX4_rights_11 ⟨Nat.le_of_ble_eq_true rfl, Nat.le_of_ble_eq_true rfl⟩) (fun r er => ?_)
  subst er
  subst hQ
  exact W.iret (v := mRights F x y) hx hb hr (fun t ht _ => ⟨_, rfl, (by rfl), ht⟩) (fun _ h => absurd h List.not_mem_nil) dX4_rights_14

set_option maxHeartbeats 800000 in
set_option maxRecDepth 100000 in
theorem k_X4_rightsBackwards (l : Launch) (D : va_G) (cI cZ cO : ClassId) {L : List Nat} {f : Nat → va_E} {tg : Nat → Nat} {AD : Nat → Nat → Nat} {mc : Nat → Int32} {F : Nat → Nat → Int32} {ik kp tu : Nat → Int32} {n : Nat} {he gv : Nat → Int32} {gp gb ob nm lo : Int32} (hR : Rep cI cO L f tg AD mc F ik kp tu n he gv gp gb ob nm lo) (x : Nat) (y : Nat)  (hM : okC F n) (hE : okE F n) (hyn : y < n) (hx8 : x < 8) : Met l yX4_rightsBackwards wsX4_rightsBackwards (rmr 4 91) (va_Pc [.ref (AD 0 0), .int (nI x), .int (nI y)] (rdP D ([(cI, .int), (cI, .int), (cO, .object "java/lang/Object")]) (va_pl L f))) (vp_Si (fun r => r = mRights F x y)) 0 0 (fun _ => False) := by
  refine Met.ofW (cc := cX4_rightsBackwards) (maxL := 3) (ret := (some .int)) (by decide) rfl ?_
  intro p e s m args below meth c s₁ B hml hv
  obtain ⟨hargs, hP, hK, hN⟩ := hv
  have hx := B.exec
  have hb := B.bytes
  have hr := B.returns
  have hts := atoms_spec (ws := wsX4_rightsBackwards) B.pre
  have hown : s.vm.findClass RX4 = some m.cls := findClass_of_methodNamed B.named
  have hlocks := B.notSynchronized
  have hen : entryFrame m args 3 = entryFrame m ([.ref (AD 0 0), .int (nI x), .int (nI y)] : List Value).toArray 3 := by rw [hargs]
  rw [hen]
  have hl := lv_entry ([.ref (AD 0 0), .int (nI x), .int (nI y)]) (n := 3) (Nat.le_of_ble_eq_true rfl)
  rw [lg_entry_eq]
  generalize (lg_sl ([.ref (AD 0 0), .int (nI x), .int (nI y)]) ++ List.replicate (3 - (lg_sl ([.ref (AD 0 0), .int (nI x), .int (nI y)])).length) Slot.unset).toArray = ls at hl ⊢
  have hl : lv_has ls 3 [(0, .ref (AD 0 0)), (1, .int (nI x)), (2, .int (nI y))] := hl
  generalize hQ : MQ below (vp_Si (fun r => r = mRights F x y)) args s 0 0 (fun _ => False) = Q
  refine lv_iload_n hx hb dX4_rightsBackwards_0 rfl (lv_at hl 1 rfl) ?_
  refine va_csv (W.runS (As := [.int (nI x)]) (rest := []) ⟨hx, hb, hml, hown, hts⟩ (k_X4_refuseNoPerson l x (by omega)) (va_cwS 1 hts gX4_rightsBackwards_X4_refuseNoPerson rfl rfl rfl (by decide +kernel) ⟨Nat.le_of_ble_eq_true rfl, Nat.le_of_ble_eq_true rfl⟩) ⟨nf_blind, fun U hU hW => ⟨rfl, trivial⟩⟩ rfl rfl hl.1 rfl (lv_room (Nat.le_of_ble_eq_true rfl)) dX4_rightsBackwards_1 ⟨Nat.le_of_ble_eq_true rfl, Nat.le_of_ble_eq_true rfl⟩) (fun _ => ?_)
  refine lv_aload_n hx hb dX4_rightsBackwards_4 rfl (lv_at hl 0 rfl) ?_
  refine lv_iload_n hx hb dX4_rightsBackwards_5 rfl (lv_at hl 1 rfl) ?_
  refine lv_aload_n hx hb dX4_rightsBackwards_6 rfl (lv_at hl 0 rfl) ?_
  refine lv_iload_n hx hb dX4_rightsBackwards_7 rfl (lv_at hl 2 rfl) ?_
  obtain ⟨kp1, ep1⟩ := (hR.x).at
  refine va_csq (W.runV (As := [.int (nI y)]) (rest := [.int (nI x), .ref (AD 0 0)]) ⟨hx, hb, hml, hown, hts⟩ (k_X4_folderAt l D cI cZ cO hR y (by omega)) (cwV 1 hts gX4_rightsBackwards_X4_folderAt rfl rfl rfl (by decide +kernel) ⟨Nat.le_of_ble_eq_true rfl, Nat.le_of_ble_eq_true rfl⟩) ⟨rd_blind, va_recv hK hP (ci := 5) (q0 := kp1) rfl ep1, rd_pre hP hK hN⟩ rfl rfl hl.1 rfl (lv_room (Nat.le_of_ble_eq_true rfl)) dX4_rightsBackwards_8 ⟨Nat.le_of_ble_eq_true rfl, Nat.le_of_ble_eq_true rfl⟩) (fun r er => ?_)
  subst er
  refine top_rf (q := AD 1 y) rfl ?_
  obtain ⟨kp2, ep2⟩ := (hR.x).at
  refine vp_callSi (W.runV (As := [.int (nI x), .ref (AD 1 y)]) (rest := []) ⟨hx, hb, hml, hown, hts⟩ (k_X4_rightsByOverruling l D cI cZ cO hR x y hM hyn) (cwV 2 hts gX4_rightsBackwards_X4_rightsByOverruling rfl rfl rfl (by decide +kernel) ⟨Nat.le_of_ble_eq_true rfl, Nat.le_of_ble_eq_true rfl⟩) ⟨rd_blind, va_recv hK hP (ci := 5) (q0 := kp2) rfl ep2, rd_pre hP hK hN⟩ rfl rfl hl.1 rfl (lv_room (Nat.le_of_ble_eq_true rfl)) dX4_rightsBackwards_11 ⟨Nat.le_of_ble_eq_true rfl, Nat.le_of_ble_eq_true rfl⟩) (fun r er => ?_)
  subst er
  subst hQ
  exact W.iret (v := mRights F x y) hx hb hr (fun t ht _ => ⟨_, rfl, (by rfl), ht⟩) (fun _ h => absurd h List.not_mem_nil) dX4_rightsBackwards_14

set_option maxHeartbeats 800000 in
set_option maxRecDepth 100000 in
theorem k_X4_rightsNow (l : Launch) (D : va_G) (cI cZ cO : ClassId) {L : List Nat} {f : Nat → va_E} {tg : Nat → Nat} {AD : Nat → Nat → Nat} {mc : Nat → Int32} {F : Nat → Nat → Int32} {ik kp tu : Nat → Int32} {n : Nat} {he gv : Nat → Int32} {gp gb ob nm lo : Int32} (hR : Rep cI cO L f tg AD mc F ik kp tu n he gv gp gb ob nm lo) (x : Nat) (y : Nat)  (hM : okC F n) (hE : okE F n) (hyn : y < n) (hx8 : x < 8) : Met l yX4_rightsNow wsX4_rightsNow (rmr 5 113) (va_Pc [.ref (AD 0 0), .int (nI x), .int (nI y)] (rdP D ([(cI, .int), (cI, .int), (cO, .object "java/lang/Object")]) (va_pl L f))) (vp_Si (fun r => r = mNow F kp tu x y)) 0 0 (fun _ => False) := by
  refine Met.ofW (cc := cX4_rightsNow) (maxL := 3) (ret := (some .int)) (by decide) rfl ?_
  intro p e s m args below meth c s₁ B hml hv
  obtain ⟨hargs, hP, hK, hN⟩ := hv
  have hx := B.exec
  have hb := B.bytes
  have hr := B.returns
  have hts := atoms_spec (ws := wsX4_rightsNow) B.pre
  have hown : s.vm.findClass RX4 = some m.cls := findClass_of_methodNamed B.named
  have hlocks := B.notSynchronized
  have hen : entryFrame m args 3 = entryFrame m ([.ref (AD 0 0), .int (nI x), .int (nI y)] : List Value).toArray 3 := by rw [hargs]
  rw [hen]
  have hl := lv_entry ([.ref (AD 0 0), .int (nI x), .int (nI y)]) (n := 3) (Nat.le_of_ble_eq_true rfl)
  rw [lg_entry_eq]
  generalize (lg_sl ([.ref (AD 0 0), .int (nI x), .int (nI y)]) ++ List.replicate (3 - (lg_sl ([.ref (AD 0 0), .int (nI x), .int (nI y)])).length) Slot.unset).toArray = ls at hl ⊢
  have hl : lv_has ls 3 [(0, .ref (AD 0 0)), (1, .int (nI x)), (2, .int (nI y))] := hl
  generalize hQ : MQ below (vp_Si (fun r => r = mNow F kp tu x y)) args s 0 0 (fun _ => False) = Q
  refine lv_iload_n hx hb dX4_rightsNow_0 rfl (lv_at hl 1 rfl) ?_
  refine va_csv (W.runS (As := [.int (nI x)]) (rest := []) ⟨hx, hb, hml, hown, hts⟩ (k_X4_refuseNoPerson l x (by omega)) (va_cwS 1 hts gX4_rightsNow_X4_refuseNoPerson rfl rfl rfl (by decide +kernel) ⟨Nat.le_of_ble_eq_true rfl, Nat.le_of_ble_eq_true rfl⟩) ⟨nf_blind, fun U hU hW => ⟨rfl, trivial⟩⟩ rfl rfl hl.1 rfl (lv_room (Nat.le_of_ble_eq_true rfl)) dX4_rightsNow_1 ⟨Nat.le_of_ble_eq_true rfl, Nat.le_of_ble_eq_true rfl⟩) (fun _ => ?_)
  refine lv_aload_n hx hb dX4_rightsNow_4 rfl (lv_at hl 0 rfl) ?_
  refine lv_iload_n hx hb dX4_rightsNow_5 rfl (lv_at hl 1 rfl) ?_
  refine lv_aload_n hx hb dX4_rightsNow_6 rfl (lv_at hl 0 rfl) ?_
  refine lv_iload_n hx hb dX4_rightsNow_7 rfl (lv_at hl 2 rfl) ?_
  obtain ⟨kp1, ep1⟩ := (hR.x).at
  refine va_csq (W.runV (As := [.int (nI y)]) (rest := [.int (nI x), .ref (AD 0 0)]) ⟨hx, hb, hml, hown, hts⟩ (k_X4_folderAt l D cI cZ cO hR y (by omega)) (cwV 1 hts gX4_rightsNow_X4_folderAt rfl rfl rfl (by decide +kernel) ⟨Nat.le_of_ble_eq_true rfl, Nat.le_of_ble_eq_true rfl⟩) ⟨rd_blind, va_recv hK hP (ci := 5) (q0 := kp1) rfl ep1, rd_pre hP hK hN⟩ rfl rfl hl.1 rfl (lv_room (Nat.le_of_ble_eq_true rfl)) dX4_rightsNow_8 ⟨Nat.le_of_ble_eq_true rfl, Nat.le_of_ble_eq_true rfl⟩) (fun r er => ?_)
  subst er
  refine top_rf (q := AD 1 y) rfl ?_
  obtain ⟨kp2, ep2⟩ := (hR.x).at
  refine vp_callSi (W.runV (As := [.int (nI x), .ref (AD 1 y)]) (rest := []) ⟨hx, hb, hml, hown, hts⟩ (k_X4_currentRights l D cI cZ cO hR x y hM hE hyn hx8) (cwV 2 hts gX4_rightsNow_X4_currentRights rfl rfl rfl (by decide +kernel) ⟨Nat.le_of_ble_eq_true rfl, Nat.le_of_ble_eq_true rfl⟩) ⟨rd_blind, va_recv hK hP (ci := 5) (q0 := kp2) rfl ep2, rd_pre hP hK hN⟩ rfl rfl hl.1 rfl (lv_room (Nat.le_of_ble_eq_true rfl)) dX4_rightsNow_11 ⟨Nat.le_of_ble_eq_true rfl, Nat.le_of_ble_eq_true rfl⟩) (fun r er => ?_)
  subst er
  subst hQ
  exact W.iret (v := mNow F kp tu x y) hx hb hr (fun t ht _ => ⟨_, rfl, (by rfl), ht⟩) (fun _ h => absurd h List.not_mem_nil) dX4_rightsNow_14

set_option maxHeartbeats 800000 in
set_option maxRecDepth 100000 in
theorem k_X4_groupOf (l : Launch) (D : va_G) (cI cZ cO : ClassId) {L : List Nat} {f : Nat → va_E} {tg : Nat → Nat} {AD : Nat → Nat → Nat} {mc : Nat → Int32} {F : Nat → Nat → Int32} {ik kp tu : Nat → Int32} {n : Nat} {he gv : Nat → Int32} {gp gb ob nm lo : Int32} (hR : Rep cI cO L f tg AD mc F ik kp tu n he gv gp gb ob nm lo) (A : Nat → Prop) (hL : L.Nodup) (hA : ∀ a, a ∈ L → A a) (x : Nat)  (hM : okC F n) (hE : okE F n) (hxn : x < n)  : Met l yX4_groupOf wsX4_groupOf (rmr 6 139) (va_Pc [.ref (AD 0 0), .int (nI x)] (rdP D ([(cI, .int), (cI, .int), (cO, .object "java/lang/Object")]) (va_pl L f))) (va_Qi (fun (r : Int32) (_ : Unit) => r = mBest F o0 x) (fun _ t => PB D cI cO L tg AD mc F ik kp tu n (fillA he (fun p => mRights F p x) 8) (fillA gv (mV F o0 x (mBest F o0 x)) 8) (mBest F o0 x) (mGB F o0 x (mBest F o0 x)) (mOB F o0 x (mBest F o0 x)) (mN F o0 x (mBest F o0 x)) (mL F o0 x (mBest F o0 x)) t) A) 0 0 A := by
  refine Met.ofW (cc := cX4_groupOf) (maxL := 2) (ret := (some .int)) (by decide) rfl ?_
  intro p e s m args below meth c s₁ B hml hv
  obtain ⟨hargs, hP, hK, hN⟩ := hv
  have hx := B.exec
  have hb := B.bytes
  have hr := B.returns
  have hts := atoms_spec (ws := wsX4_groupOf) B.pre
  have hown : s.vm.findClass RX4 = some m.cls := findClass_of_methodNamed B.named
  have hlocks := B.notSynchronized
  have hen : entryFrame m args 2 = entryFrame m ([.ref (AD 0 0), .int (nI x)] : List Value).toArray 2 := by rw [hargs]
  rw [hen]
  have hl := lv_entry ([.ref (AD 0 0), .int (nI x)]) (n := 2) (Nat.le_of_ble_eq_true rfl)
  rw [lg_entry_eq]
  generalize (lg_sl ([.ref (AD 0 0), .int (nI x)]) ++ List.replicate (2 - (lg_sl ([.ref (AD 0 0), .int (nI x)])).length) Slot.unset).toArray = ls at hl ⊢
  have hl : lv_has ls 2 [(0, .ref (AD 0 0)), (1, .int (nI x))] := hl
  have hS : va_S A s.heap s.heap [] := va_S.rf
  generalize hQ : MQ below (va_Qi (fun (r : Int32) (_ : Unit) => r = mBest F o0 x) (fun _ t => PB D cI cO L tg AD mc F ik kp tu n (fillA he (fun p => mRights F p x) 8) (fillA gv (mV F o0 x (mBest F o0 x)) 8) (mBest F o0 x) (mGB F o0 x (mBest F o0 x)) (mOB F o0 x (mBest F o0 x)) (mN F o0 x (mBest F o0 x)) (mL F o0 x (mBest F o0 x)) t) A) args s 0 0 A = Q
  have go : ∀ (f : Nat → va_E) (H : Heap) (locs : List Loc), va_P D vwCl (va_pl L f) H → Rep cI cO L f tg AD mc F ik kp tu n he gv gp gb ob nm lo → va_S A s.heap H locs → W p l e (headSpec wsX4_groupOf (rmr 6 139)).room s m args below meth c H locs 0 0 Q (F0 m 0 ls []) := by
    intro f H locs hP hR hS
    refine lv_aload_n hx hb dX4_groupOf_0 rfl (lv_at hl 0 rfl) ?_
    refine lv_aload_n hx hb dX4_groupOf_1 rfl (lv_at hl 0 rfl) ?_
    refine lv_iload_n hx hb dX4_groupOf_2 rfl (lv_at hl 1 rfl) ?_
    obtain ⟨kp1, ep1⟩ := (hR.x).at
    refine va_csq (W.runV (As := [.int (nI x)]) (rest := [.ref (AD 0 0)]) ⟨hx, hb, hml, hown, hts⟩ (k_X4_folderAt l D cI cZ cO hR x (by omega)) (cwV 1 hts gX4_groupOf_X4_folderAt rfl rfl rfl (by decide +kernel) ⟨Nat.le_of_ble_eq_true rfl, Nat.le_of_ble_eq_true rfl⟩) ⟨rd_blind, va_recv hK hP (ci := 5) (q0 := kp1) rfl ep1, rd_pre hP hK hN⟩ rfl rfl hl.1 rfl (lv_room (Nat.le_of_ble_eq_true rfl)) dX4_groupOf_3 ⟨Nat.le_of_ble_eq_true rfl, Nat.le_of_ble_eq_true rfl⟩) (fun r er => ?_)
    subst er
    refine top_rf (q := AD 1 x) rfl ?_
    obtain ⟨kp2, ep2⟩ := (hR.x).at
    refine va_callq (va_runV (As := [.ref (AD 1 x)]) (rest := []) ⟨hx, hb, hml, hown, hts⟩ (k_X4_mappingOf l D cI cZ cO hR A hL hA x hM hE hxn) (cwV 1 hts gX4_groupOf_X4_mappingOf rfl rfl rfl (by decide +kernel) ⟨Nat.le_of_ble_eq_true rfl, Nat.le_of_ble_eq_true rfl⟩) ⟨rd_blind, va_recv hK hP (ci := 5) (q0 := kp2) rfl ep2, rd_pre hP hK hN⟩ rfl rfl hl.1 rfl (lv_room (Nat.le_of_ble_eq_true rfl)) dX4_groupOf_6 ⟨Nat.le_of_ble_eq_true rfl, Nat.le_of_ble_eq_true rfl⟩) hS (fun q _ h => h) (fun q h => h) (fun r u t H locs ht hvm hw hB hz1 hk1 hS => ?_)
    obtain ⟨f, hP, hR⟩ := hB
    rw [ht] at hP
    subst hw
    refine top_rf (q := AD 0 5) rfl ?_
    obtain ⟨kp3, ep3⟩ := (hR.mo).at
    refine va_get (D := D) (ci := 4) (v := .int (mBest F o0 x)) (C := RX3) (T := TX3) (N := 7) hx hb hts (fun _ h => List.mem_cons_of_mem _ (List.mem_append_left _ (List.mem_append_left _ (List.mem_append_left _ (List.mem_append_left _ (List.mem_append_left _ (List.mem_append_left _ (List.mem_append_right _ (h))))))))) hown hK hP kp3 ep3 rfl 2 (by decide) (hts _ (List.mem_of_getElem? (i := 1) rfl)) (fun _ h9 => h9) rfl dX4_groupOf_9 ?_
    subst hQ
    exact W.iret (v := (mBest F o0 x)) hx hb hr (fun t ht hW => ⟨⟨_, (), rfl, (by rfl), ⟨_, by have e := hP; rw [← ht] at e; exact e, hR⟩⟩, hS.F ht⟩) hS.2.2 dX4_groupOf_12
  exact go _ _ _ hP hR hS

set_option maxHeartbeats 800000 in
set_option maxRecDepth 100000 in
theorem k_X4_named (l : Launch) (D : va_G) (cI cZ cO : ClassId) {L : List Nat} {f : Nat → va_E} {tg : Nat → Nat} {AD : Nat → Nat → Nat} {mc : Nat → Int32} {F : Nat → Nat → Int32} {ik kp tu : Nat → Int32} {n : Nat} {he gv : Nat → Int32} {gp gb ob nm lo : Int32} (hR : Rep cI cO L f tg AD mc F ik kp tu n he gv gp gb ob nm lo) (A : Nat → Prop) (hL : L.Nodup) (hA : ∀ a, a ∈ L → A a) (x : Nat)  (hM : okC F n) (hE : okE F n) (hxn : x < n)  : Met l yX4_named wsX4_named (rmr 6 139) (va_Pc [.ref (AD 0 0), .int (nI x)] (rdP D ([(cI, .int), (cI, .int), (cO, .object "java/lang/Object")]) (va_pl L f))) (va_Qi (fun (r : Int32) (_ : Unit) => r = mN F o0 x (mBest F o0 x)) (fun _ t => PB D cI cO L tg AD mc F ik kp tu n (fillA he (fun p => mRights F p x) 8) (fillA gv (mV F o0 x (mBest F o0 x)) 8) (mBest F o0 x) (mGB F o0 x (mBest F o0 x)) (mOB F o0 x (mBest F o0 x)) (mN F o0 x (mBest F o0 x)) (mL F o0 x (mBest F o0 x)) t) A) 0 0 A := by
  refine Met.ofW (cc := cX4_named) (maxL := 2) (ret := (some .int)) (by decide) rfl ?_
  intro p e s m args below meth c s₁ B hml hv
  obtain ⟨hargs, hP, hK, hN⟩ := hv
  have hx := B.exec
  have hb := B.bytes
  have hr := B.returns
  have hts := atoms_spec (ws := wsX4_named) B.pre
  have hown : s.vm.findClass RX4 = some m.cls := findClass_of_methodNamed B.named
  have hlocks := B.notSynchronized
  have hen : entryFrame m args 2 = entryFrame m ([.ref (AD 0 0), .int (nI x)] : List Value).toArray 2 := by rw [hargs]
  rw [hen]
  have hl := lv_entry ([.ref (AD 0 0), .int (nI x)]) (n := 2) (Nat.le_of_ble_eq_true rfl)
  rw [lg_entry_eq]
  generalize (lg_sl ([.ref (AD 0 0), .int (nI x)]) ++ List.replicate (2 - (lg_sl ([.ref (AD 0 0), .int (nI x)])).length) Slot.unset).toArray = ls at hl ⊢
  have hl : lv_has ls 2 [(0, .ref (AD 0 0)), (1, .int (nI x))] := hl
  have hS : va_S A s.heap s.heap [] := va_S.rf
  generalize hQ : MQ below (va_Qi (fun (r : Int32) (_ : Unit) => r = mN F o0 x (mBest F o0 x)) (fun _ t => PB D cI cO L tg AD mc F ik kp tu n (fillA he (fun p => mRights F p x) 8) (fillA gv (mV F o0 x (mBest F o0 x)) 8) (mBest F o0 x) (mGB F o0 x (mBest F o0 x)) (mOB F o0 x (mBest F o0 x)) (mN F o0 x (mBest F o0 x)) (mL F o0 x (mBest F o0 x)) t) A) args s 0 0 A = Q
  have go : ∀ (f : Nat → va_E) (H : Heap) (locs : List Loc), va_P D vwCl (va_pl L f) H → Rep cI cO L f tg AD mc F ik kp tu n he gv gp gb ob nm lo → va_S A s.heap H locs → W p l e (headSpec wsX4_named (rmr 6 139)).room s m args below meth c H locs 0 0 Q (F0 m 0 ls []) := by
    intro f H locs hP hR hS
    refine lv_aload_n hx hb dX4_named_0 rfl (lv_at hl 0 rfl) ?_
    refine lv_aload_n hx hb dX4_named_1 rfl (lv_at hl 0 rfl) ?_
    refine lv_iload_n hx hb dX4_named_2 rfl (lv_at hl 1 rfl) ?_
    obtain ⟨kp1, ep1⟩ := (hR.x).at
    refine va_csq (W.runV (As := [.int (nI x)]) (rest := [.ref (AD 0 0)]) ⟨hx, hb, hml, hown, hts⟩ (k_X4_folderAt l D cI cZ cO hR x (by omega)) (cwV 1 hts gX4_named_X4_folderAt rfl rfl rfl (by decide +kernel) ⟨Nat.le_of_ble_eq_true rfl, Nat.le_of_ble_eq_true rfl⟩) ⟨rd_blind, va_recv hK hP (ci := 5) (q0 := kp1) rfl ep1, rd_pre hP hK hN⟩ rfl rfl hl.1 rfl (lv_room (Nat.le_of_ble_eq_true rfl)) dX4_named_3 ⟨Nat.le_of_ble_eq_true rfl, Nat.le_of_ble_eq_true rfl⟩) (fun r er => ?_)
    subst er
    refine top_rf (q := AD 1 x) rfl ?_
    obtain ⟨kp2, ep2⟩ := (hR.x).at
    refine va_callq (va_runV (As := [.ref (AD 1 x)]) (rest := []) ⟨hx, hb, hml, hown, hts⟩ (k_X4_mappingOf l D cI cZ cO hR A hL hA x hM hE hxn) (cwV 1 hts gX4_named_X4_mappingOf rfl rfl rfl (by decide +kernel) ⟨Nat.le_of_ble_eq_true rfl, Nat.le_of_ble_eq_true rfl⟩) ⟨rd_blind, va_recv hK hP (ci := 5) (q0 := kp2) rfl ep2, rd_pre hP hK hN⟩ rfl rfl hl.1 rfl (lv_room (Nat.le_of_ble_eq_true rfl)) dX4_named_6 ⟨Nat.le_of_ble_eq_true rfl, Nat.le_of_ble_eq_true rfl⟩) hS (fun q _ h => h) (fun q h => h) (fun r u t H locs ht hvm hw hB hz1 hk1 hS => ?_)
    obtain ⟨f, hP, hR⟩ := hB
    rw [ht] at hP
    subst hw
    refine top_rf (q := AD 0 5) rfl ?_
    obtain ⟨kp3, ep3⟩ := (hR.mo).at
    refine va_get (D := D) (ci := 4) (v := .int (mN F o0 x (mBest F o0 x))) (C := RX3) (T := TX3) (N := 7) hx hb hts (fun _ h => List.mem_cons_of_mem _ (List.mem_append_left _ (List.mem_append_left _ (List.mem_append_left _ (List.mem_append_left _ (List.mem_append_left _ (List.mem_append_left _ (List.mem_append_right _ (h))))))))) hown hK hP kp3 ep3 rfl 5 (by decide) (hts _ (List.mem_of_getElem? (i := 1) rfl)) (fun _ h9 => h9) rfl dX4_named_9 ?_
    subst hQ
    exact W.iret (v := mN F o0 x (mBest F o0 x)) hx hb hr (fun t ht hW => ⟨⟨_, (), rfl, (by rfl), ⟨_, by have e := hP; rw [← ht] at e; exact e, hR⟩⟩, hS.F ht⟩) hS.2.2 dX4_named_12
  exact go _ _ _ hP hR hS

set_option maxHeartbeats 800000 in
set_option maxRecDepth 100000 in
theorem k_X4_loss (l : Launch) (D : va_G) (cI cZ cO : ClassId) {L : List Nat} {f : Nat → va_E} {tg : Nat → Nat} {AD : Nat → Nat → Nat} {mc : Nat → Int32} {F : Nat → Nat → Int32} {ik kp tu : Nat → Int32} {n : Nat} {he gv : Nat → Int32} {gp gb ob nm lo : Int32} (hR : Rep cI cO L f tg AD mc F ik kp tu n he gv gp gb ob nm lo) (A : Nat → Prop) (hL : L.Nodup) (hA : ∀ a, a ∈ L → A a) (x : Nat)  (hM : okC F n) (hE : okE F n) (hxn : x < n)  : Met l yX4_loss wsX4_loss (rmr 6 139) (va_Pc [.ref (AD 0 0), .int (nI x)] (rdP D ([(cI, .int), (cI, .int), (cO, .object "java/lang/Object")]) (va_pl L f))) (va_Qi (fun (r : Int32) (_ : Unit) => r = mL F o0 x (mBest F o0 x)) (fun _ t => PB D cI cO L tg AD mc F ik kp tu n (fillA he (fun p => mRights F p x) 8) (fillA gv (mV F o0 x (mBest F o0 x)) 8) (mBest F o0 x) (mGB F o0 x (mBest F o0 x)) (mOB F o0 x (mBest F o0 x)) (mN F o0 x (mBest F o0 x)) (mL F o0 x (mBest F o0 x)) t) A) 0 0 A := by
  refine Met.ofW (cc := cX4_loss) (maxL := 2) (ret := (some .int)) (by decide) rfl ?_
  intro p e s m args below meth c s₁ B hml hv
  obtain ⟨hargs, hP, hK, hN⟩ := hv
  have hx := B.exec
  have hb := B.bytes
  have hr := B.returns
  have hts := atoms_spec (ws := wsX4_loss) B.pre
  have hown : s.vm.findClass RX4 = some m.cls := findClass_of_methodNamed B.named
  have hlocks := B.notSynchronized
  have hen : entryFrame m args 2 = entryFrame m ([.ref (AD 0 0), .int (nI x)] : List Value).toArray 2 := by rw [hargs]
  rw [hen]
  have hl := lv_entry ([.ref (AD 0 0), .int (nI x)]) (n := 2) (Nat.le_of_ble_eq_true rfl)
  rw [lg_entry_eq]
  generalize (lg_sl ([.ref (AD 0 0), .int (nI x)]) ++ List.replicate (2 - (lg_sl ([.ref (AD 0 0), .int (nI x)])).length) Slot.unset).toArray = ls at hl ⊢
  have hl : lv_has ls 2 [(0, .ref (AD 0 0)), (1, .int (nI x))] := hl
  have hS : va_S A s.heap s.heap [] := va_S.rf
  generalize hQ : MQ below (va_Qi (fun (r : Int32) (_ : Unit) => r = mL F o0 x (mBest F o0 x)) (fun _ t => PB D cI cO L tg AD mc F ik kp tu n (fillA he (fun p => mRights F p x) 8) (fillA gv (mV F o0 x (mBest F o0 x)) 8) (mBest F o0 x) (mGB F o0 x (mBest F o0 x)) (mOB F o0 x (mBest F o0 x)) (mN F o0 x (mBest F o0 x)) (mL F o0 x (mBest F o0 x)) t) A) args s 0 0 A = Q
  have go : ∀ (f : Nat → va_E) (H : Heap) (locs : List Loc), va_P D vwCl (va_pl L f) H → Rep cI cO L f tg AD mc F ik kp tu n he gv gp gb ob nm lo → va_S A s.heap H locs → W p l e (headSpec wsX4_loss (rmr 6 139)).room s m args below meth c H locs 0 0 Q (F0 m 0 ls []) := by
    intro f H locs hP hR hS
    refine lv_aload_n hx hb dX4_loss_0 rfl (lv_at hl 0 rfl) ?_
    refine lv_aload_n hx hb dX4_loss_1 rfl (lv_at hl 0 rfl) ?_
    refine lv_iload_n hx hb dX4_loss_2 rfl (lv_at hl 1 rfl) ?_
    obtain ⟨kp1, ep1⟩ := (hR.x).at
    refine va_csq (W.runV (As := [.int (nI x)]) (rest := [.ref (AD 0 0)]) ⟨hx, hb, hml, hown, hts⟩ (k_X4_folderAt l D cI cZ cO hR x (by omega)) (cwV 1 hts gX4_loss_X4_folderAt rfl rfl rfl (by decide +kernel) ⟨Nat.le_of_ble_eq_true rfl, Nat.le_of_ble_eq_true rfl⟩) ⟨rd_blind, va_recv hK hP (ci := 5) (q0 := kp1) rfl ep1, rd_pre hP hK hN⟩ rfl rfl hl.1 rfl (lv_room (Nat.le_of_ble_eq_true rfl)) dX4_loss_3 ⟨Nat.le_of_ble_eq_true rfl, Nat.le_of_ble_eq_true rfl⟩) (fun r er => ?_)
    subst er
    refine top_rf (q := AD 1 x) rfl ?_
    obtain ⟨kp2, ep2⟩ := (hR.x).at
    refine va_callq (va_runV (As := [.ref (AD 1 x)]) (rest := []) ⟨hx, hb, hml, hown, hts⟩ (k_X4_mappingOf l D cI cZ cO hR A hL hA x hM hE hxn) (cwV 1 hts gX4_loss_X4_mappingOf rfl rfl rfl (by decide +kernel) ⟨Nat.le_of_ble_eq_true rfl, Nat.le_of_ble_eq_true rfl⟩) ⟨rd_blind, va_recv hK hP (ci := 5) (q0 := kp2) rfl ep2, rd_pre hP hK hN⟩ rfl rfl hl.1 rfl (lv_room (Nat.le_of_ble_eq_true rfl)) dX4_loss_6 ⟨Nat.le_of_ble_eq_true rfl, Nat.le_of_ble_eq_true rfl⟩) hS (fun q _ h => h) (fun q h => h) (fun r u t H locs ht hvm hw hB hz1 hk1 hS => ?_)
    obtain ⟨f, hP, hR⟩ := hB
    rw [ht] at hP
    subst hw
    refine top_rf (q := AD 0 5) rfl ?_
    obtain ⟨kp3, ep3⟩ := (hR.mo).at
    refine va_get (D := D) (ci := 4) (v := .int (mL F o0 x (mBest F o0 x))) (C := RX3) (T := TX3) (N := 7) hx hb hts (fun _ h => List.mem_cons_of_mem _ (List.mem_append_left _ (List.mem_append_left _ (List.mem_append_left _ (List.mem_append_left _ (List.mem_append_left _ (List.mem_append_left _ (List.mem_append_right _ (h))))))))) hown hK hP kp3 ep3 rfl 6 (by decide) (hts _ (List.mem_of_getElem? (i := 1) rfl)) (fun _ h9 => h9) rfl dX4_loss_9 ?_
    subst hQ
    exact W.iret (v := mL F o0 x (mBest F o0 x)) hx hb hr (fun t ht hW => ⟨⟨_, (), rfl, (by rfl), ⟨_, by have e := hP; rw [← ht] at e; exact e, hR⟩⟩, hS.F ht⟩) hS.2.2 dX4_loss_12
  exact go _ _ _ hP hR hS

set_option maxHeartbeats 800000 in
set_option maxRecDepth 100000 in
theorem k_X4_mapped (l : Launch) (D : va_G) (cI cZ cO : ClassId) {L : List Nat} {f : Nat → va_E} {tg : Nat → Nat} {AD : Nat → Nat → Nat} {mc : Nat → Int32} {F : Nat → Nat → Int32} {ik kp tu : Nat → Int32} {n : Nat} {he gv : Nat → Int32} {gp gb ob nm lo : Int32} (hR : Rep cI cO L f tg AD mc F ik kp tu n he gv gp gb ob nm lo) (A : Nat → Prop) (hL : L.Nodup) (hA : ∀ a, a ∈ L → A a) (x : Nat) (y : Nat)  (hM : okC F n) (hE : okE F n) (hyn : y < n) (hx8 : x < 8) : Met l yX4_mapped wsX4_mapped (rmr 6 139) (va_Pc [.ref (AD 0 0), .int (nI x), .int (nI y)] (rdP D ([(cI, .int), (cI, .int), (cO, .object "java/lang/Object")]) (va_pl L f))) (va_Qi (fun (r : Int32) (_ : Unit) => r = mV F o0 y (mBest F o0 y) x) (fun _ t => PB D cI cO L tg AD mc F ik kp tu n (fillA he (fun p => mRights F p y) 8) (fillA gv (mV F o0 y (mBest F o0 y)) 8) (mBest F o0 y) (mGB F o0 y (mBest F o0 y)) (mOB F o0 y (mBest F o0 y)) (mN F o0 y (mBest F o0 y)) (mL F o0 y (mBest F o0 y)) t) A) 0 0 A := by
  refine Met.ofW (cc := cX4_mapped) (maxL := 3) (ret := (some .int)) (by decide) rfl ?_
  intro p e s m args below meth c s₁ B hml hv
  obtain ⟨hargs, hP, hK, hN⟩ := hv
  have hx := B.exec
  have hb := B.bytes
  have hr := B.returns
  have hts := atoms_spec (ws := wsX4_mapped) B.pre
  have hown : s.vm.findClass RX4 = some m.cls := findClass_of_methodNamed B.named
  have hlocks := B.notSynchronized
  have hen : entryFrame m args 3 = entryFrame m ([.ref (AD 0 0), .int (nI x), .int (nI y)] : List Value).toArray 3 := by rw [hargs]
  rw [hen]
  have hl := lv_entry ([.ref (AD 0 0), .int (nI x), .int (nI y)]) (n := 3) (Nat.le_of_ble_eq_true rfl)
  rw [lg_entry_eq]
  generalize (lg_sl ([.ref (AD 0 0), .int (nI x), .int (nI y)]) ++ List.replicate (3 - (lg_sl ([.ref (AD 0 0), .int (nI x), .int (nI y)])).length) Slot.unset).toArray = ls at hl ⊢
  have hl : lv_has ls 3 [(0, .ref (AD 0 0)), (1, .int (nI x)), (2, .int (nI y))] := hl
  have hS : va_S A s.heap s.heap [] := va_S.rf
  generalize hQ : MQ below (va_Qi (fun (r : Int32) (_ : Unit) => r = mV F o0 y (mBest F o0 y) x) (fun _ t => PB D cI cO L tg AD mc F ik kp tu n (fillA he (fun p => mRights F p y) 8) (fillA gv (mV F o0 y (mBest F o0 y)) 8) (mBest F o0 y) (mGB F o0 y (mBest F o0 y)) (mOB F o0 y (mBest F o0 y)) (mN F o0 y (mBest F o0 y)) (mL F o0 y (mBest F o0 y)) t) A) args s 0 0 A = Q
  have go : ∀ (f : Nat → va_E) (H : Heap) (locs : List Loc), va_P D vwCl (va_pl L f) H → Rep cI cO L f tg AD mc F ik kp tu n he gv gp gb ob nm lo → va_S A s.heap H locs → W p l e (headSpec wsX4_mapped (rmr 6 139)).room s m args below meth c H locs 0 0 Q (F0 m 0 ls []) := by
    intro f H locs hP hR hS
    refine lv_iload_n hx hb dX4_mapped_0 rfl (lv_at hl 1 rfl) ?_
    refine va_csv (W.runS (As := [.int (nI x)]) (rest := []) ⟨hx, hb, hml, hown, hts⟩ (k_X4_refuseNoPerson l x (by omega)) (va_cwS 1 hts gX4_mapped_X4_refuseNoPerson rfl rfl rfl (by decide +kernel) ⟨Nat.le_of_ble_eq_true rfl, Nat.le_of_ble_eq_true rfl⟩) ⟨nf_blind, fun U hU hW => ⟨rfl, trivial⟩⟩ rfl rfl hl.1 rfl (lv_room (Nat.le_of_ble_eq_true rfl)) dX4_mapped_1 ⟨Nat.le_of_ble_eq_true rfl, Nat.le_of_ble_eq_true rfl⟩) (fun _ => ?_)
    refine lv_aload_n hx hb dX4_mapped_4 rfl (lv_at hl 0 rfl) ?_
    refine lv_aload_n hx hb dX4_mapped_5 rfl (lv_at hl 0 rfl) ?_
    refine lv_iload_n hx hb dX4_mapped_6 rfl (lv_at hl 2 rfl) ?_
    obtain ⟨kp1, ep1⟩ := (hR.x).at
    refine va_csq (W.runV (As := [.int (nI y)]) (rest := [.ref (AD 0 0)]) ⟨hx, hb, hml, hown, hts⟩ (k_X4_folderAt l D cI cZ cO hR y (by omega)) (cwV 1 hts gX4_mapped_X4_folderAt rfl rfl rfl (by decide +kernel) ⟨Nat.le_of_ble_eq_true rfl, Nat.le_of_ble_eq_true rfl⟩) ⟨rd_blind, va_recv hK hP (ci := 5) (q0 := kp1) rfl ep1, rd_pre hP hK hN⟩ rfl rfl hl.1 rfl (lv_room (Nat.le_of_ble_eq_true rfl)) dX4_mapped_7 ⟨Nat.le_of_ble_eq_true rfl, Nat.le_of_ble_eq_true rfl⟩) (fun r er => ?_)
    subst er
    refine top_rf (q := AD 1 y) rfl ?_
    obtain ⟨kp2, ep2⟩ := (hR.x).at
    refine va_callq (va_runV (As := [.ref (AD 1 y)]) (rest := []) ⟨hx, hb, hml, hown, hts⟩ (k_X4_mappingOf l D cI cZ cO hR A hL hA y hM hE hyn) (cwV 1 hts gX4_mapped_X4_mappingOf rfl rfl rfl (by decide +kernel) ⟨Nat.le_of_ble_eq_true rfl, Nat.le_of_ble_eq_true rfl⟩) ⟨rd_blind, va_recv hK hP (ci := 5) (q0 := kp2) rfl ep2, rd_pre hP hK hN⟩ rfl rfl hl.1 rfl (lv_room (Nat.le_of_ble_eq_true rfl)) dX4_mapped_10 ⟨Nat.le_of_ble_eq_true rfl, Nat.le_of_ble_eq_true rfl⟩) hS (fun q _ h => h) (fun q h => h) (fun r u t H locs ht hvm hw hB hz1 hk1 hS => ?_)
    obtain ⟨f, hP, hR⟩ := hB
    rw [ht] at hP
    subst hw
    refine top_rf (q := AD 0 5) rfl ?_
    obtain ⟨kp3, ep3⟩ := (hR.mo).at
    refine va_get (D := D) (ci := 4) (v := .ref (AD 0 7)) (C := RX3) (T := TX3) (N := 7) hx hb hts (fun _ h => List.mem_cons_of_mem _ (List.mem_append_left _ (List.mem_append_left _ (List.mem_append_left _ (List.mem_append_left _ (List.mem_append_left _ (List.mem_append_left _ (List.mem_append_right _ (h))))))))) hown hK hP kp3 ep3 rfl 1 (by decide) (hts _ (List.mem_of_getElem? (i := 1) rfl)) (fun _ h9 => h9) rfl dX4_mapped_13 ?_
    refine lv_iload_n hx hb dX4_mapped_16 rfl (lv_at hl 1 rfl) ?_
    obtain ⟨kp4, ep4⟩ := (hR.mg).at
    refine ld_i (k := x) hx hb hK hP kp4 0 ep4 rfl (by omega) (by decide) dX4_mapped_17 ?_
    subst hQ
    exact W.iret (v := (fillA gv (mV F o0 y (mBest F o0 y)) 8) x) hx hb hr (fun t ht hW => ⟨⟨_, (), rfl, (by rw [fillA_get, if_pos hx8]), ⟨_, by have e := hP; rw [← ht] at e; exact e, hR⟩⟩, hS.F ht⟩) hS.2.2 dX4_mapped_18
  exact go _ _ _ hP hR hS

set_option maxHeartbeats 800000 in
set_option maxRecDepth 100000 in
theorem k_X4_lossWith (l : Launch) (D : va_G) (cI cZ cO : ClassId) {L : List Nat} {f : Nat → va_E} {tg : Nat → Nat} {AD : Nat → Nat → Nat} {mc : Nat → Int32} {F : Nat → Nat → Int32} {ik kp tu : Nat → Int32} {n : Nat} {he gv : Nat → Int32} {gp gb ob nm lo : Int32} (hR : Rep cI cO L f tg AD mc F ik kp tu n he gv gp gb ob nm lo) (A : Nat → Prop) (hL : L.Nodup) (hA : ∀ a, a ∈ L → A a) (x : Nat) (gi : Int32)  (hM : okC F n) (hE : okE F n) (hxn : x < n) (hg : gi = -1 ∨ ∃ k, k < 6 ∧ gi = nI k) : Met l yX4_lossWith wsX4_lossWith (rmr 5 115) (va_Pc [.ref (AD 0 0), .int (nI x), .int gi] (rdP D ([(cI, .int), (cI, .int), (cO, .object "java/lang/Object")]) (va_pl L f))) (va_Qi (fun (r : Int32) (_ : Unit) => r = mL F o0 x gi) (fun _ t => PB D cI cO L tg AD mc F ik kp tu n (fillA he (fun p => mRights F p x) 8) (fillA gv (mV F o0 x gi) 8) gi (mGB F o0 x gi) (mOB F o0 x gi) (mN F o0 x gi) (mL F o0 x gi) t) A) 0 0 A := by
  refine Met.ofW (cc := cX4_lossWith) (maxL := 4) (ret := (some .int)) (by decide) rfl ?_
  intro p e s m args below meth c s₁ B hml hv
  obtain ⟨hargs, hP, hK, hN⟩ := hv
  have hx := B.exec
  have hb := B.bytes
  have hr := B.returns
  have hts := atoms_spec (ws := wsX4_lossWith) B.pre
  have hown : s.vm.findClass RX4 = some m.cls := findClass_of_methodNamed B.named
  have hlocks := B.notSynchronized
  have hen : entryFrame m args 4 = entryFrame m ([.ref (AD 0 0), .int (nI x), .int gi] : List Value).toArray 4 := by rw [hargs]
  rw [hen]
  have hl := lv_entry ([.ref (AD 0 0), .int (nI x), .int gi]) (n := 4) (Nat.le_of_ble_eq_true rfl)
  rw [lg_entry_eq]
  generalize (lg_sl ([.ref (AD 0 0), .int (nI x), .int gi]) ++ List.replicate (4 - (lg_sl ([.ref (AD 0 0), .int (nI x), .int gi])).length) Slot.unset).toArray = ls at hl ⊢
  have hl : lv_has ls 4 [(0, .ref (AD 0 0)), (1, .int (nI x)), (2, .int gi)] := hl
  have hS : va_S A s.heap s.heap [] := va_S.rf
  generalize hQ : MQ below (va_Qi (fun (r : Int32) (_ : Unit) => r = mL F o0 x gi) (fun _ t => PB D cI cO L tg AD mc F ik kp tu n (fillA he (fun p => mRights F p x) 8) (fillA gv (mV F o0 x gi) 8) gi (mGB F o0 x gi) (mOB F o0 x gi) (mN F o0 x gi) (mL F o0 x gi) t) A) args s 0 0 A = Q
  have go : ∀ (f : Nat → va_E) (H : Heap) (locs : List Loc), va_P D vwCl (va_pl L f) H → Rep cI cO L f tg AD mc F ik kp tu n he gv gp gb ob nm lo → va_S A s.heap H locs → W p l e (headSpec wsX4_lossWith (rmr 5 115)).room s m args below meth c H locs 0 0 Q (F0 m 0 ls []) := by
    intro f H locs hP hR hS
    refine lv_aload_n hx hb dX4_lossWith_0 rfl (lv_at hl 0 rfl) ?_
    refine lv_iload_n hx hb dX4_lossWith_1 rfl (lv_at hl 1 rfl) ?_
    obtain ⟨kp1, ep1⟩ := (hR.x).at
    refine va_csq (W.runV (As := [.int (nI x)]) (rest := []) ⟨hx, hb, hml, hown, hts⟩ (k_X4_folderAt l D cI cZ cO hR x (by omega)) (cwV 1 hts gX4_lossWith_X4_folderAt rfl rfl rfl (by decide +kernel) ⟨Nat.le_of_ble_eq_true rfl, Nat.le_of_ble_eq_true rfl⟩) ⟨rd_blind, va_recv hK hP (ci := 5) (q0 := kp1) rfl ep1, rd_pre hP hK hN⟩ rfl rfl hl.1 rfl (lv_room (Nat.le_of_ble_eq_true rfl)) dX4_lossWith_2 ⟨Nat.le_of_ble_eq_true rfl, Nat.le_of_ble_eq_true rfl⟩) (fun r er => ?_)
    subst er
    refine top_rf (q := AD 1 x) rfl ?_
    refine lv_astore_n (lv' := [(3, .ref (AD 1 x)), (0, .ref (AD 0 0)), (1, .int (nI x)), (2, .int gi)]) hx hb dX4_lossWith_5 rfl hl (by decide) rfl (fun ls hl => ?_)
    refine lv_iload_n hx hb dX4_lossWith_6 rfl (lv_at hl 3 rfl) ?_
    refine lv_iconst (v := (-1)) hx hb dX4_lossWith_7 (by decide) ?_
    have J_15 : ∀ (f : Nat → va_E) (H : Heap) (locs : List Loc), va_P D vwCl (va_pl L f) H → Rep cI cO L f tg AD mc F ik kp tu n he gv gp gb ob nm lo → va_S A s.heap H locs → ∀ ls : Array Slot, lv_has ls 4 [(0, .ref (AD 0 0)), (1, .int (nI x)), (2, .int gi), (3, .ref (AD 1 x))] → W p l e (headSpec wsX4_lossWith (rmr 5 115)).room s m args below meth c H locs 0 0 Q (F0 m 15 ls []) := by
      intro  f H locs hP hR hS ls hl
      refine lv_aload_n hx hb dX4_lossWith_15 rfl (lv_at hl 0 rfl) ?_
      refine lv_aload_n hx hb dX4_lossWith_16 rfl (lv_at hl 3 rfl) ?_
      obtain ⟨kp2, ep2⟩ := (hR.x).at
      refine va_callv (va_runV (As := [.ref (AD 1 x)]) (rest := []) ⟨hx, hb, hml, hown, hts⟩ (k_X4_findHeld l D cI cZ cO hR A hL hA x hM hE hxn) (cwV 1 hts gX4_lossWith_X4_findHeld rfl rfl rfl (by decide +kernel) ⟨Nat.le_of_ble_eq_true rfl, Nat.le_of_ble_eq_true rfl⟩) ⟨rd_blind, va_recv hK hP (ci := 5) (q0 := kp2) rfl ep2, rd_pre hP hK hN⟩ rfl rfl hl.1 rfl (lv_room (Nat.le_of_ble_eq_true rfl)) dX4_lossWith_17 ⟨Nat.le_of_ble_eq_true rfl, Nat.le_of_ble_eq_true rfl⟩) hS (fun q _ h => h) (fun q h => h) (fun u t H locs ht hvm hw hB hz1 hk1 hS => ?_)
      obtain ⟨f, hP, hR⟩ := hB
      rw [ht] at hP
      refine lv_aload_n hx hb dX4_lossWith_20 rfl (lv_at hl 0 rfl) ?_
      refine lv_aload_n hx hb dX4_lossWith_21 rfl (lv_at hl 3 rfl) ?_
      refine lv_iload_n hx hb dX4_lossWith_22 rfl (lv_at hl 2 rfl) ?_
      obtain ⟨kp3, ep3⟩ := (hR.x).at
      refine va_callv (va_runV (As := [.ref (AD 1 x), .int gi]) (rest := []) ⟨hx, hb, hml, hown, hts⟩ (k_X4_mapWith l D cI cZ cO hR A hL hA x gi hM hE hxn (agr_fill _ _) hg) (cwV 2 hts gX4_lossWith_X4_mapWith rfl rfl rfl (by decide +kernel) ⟨Nat.le_of_ble_eq_true rfl, Nat.le_of_ble_eq_true rfl⟩) ⟨rd_blind, va_recv hK hP (ci := 5) (q0 := kp3) rfl ep3, rd_pre hP hK hN⟩ rfl rfl hl.1 rfl (lv_room (Nat.le_of_ble_eq_true rfl)) dX4_lossWith_23 ⟨Nat.le_of_ble_eq_true rfl, Nat.le_of_ble_eq_true rfl⟩) hS (fun q _ h => h) (fun q h => h) (fun u t H locs ht hvm hw hB hz1 hk1 hS => ?_)
      obtain ⟨f, hP, hR⟩ := hB
      rw [ht] at hP
      refine lv_aload_n hx hb dX4_lossWith_26 rfl (lv_at hl 0 rfl) ?_
      obtain ⟨kp4, ep4⟩ := (hR.x).at
      refine va_get (D := D) (ci := 5) (v := .ref (AD 0 5)) (C := RX4) (T := TX4) (N := 3) hx hb hts (fun _ h => List.mem_cons_of_mem _ (List.mem_append_left _ (List.mem_append_left _ (List.mem_append_left _ (List.mem_append_left _ (List.mem_append_left _ (List.mem_append_left _ (List.mem_append_right _ (h))))))))) hown hK hP kp4 ep4 rfl 2 (by decide) (hts _ (List.mem_of_getElem? (i := 1) rfl)) (fun _ h9 => h9) rfl dX4_lossWith_27 ?_
      obtain ⟨kp5, ep5⟩ := (hR.mo).at
      refine va_get (D := D) (ci := 4) (v := .int (mL F o0 x gi)) (C := RX3) (T := TX3) (N := 7) hx hb hts (fun _ h => List.mem_cons_of_mem _ (List.mem_append_left _ (List.mem_append_left _ (List.mem_append_left _ (List.mem_append_left _ (List.mem_append_left _ (List.mem_append_right _ (h)))))))) hown hK hP kp5 ep5 rfl 6 (by decide) (hts _ (List.mem_of_getElem? (i := 2) rfl)) (fun _ h9 => h9) rfl dX4_lossWith_30 ?_
      subst hQ
      exact W.iret (v := mL F o0 x gi) hx hb hr (fun t ht hW => ⟨⟨_, (), rfl, (by rfl), ⟨_, by have e := hP; rw [← ht] at e; exact e, hR⟩⟩, hS.F ht⟩) hS.2.2 dX4_lossWith_33
    refine lv_icmp_eq (tgt := 15) hx hb dX4_lossWith_8 (by decide) (fun c_8 => ?_) (fun c_8 => ?_)
    ·
      exact J_15 _ _ _ hP hR hS ls (lv_sub hl [1, 2, 3, 0] rfl)
    ·
      refine lv_iload_n hx hb dX4_lossWith_11 rfl (lv_at hl 3 rfl) ?_
      refine top_eq (y := nI (i2n gi)) (by exact grp_nat hg c_8) ?_
      refine va_csv (W.runS (As := [.int (nI (i2n gi))]) (rest := []) ⟨hx, hb, hml, hown, hts⟩ (k_X4_refuseNoGroup l (i2n gi) (grp6 hg c_8)) (va_cwS 1 hts gX4_lossWith_X4_refuseNoGroup rfl rfl rfl (by decide +kernel) ⟨Nat.le_of_ble_eq_true rfl, Nat.le_of_ble_eq_true rfl⟩) ⟨nf_blind, fun U hU hW => ⟨rfl, trivial⟩⟩ rfl rfl hl.1 rfl (lv_room (Nat.le_of_ble_eq_true rfl)) dX4_lossWith_12 ⟨Nat.le_of_ble_eq_true rfl, Nat.le_of_ble_eq_true rfl⟩) (fun _ => ?_)
      exact J_15 _ _ _ hP hR hS ls (lv_sub hl [1, 2, 3, 0] rfl)
  exact go _ _ _ hP hR hS

set_option maxHeartbeats 800000 in
set_option maxRecDepth 100000 in
theorem k_X4_isFresh (l : Launch) (D : va_G) (cI cZ cO : ClassId) {L : List Nat} {f : Nat → va_E} {tg : Nat → Nat} {AD : Nat → Nat → Nat} {mc : Nat → Int32} {F : Nat → Nat → Int32} {ik kp tu : Nat → Int32} {n : Nat} {he gv : Nat → Int32} {gp gb ob nm lo : Int32} (hR : Rep cI cO L f tg AD mc F ik kp tu n he gv gp gb ob nm lo) (A : Nat → Prop) (hL : L.Nodup) (hA : ∀ a, a ∈ L → A a) (x : Nat)  (hM : okC F n) (hE : okE F n) (hxn : x < n)  : Met l yX4_isFresh wsX4_isFresh (rmr 6 139) (va_Pc [.ref (AD 0 0), .int (nI x)] (rdP D ([(cI, .int), (cI, .int), (cO, .object "java/lang/Object")]) (va_pl L f))) (va_Qi (fun (r : Int32) (_ : Unit) => r = b2i (frB ik kp (mMP F o0 gv x) x 8)) (fun _ t => PB D cI cO L tg AD mc F ik kp tu n (fillA he (fun p => mRights F p x) 8) (fillA gv (mV F o0 x (mBest F o0 x)) 8) (mBest F o0 x) (mGB F o0 x (mBest F o0 x)) (mOB F o0 x (mBest F o0 x)) (mN F o0 x (mBest F o0 x)) (mL F o0 x (mBest F o0 x)) t) A) 0 0 A := by
  refine Met.ofW (cc := cX4_isFresh) (maxL := 3) (ret := (some .boolean)) (by decide) rfl ?_
  intro p e s m args below meth c s₁ B hml hv
  obtain ⟨hargs, hP, hK, hN⟩ := hv
  have hx := B.exec
  have hb := B.bytes
  have hr := B.returns
  have hts := atoms_spec (ws := wsX4_isFresh) B.pre
  have hown : s.vm.findClass RX4 = some m.cls := findClass_of_methodNamed B.named
  have hlocks := B.notSynchronized
  have hen : entryFrame m args 3 = entryFrame m ([.ref (AD 0 0), .int (nI x)] : List Value).toArray 3 := by rw [hargs]
  rw [hen]
  have hl := lv_entry ([.ref (AD 0 0), .int (nI x)]) (n := 3) (Nat.le_of_ble_eq_true rfl)
  rw [lg_entry_eq]
  generalize (lg_sl ([.ref (AD 0 0), .int (nI x)]) ++ List.replicate (3 - (lg_sl ([.ref (AD 0 0), .int (nI x)])).length) Slot.unset).toArray = ls at hl ⊢
  have hl : lv_has ls 3 [(0, .ref (AD 0 0)), (1, .int (nI x))] := hl
  have hS : va_S A s.heap s.heap [] := va_S.rf
  generalize hQ : MQ below (va_Qi (fun (r : Int32) (_ : Unit) => r = b2i (frB ik kp (mMP F o0 gv x) x 8)) (fun _ t => PB D cI cO L tg AD mc F ik kp tu n (fillA he (fun p => mRights F p x) 8) (fillA gv (mV F o0 x (mBest F o0 x)) 8) (mBest F o0 x) (mGB F o0 x (mBest F o0 x)) (mOB F o0 x (mBest F o0 x)) (mN F o0 x (mBest F o0 x)) (mL F o0 x (mBest F o0 x)) t) A) args s 0 0 A = Q
  have go : ∀ (f : Nat → va_E) (H : Heap) (locs : List Loc), va_P D vwCl (va_pl L f) H → Rep cI cO L f tg AD mc F ik kp tu n he gv gp gb ob nm lo → va_S A s.heap H locs → W p l e (headSpec wsX4_isFresh (rmr 6 139)).room s m args below meth c H locs 0 0 Q (F0 m 0 ls []) := by
    intro f H locs hP hR hS
    refine lv_aload_n hx hb dX4_isFresh_0 rfl (lv_at hl 0 rfl) ?_
    refine lv_iload_n hx hb dX4_isFresh_1 rfl (lv_at hl 1 rfl) ?_
    obtain ⟨kp1, ep1⟩ := (hR.x).at
    refine va_csq (W.runV (As := [.int (nI x)]) (rest := []) ⟨hx, hb, hml, hown, hts⟩ (k_X4_folderAt l D cI cZ cO hR x (by omega)) (cwV 1 hts gX4_isFresh_X4_folderAt rfl rfl rfl (by decide +kernel) ⟨Nat.le_of_ble_eq_true rfl, Nat.le_of_ble_eq_true rfl⟩) ⟨rd_blind, va_recv hK hP (ci := 5) (q0 := kp1) rfl ep1, rd_pre hP hK hN⟩ rfl rfl hl.1 rfl (lv_room (Nat.le_of_ble_eq_true rfl)) dX4_isFresh_2 ⟨Nat.le_of_ble_eq_true rfl, Nat.le_of_ble_eq_true rfl⟩) (fun r er => ?_)
    subst er
    refine top_rf (q := AD 1 x) rfl ?_
    refine lv_astore_n (lv' := [(2, .ref (AD 1 x)), (0, .ref (AD 0 0)), (1, .int (nI x))]) hx hb dX4_isFresh_5 rfl hl (by decide) rfl (fun ls hl => ?_)
    refine lv_aload_n hx hb dX4_isFresh_6 rfl (lv_at hl 0 rfl) ?_
    refine lv_aload_n hx hb dX4_isFresh_7 rfl (lv_at hl 1 rfl) ?_
    refine lv_aload_n hx hb dX4_isFresh_8 rfl (lv_at hl 0 rfl) ?_
    obtain ⟨kp2, ep2⟩ := (hR.x).at
    refine va_callq (va_runV (As := [.ref (AD 1 x)]) (rest := [.ref (AD 1 x)]) ⟨hx, hb, hml, hown, hts⟩ (k_X4_mappingOf l D cI cZ cO hR A hL hA x hM hE hxn) (cwV 1 hts gX4_isFresh_X4_mappingOf rfl rfl rfl (by decide +kernel) ⟨Nat.le_of_ble_eq_true rfl, Nat.le_of_ble_eq_true rfl⟩) ⟨rd_blind, va_recv hK hP (ci := 5) (q0 := kp2) rfl ep2, rd_pre hP hK hN⟩ rfl rfl hl.1 rfl (lv_room (Nat.le_of_ble_eq_true rfl)) dX4_isFresh_9 ⟨Nat.le_of_ble_eq_true rfl, Nat.le_of_ble_eq_true rfl⟩) hS (fun q _ h => h) (fun q h => h) (fun r u t H locs ht hvm hw hB hz1 hk1 hS => ?_)
    obtain ⟨f, hP, hR⟩ := hB
    rw [ht] at hP
    subst hw
    refine top_rf (q := AD 0 5) rfl ?_
    obtain ⟨kp3, ep3⟩ := (hR.mo).at
    refine va_get (D := D) (ci := 4) (v := .ref (AD 0 7)) (C := RX3) (T := TX3) (N := 7) hx hb hts (fun _ h => List.mem_cons_of_mem _ (List.mem_append_left _ (List.mem_append_left _ (List.mem_append_left _ (List.mem_append_left _ (List.mem_append_left _ (List.mem_append_left _ (List.mem_append_right _ (h))))))))) hown hK hP kp3 ep3 rfl 1 (by decide) (hts _ (List.mem_of_getElem? (i := 1) rfl)) (fun _ h9 => h9) rfl dX4_isFresh_12 ?_
    obtain ⟨kp4, ep4⟩ := (hR.fo (i := x) (by omega)).at
    refine vp_callSi (W.runV (As := [.ref (AD 0 7)]) (rest := []) ⟨hx, hb, hml, hown, hts⟩ (k_X1_keeps l D cI cZ cO hR x hxn) (cwV 1 hts gX4_isFresh_X1_keeps rfl rfl rfl (by decide +kernel) ⟨Nat.le_of_ble_eq_true rfl, Nat.le_of_ble_eq_true rfl⟩) ⟨rd_blind, va_recv hK hP (ci := 2) (q0 := kp4) rfl ep4, rd_pre hP hK hN⟩ rfl rfl hl.1 rfl (lv_room (Nat.le_of_ble_eq_true rfl)) dX4_isFresh_15 ⟨Nat.le_of_ble_eq_true rfl, Nat.le_of_ble_eq_true rfl⟩) (fun r er => ?_)
    subst er
    subst hQ
    have hrt : (b2i (frB ik kp (fillA gv (mV F o0 x (mBest F o0 x)) 8) x 8) : Int32) = b2i (frB ik kp (mMP F o0 gv x) x 8) := by rfl
    exact W.zret (v := b2i (frB ik kp (fillA gv (mV F o0 x (mBest F o0 x)) 8) x 8)) hx hb hr (by rw [hrt]; exact nar_b2i _) (fun t ht hW => ⟨⟨_, (), rfl, hrt, ⟨_, by have e := hP; rw [← ht] at e; exact e, hR⟩⟩, hS.F ht⟩) hS.2.2 dX4_isFresh_18
  exact go _ _ _ hP hR hS

set_option maxHeartbeats 800000 in
set_option maxRecDepth 100000 in
theorem k_X4_gainers (l : Launch) (D : va_G) (cI cZ cO : ClassId) {L : List Nat} {f : Nat → va_E} {tg : Nat → Nat} {AD : Nat → Nat → Nat} {mc : Nat → Int32} {F : Nat → Nat → Int32} {ik kp tu : Nat → Int32} {n : Nat} {he gv : Nat → Int32} {gp gb ob nm lo : Int32} (hR : Rep cI cO L f tg AD mc F ik kp tu n he gv gp gb ob nm lo) (x : Nat)  (hM : okC F n) (hE : okE F n) (hxn : x < n)  : Met l yX4_gainers wsX4_gainers (rmr 5 113) (va_Pc [.ref (AD 0 0), .int (nI x)] (rdP D ([(cI, .int), (cI, .int), (cO, .object "java/lang/Object")]) (va_pl L f))) (vp_Si (fun r => r = gnr F kp tu x 8)) 0 0 (fun _ => False) := by
  refine Met.ofW (cc := cX4_gainers) (maxL := 5) (ret := (some .int)) (by decide) rfl ?_
  intro p e s m args below meth c s₁ B hml hv
  obtain ⟨hargs, hP, hK, hN⟩ := hv
  have hx := B.exec
  have hb := B.bytes
  have hr := B.returns
  have hts := atoms_spec (ws := wsX4_gainers) B.pre
  have hown : s.vm.findClass RX4 = some m.cls := findClass_of_methodNamed B.named
  have hlocks := B.notSynchronized
  have hen : entryFrame m args 5 = entryFrame m ([.ref (AD 0 0), .int (nI x)] : List Value).toArray 5 := by rw [hargs]
  rw [hen]
  have hl := lv_entry ([.ref (AD 0 0), .int (nI x)]) (n := 5) (Nat.le_of_ble_eq_true rfl)
  rw [lg_entry_eq]
  generalize (lg_sl ([.ref (AD 0 0), .int (nI x)]) ++ List.replicate (5 - (lg_sl ([.ref (AD 0 0), .int (nI x)])).length) Slot.unset).toArray = ls at hl ⊢
  have hl : lv_has ls 5 [(0, .ref (AD 0 0)), (1, .int (nI x))] := hl
  generalize hQ : MQ below (vp_Si (fun r => r = gnr F kp tu x 8)) args s 0 0 (fun _ => False) = Q
  refine lv_aload_n hx hb dX4_gainers_0 rfl (lv_at hl 0 rfl) ?_
  refine lv_iload_n hx hb dX4_gainers_1 rfl (lv_at hl 1 rfl) ?_
  obtain ⟨kp1, ep1⟩ := (hR.x).at
  refine va_csq (W.runV (As := [.int (nI x)]) (rest := []) ⟨hx, hb, hml, hown, hts⟩ (k_X4_folderAt l D cI cZ cO hR x (by omega)) (cwV 1 hts gX4_gainers_X4_folderAt rfl rfl rfl (by decide +kernel) ⟨Nat.le_of_ble_eq_true rfl, Nat.le_of_ble_eq_true rfl⟩) ⟨rd_blind, va_recv hK hP (ci := 5) (q0 := kp1) rfl ep1, rd_pre hP hK hN⟩ rfl rfl hl.1 rfl (lv_room (Nat.le_of_ble_eq_true rfl)) dX4_gainers_2 ⟨Nat.le_of_ble_eq_true rfl, Nat.le_of_ble_eq_true rfl⟩) (fun r er => ?_)
  subst er
  refine top_rf (q := AD 1 x) rfl ?_
  refine lv_astore_n (lv' := [(2, .ref (AD 1 x)), (0, .ref (AD 0 0)), (1, .int (nI x))]) hx hb dX4_gainers_5 rfl hl (by decide) rfl (fun ls hl => ?_)
  refine lv_iconst (v := 0) hx hb dX4_gainers_6 (by decide) ?_
  refine lv_istore_n (lv' := [(3, .int 0), (2, .ref (AD 1 x)), (0, .ref (AD 0 0)), (1, .int (nI x))]) hx hb dX4_gainers_7 rfl hl (by decide) rfl (fun ls hl => ?_)
  refine lv_iconst (v := 0) hx hb dX4_gainers_8 (by decide) ?_
  refine lv_istore (lv' := [(4, .int 0), (3, .int 0), (2, .ref (AD 1 x)), (0, .ref (AD 0 0)), (1, .int (nI x))]) hx hb dX4_gainers_9 hl (by decide) rfl (fun ls hl => ?_)
  have L_11 : ∀ fz iz : Nat, iz ≤ 8 → 8 - iz < fz → ∀ (v3 : Int32), v3 = (gnr F kp tu x iz) → ∀ ls : Array Slot, lv_has ls 5 [(0, .ref (AD 0 0)), (1, .int (nI x)), (2, .ref (AD 1 x)), (4, .int (nI iz)), (3, .int v3)] → W p l e (headSpec wsX4_gainers (rmr 5 113)).room s m args below meth c s.heap [] 0 0 Q (F0 m 11 ls []) := by
    intro fz
    induction fz with
    | zero => intro iz _ h; exact absurd h (Nat.not_lt_zero _)
    | succ fz ih_11 =>
      intro iz hi_11 hn_11 v3 ev3 ls hl
      subst ev3
      rcases Nat.lt_or_ge iz 8 with h_iz | h_iz
      ·
        refine lv_iload hx hb dX4_gainers_11 (lv_at hl 3 rfl) ?_
        refine lv_bipush (v := 8) hx hb dX4_gainers_13 (by decide) ?_
        refine lv_icmp_ge (tgt := 51) hx hb dX4_gainers_15 (by decide) (fun c_15 => absurd c_15 (lt_no h_iz (by decide))) (fun c_15 => ?_)
        refine lv_aload_n hx hb dX4_gainers_18 rfl (lv_at hl 0 rfl) ?_
        refine lv_iload hx hb dX4_gainers_19 (lv_at hl 3 rfl) ?_
        refine lv_aload_n hx hb dX4_gainers_21 rfl (lv_at hl 2 rfl) ?_
        obtain ⟨kp2, ep2⟩ := (hR.x).at
        refine vp_callSi (W.runV (As := [.int (nI iz), .ref (AD 1 x)]) (rest := []) ⟨hx, hb, hml, hown, hts⟩ (k_X4_currentRights l D cI cZ cO hR iz x hM hE hxn h_iz) (cwV 2 hts gX4_gainers_X4_currentRights rfl rfl rfl (by decide +kernel) ⟨Nat.le_of_ble_eq_true rfl, Nat.le_of_ble_eq_true rfl⟩) ⟨rd_blind, va_recv hK hP (ci := 5) (q0 := kp2) rfl ep2, rd_pre hP hK hN⟩ rfl rfl hl.1 rfl (lv_room (Nat.le_of_ble_eq_true rfl)) dX4_gainers_22 ⟨Nat.le_of_ble_eq_true rfl, Nat.le_of_ble_eq_true rfl⟩) (fun r er => ?_)
        subst er
        refine lv_aload_n hx hb dX4_gainers_25 rfl (lv_at hl 0 rfl) ?_
        refine lv_iload hx hb dX4_gainers_26 (lv_at hl 3 rfl) ?_
        refine lv_aload_n hx hb dX4_gainers_28 rfl (lv_at hl 2 rfl) ?_
        obtain ⟨kp3, ep3⟩ := (hR.x).at
        refine vp_callSi (W.runV (As := [.int (nI iz), .ref (AD 1 x)]) (rest := [.int (mNow F kp tu iz x)]) ⟨hx, hb, hml, hown, hts⟩ (k_X4_rightsByEntries l D cI cZ cO hR iz x hM hE hxn) (cwV 2 hts gX4_gainers_X4_rightsByEntries rfl rfl rfl (by decide +kernel) ⟨Nat.le_of_ble_eq_true rfl, Nat.le_of_ble_eq_true rfl⟩) ⟨rd_blind, va_recv hK hP (ci := 5) (q0 := kp3) rfl ep3, rd_pre hP hK hN⟩ rfl rfl hl.1 rfl (lv_room (Nat.le_of_ble_eq_true rfl)) dX4_gainers_29 ⟨Nat.le_of_ble_eq_true rfl, Nat.le_of_ble_eq_true rfl⟩) (fun r er => ?_)
        subst er
        refine lv_iconst (v := (-1)) hx hb dX4_gainers_32 (by decide) ?_
        refine lv_ixor hx hb dX4_gainers_33 ?_
        refine lv_iand hx hb dX4_gainers_34 ?_
        have J_45 : ∀ (y3 : Int32), y3 = (if ((mNow F kp tu iz x) &&& ((mRights F iz x) ^^^ (-1))) = 0 then gnr F kp tu x iz else (gnr F kp tu x iz) ||| ((1 : Int32) <<< ((nI iz) &&& 31))) → ∀ ls : Array Slot, lv_has ls 5 [(0, .ref (AD 0 0)), (1, .int (nI x)), (2, .ref (AD 1 x)), (3, .int y3), (4, .int (nI iz))] → W p l e (headSpec wsX4_gainers (rmr 5 113)).room s m args below meth c s.heap [] 0 0 Q (F0 m 45 ls []) := by
          intro y3 ey3 ls hl
          subst ey3
          refine lv_iinc (v := nI (iz + 1)) (lv' := [(4, .int (nI (iz + 1))), (0, .ref (AD 0 0)), (1, .int (nI x)), (2, .ref (AD 1 x)), (3, .int (if ((mNow F kp tu iz x) &&& ((mRights F iz x) ^^^ (-1))) = 0 then gnr F kp tu x iz else (gnr F kp tu x iz) ||| ((1 : Int32) <<< ((nI iz) &&& 31))))]) hx hb dX4_gainers_45 hl (k := 4) rfl (by exact iinc_n _) (by decide) rfl (fun ls hl => ?_)
          refine lv_goto (tgt := 11) hx hb dX4_gainers_48 (by decide) ?_
          exact ih_11 (iz + 1) (by omega) (by omega) _ (by exact gnr_c F kp tu x iz) ls (lv_sub hl [1, 2, 3, 0, 4] rfl)
        refine lv_if_eq (tgt := 45) hx hb dX4_gainers_35 (by decide) (fun c_35 => ?_) (fun c_35 => ?_)
        ·
          exact J_45 _ ((if_pos c_35).symm) ls (lv_sub hl [0, 1, 2, 4, 3] rfl)
        ·
          refine lv_iload_n hx hb dX4_gainers_38 rfl (lv_at hl 4 rfl) ?_
          refine lv_iconst (v := 1) hx hb dX4_gainers_39 (by decide) ?_
          refine lv_iload hx hb dX4_gainers_40 (lv_at hl 3 rfl) ?_
          refine lv_ishl hx hb dX4_gainers_42 ?_
          refine lv_ior hx hb dX4_gainers_43 ?_
          refine lv_istore_n (lv' := [(3, .int ((gnr F kp tu x iz) ||| ((1 : Int32) <<< ((nI iz) &&& 31)))), (0, .ref (AD 0 0)), (1, .int (nI x)), (2, .ref (AD 1 x)), (4, .int (nI iz))]) hx hb dX4_gainers_44 rfl hl (by decide) rfl (fun ls hl => ?_)
          exact J_45 _ ((if_neg c_35).symm) ls (lv_sub hl [1, 2, 3, 0, 4] rfl)
      ·
        obtain rfl : 8 = iz := by omega
        refine lv_iload hx hb dX4_gainers_11 (lv_at hl 3 rfl) ?_
        refine lv_bipush (v := 8) hx hb dX4_gainers_13 (by decide) ?_
        refine lv_icmp_ge (tgt := 51) hx hb dX4_gainers_15 (by decide) (fun c_15 => ?_) (fun c_15 => absurd (lt_yes h_iz (by decide)) c_15)
        refine lv_iload_n hx hb dX4_gainers_51 rfl (lv_at hl 4 rfl) ?_
        subst hQ
        exact W.iret (v := gnr F kp tu x 8) hx hb hr (fun t ht _ => ⟨_, rfl, (by rfl), ht⟩) (fun _ h => absurd h List.not_mem_nil) dX4_gainers_52
  exact L_11 (8 + 1) 0 (by omega) (by omega) _ (by rfl) ls (lv_sub hl [3, 4, 2, 0, 1] rfl)

set_option maxHeartbeats 800000 in
set_option maxRecDepth 100000 in
theorem k_X4_pass (l : Launch) (D : va_G) (cI cZ cO : ClassId) {L : List Nat} {f : Nat → va_E} {tg : Nat → Nat} {AD : Nat → Nat → Nat} {mc : Nat → Int32} {F : Nat → Nat → Int32} {ik kp tu : Nat → Int32} {n : Nat} {he gv : Nat → Int32} {gp gb ob nm lo : Int32} (hR : Rep cI cO L f tg AD mc F ik kp tu n he gv gp gb ob nm lo) (A : Nat → Prop) (hL : L.Nodup) (hA : ∀ a, a ∈ L → A a)   (hM : okC F n) (hE : okE F n)  : Met l yX4_pass wsX4_pass (rmr 6 139) (va_Pc [.ref (AD 0 0)] (rdP D ([(cI, .int), (cI, .int), (cO, .object "java/lang/Object")]) (va_pl L f))) (va_Qi (fun (r : Int32) (_ : Unit) => r = psN F o0 gv ik kp n) (fun _ t => PB D cI cO L tg AD mc F (ikA ik n) (kpA F o0 gv kp n) tu n (lastOw F he n) (lastMp F o0 gv n) (lastI gp (fun k => mBest F o0 k) n) (lastI gb (fun k => mGB F o0 k (mBest F o0 k)) n) (lastI ob (fun k => mOB F o0 k (mBest F o0 k)) n) (lastI nm (fun k => mN F o0 k (mBest F o0 k)) n) (lastI lo (fun k => mL F o0 k (mBest F o0 k)) n) t) A) 0 0 A := by
  refine Met.ofW (cc := cX4_pass) (maxL := 4) (ret := (some .int)) (by decide) rfl ?_
  intro p e s m args below meth c s₁ B hml hv
  obtain ⟨hargs, hP, hK, hN⟩ := hv
  have hx := B.exec
  have hb := B.bytes
  have hr := B.returns
  have hts := atoms_spec (ws := wsX4_pass) B.pre
  have hown : s.vm.findClass RX4 = some m.cls := findClass_of_methodNamed B.named
  have hlocks := B.notSynchronized
  have hen : entryFrame m args 4 = entryFrame m ([.ref (AD 0 0)] : List Value).toArray 4 := by rw [hargs]
  rw [hen]
  have hl := lv_entry ([.ref (AD 0 0)]) (n := 4) (Nat.le_of_ble_eq_true rfl)
  rw [lg_entry_eq]
  generalize (lg_sl ([.ref (AD 0 0)]) ++ List.replicate (4 - (lg_sl ([.ref (AD 0 0)])).length) Slot.unset).toArray = ls at hl ⊢
  have hl : lv_has ls 4 [(0, .ref (AD 0 0))] := hl
  have hS : va_S A s.heap s.heap [] := va_S.rf
  generalize hQ : MQ below (va_Qi (fun (r : Int32) (_ : Unit) => r = psN F o0 gv ik kp n) (fun _ t => PB D cI cO L tg AD mc F (ikA ik n) (kpA F o0 gv kp n) tu n (lastOw F he n) (lastMp F o0 gv n) (lastI gp (fun k => mBest F o0 k) n) (lastI gb (fun k => mGB F o0 k (mBest F o0 k)) n) (lastI ob (fun k => mOB F o0 k (mBest F o0 k)) n) (lastI nm (fun k => mN F o0 k (mBest F o0 k)) n) (lastI lo (fun k => mL F o0 k (mBest F o0 k)) n) t) A) args s 0 0 A = Q
  have go : ∀ (f : Nat → va_E) (H : Heap) (locs : List Loc), va_P D vwCl (va_pl L f) H → Rep cI cO L f tg AD mc F ik kp tu n he gv gp gb ob nm lo → va_S A s.heap H locs → W p l e (headSpec wsX4_pass (rmr 6 139)).room s m args below meth c H locs 0 0 Q (F0 m 0 ls []) := by
    intro f H locs hP hR hS
    have hn22 := hR.n22
    refine lv_iconst (v := 0) hx hb dX4_pass_0 (by decide) ?_
    refine lv_istore_n (lv' := [(1, .int 0), (0, .ref (AD 0 0))]) hx hb dX4_pass_1 rfl hl (by decide) rfl (fun ls hl => ?_)
    refine lv_iconst (v := 0) hx hb dX4_pass_2 (by decide) ?_
    refine lv_istore_n (lv' := [(2, .int 0), (1, .int 0), (0, .ref (AD 0 0))]) hx hb dX4_pass_3 rfl hl (by decide) rfl (fun ls hl => ?_)
    have L_4 : ∀ fz iz : Nat, iz ≤ n → n - iz < fz → ∀ (v1 : Int32), v1 = (psN F o0 gv ik kp iz) → ∀ (khe : Nat → Int32), khe = (lastOw F he iz) → ∀ (kgv : Nat → Int32), kgv = (lastMp F o0 gv iz) → ∀ (kgp : Int32), kgp = (lastI gp (fun k => mBest F o0 k) iz) → ∀ (kgb : Int32), kgb = (lastI gb (fun k => mGB F o0 k (mBest F o0 k)) iz) → ∀ (kob : Int32), kob = (lastI ob (fun k => mOB F o0 k (mBest F o0 k)) iz) → ∀ (knm : Int32), knm = (lastI nm (fun k => mN F o0 k (mBest F o0 k)) iz) → ∀ (klo : Int32), klo = (lastI lo (fun k => mL F o0 k (mBest F o0 k)) iz) → ∀ (kik : Nat → Int32), kik = (ikA ik iz) → ∀ (kkp : Nat → Int32), kkp = (kpA F o0 gv kp iz) → ∀ (f : Nat → va_E) (H : Heap) (locs : List Loc), va_P D vwCl (va_pl L f) H → Rep cI cO L f tg AD mc F kik kkp tu n khe kgv kgp kgb kob knm klo → va_S A s.heap H locs → ∀ ls : Array Slot, lv_has ls 4 [(0, .ref (AD 0 0)), (2, .int (nI iz)), (1, .int v1)] → W p l e (headSpec wsX4_pass (rmr 6 139)).room s m args below meth c H locs 0 0 Q (F0 m 4 ls []) := by
      intro fz
      induction fz with
      | zero => intro iz _ h; exact absurd h (Nat.not_lt_zero _)
      | succ fz ih_4 =>
        intro iz hi_4 hn_4 v1 ev1 khe ekhe kgv ekgv kgp ekgp kgb ekgb kob ekob knm eknm klo eklo kik ekik kkp ekkp f H locs hP hR hS ls hl
        subst ev1
        subst ekhe
        subst ekgv
        subst ekgp
        subst ekgb
        subst ekob
        subst eknm
        subst eklo
        subst ekik
        subst ekkp
        rcases Nat.lt_or_ge iz n with h_iz | h_iz
        ·
          refine lv_iload_n hx hb dX4_pass_4 rfl (lv_at hl 1 rfl) ?_
          refine lv_aload_n hx hb dX4_pass_5 rfl (lv_at hl 0 rfl) ?_
          obtain ⟨kp1, ep1⟩ := (hR.x).at
          refine va_get (D := D) (ci := 5) (v := .ref (AD 0 8)) (C := RX4) (T := TX4) (N := 3) hx hb hts (fun _ h => List.mem_cons_of_mem _ (List.mem_append_left _ (List.mem_append_left _ (List.mem_append_left _ (List.mem_append_left _ (List.mem_append_left _ (List.mem_append_right _ (h)))))))) hown hK hP kp1 ep1 rfl 1 (by decide) (hts _ (List.mem_of_getElem? (i := 1) rfl)) (fun _ h9 => h9) rfl dX4_pass_6 ?_
          obtain ⟨kp2, ep2⟩ := (hR.t).at
          obtain ⟨kp3, ep3⟩ := (hR.t).at
          refine vp_callSi (W.runV (As := []) (rest := [.int (nI iz)]) ⟨hx, hb, hml, hown, hts⟩ (k_Jx4a65c_size_8abf5 l D cI cZ cO ep2 ) (cwV 0 hts gX4_pass_Jx4a65c_size_8abf5 rfl rfl rfl (by decide +kernel) ⟨Nat.le_of_ble_eq_true rfl, Nat.le_of_ble_eq_true rfl⟩) ⟨rd_blind, va_recv hK hP (ci := 0) (q0 := kp3) rfl ep3, rd_pre hP hK hN⟩ rfl rfl hl.1 rfl (lv_room (Nat.le_of_ble_eq_true rfl)) dX4_pass_9 ⟨Nat.le_of_ble_eq_true rfl, Nat.le_of_ble_eq_true rfl⟩) (fun r er => ?_)
          subst er
          refine lv_icmp_ge (tgt := 51) hx hb dX4_pass_12 (by decide) (fun c_12 => absurd c_12 (nI_ge h_iz (by omega))) (fun c_12 => ?_)
          refine lv_aload_n hx hb dX4_pass_15 rfl (lv_at hl 0 rfl) ?_
          obtain ⟨kp4, ep4⟩ := (hR.x).at
          refine va_get (D := D) (ci := 5) (v := .ref (AD 0 8)) (C := RX4) (T := TX4) (N := 3) hx hb hts (fun _ h => List.mem_cons_of_mem _ (List.mem_append_left _ (List.mem_append_left _ (List.mem_append_left _ (List.mem_append_left _ (List.mem_append_left _ (List.mem_append_right _ (h)))))))) hown hK hP kp4 ep4 rfl 1 (by decide) (hts _ (List.mem_of_getElem? (i := 1) rfl)) (fun _ h9 => h9) rfl dX4_pass_16 ?_
          refine lv_iload_n hx hb dX4_pass_19 rfl (lv_at hl 1 rfl) ?_
          obtain ⟨kp5, ep5⟩ := (hR.t).at
          obtain ⟨mp6, qp6, hhp6, hmp6, hnp6, hvp6⟩ := hR.td
          obtain ⟨kp6, ep6⟩ := (hhp6).at
          obtain ⟨kp7, ep7⟩ := (hR.t).at
          refine va_csq (W.runV (As := [.int (nI iz)]) (rest := []) ⟨hx, hb, hml, hown, hts⟩ (k_Jx4a65c_get_915e3 l D cI cZ cO ep5 ep6 iz n rfl h_iz (by omega) (by omega)) (cwV 1 hts gX4_pass_Jx4a65c_get_915e3 rfl rfl rfl (by decide +kernel) ⟨Nat.le_of_ble_eq_true rfl, Nat.le_of_ble_eq_true rfl⟩) ⟨rd_blind, va_recv hK hP (ci := 0) (q0 := kp7) rfl ep7, rd_pre hP hK hN⟩ rfl rfl hl.1 rfl (lv_room (Nat.le_of_ble_eq_true rfl)) dX4_pass_20 ⟨Nat.le_of_ble_eq_true rfl, Nat.le_of_ble_eq_true rfl⟩) (fun r er => ?_)
          subst er
          refine top_rf (q := AD 1 iz) (by exact hvp6 iz h_iz) ?_
          obtain ⟨kp8, ep8⟩ := (hR.fo (i := iz) (by omega)).at
          refine va_castS (nm := RX1) (cC := D.1 2) hx hb hown (hts _ (List.mem_of_getElem? (i := 2) rfl)) (hK.1 2 _ rfl).2 (va_recv hK hP (ci := 2) (q0 := kp8) rfl ep8) dX4_pass_23 ?_
          refine lv_astore_n (lv' := [(3, .ref (AD 1 iz)), (0, .ref (AD 0 0)), (2, .int (nI iz)), (1, .int (psN F o0 gv ik kp iz))]) hx hb dX4_pass_26 rfl hl (by decide) rfl (fun ls hl => ?_)
          refine lv_aload_n hx hb dX4_pass_27 rfl (lv_at hl 0 rfl) ?_
          refine lv_aload_n hx hb dX4_pass_28 rfl (lv_at hl 1 rfl) ?_
          refine lv_aload_n hx hb dX4_pass_29 rfl (lv_at hl 0 rfl) ?_
          obtain ⟨kp9, ep9⟩ := (hR.x).at
          refine va_callq (va_runV (As := [.ref (AD 1 iz)]) (rest := [.ref (AD 1 iz)]) ⟨hx, hb, hml, hown, hts⟩ (k_X4_mappingOf l D cI cZ cO hR A hL hA iz hM hE h_iz) (cwV 1 hts gX4_pass_X4_mappingOf rfl rfl rfl (by decide +kernel) ⟨Nat.le_of_ble_eq_true rfl, Nat.le_of_ble_eq_true rfl⟩) ⟨rd_blind, va_recv hK hP (ci := 5) (q0 := kp9) rfl ep9, rd_pre hP hK hN⟩ rfl rfl hl.1 rfl (lv_room (Nat.le_of_ble_eq_true rfl)) dX4_pass_30 ⟨Nat.le_of_ble_eq_true rfl, Nat.le_of_ble_eq_true rfl⟩) hS (fun q _ h => h) (fun q h => h) (fun r u t H locs ht hvm hw hB hz1 hk1 hS => ?_)
          obtain ⟨f, hP, hR⟩ := hB
          rw [ht] at hP
          subst hw
          refine top_rf (q := AD 0 5) rfl ?_
          obtain ⟨kp10, ep10⟩ := (hR.mo).at
          refine va_get (D := D) (ci := 4) (v := .ref (AD 0 7)) (C := RX3) (T := TX3) (N := 7) hx hb hts (fun _ h => List.mem_cons_of_mem _ (List.mem_append_left _ (List.mem_append_left _ (List.mem_append_left _ (List.mem_append_left _ (List.mem_append_right _ (h))))))) hown hK hP kp10 ep10 rfl 1 (by decide) (hts _ (List.mem_of_getElem? (i := 3) rfl)) (fun _ h9 => h9) rfl dX4_pass_33 ?_
          obtain ⟨kp11, ep11⟩ := (hR.fo (i := iz) (by omega)).at
          refine va_calli (va_runV (As := [.ref (AD 0 7)]) (rest := []) ⟨hx, hb, hml, hown, hts⟩ (k_X1_keep l D cI cZ cO hR A hL hA iz h_iz) (cwV 1 hts gX4_pass_X1_keep rfl rfl rfl (by decide +kernel) ⟨Nat.le_of_ble_eq_true rfl, Nat.le_of_ble_eq_true rfl⟩) ⟨rd_blind, va_recv hK hP (ci := 2) (q0 := kp11) rfl ep11, rd_pre hP hK hN⟩ rfl rfl hl.1 rfl (lv_room (Nat.le_of_ble_eq_true rfl)) dX4_pass_36 ⟨Nat.le_of_ble_eq_true rfl, Nat.le_of_ble_eq_true rfl⟩) hS (fun q _ h => h) (fun q h => h) (fun r u t H locs ht hvm hw hB hz1 hk1 hS => ?_)
          obtain ⟨f, hP, hR⟩ := hB
          rw [ht] at hP
          subst hw
          have J_45 : ∀ (y1 : Int32), y1 = (if (!frB (ikA ik iz) (kpA F o0 gv kp iz) (fillA (lastMp F o0 gv iz) (mV F o0 iz (mBest F o0 iz)) 8) iz 8) = true then (psN F o0 gv ik kp iz) + 1 else psN F o0 gv ik kp iz) → ∀ (f : Nat → va_E) (H : Heap) (locs : List Loc), va_P D vwCl (va_pl L f) H → Rep cI cO L f tg AD mc F (upd (ikA ik iz) iz 1) (keepA (kpA F o0 gv kp iz) (fillA (lastMp F o0 gv iz) (mV F o0 iz (mBest F o0 iz)) 8) iz 8) tu n (fillA (lastOw F he iz) (fun p => mRights F p iz) 8) (fillA (lastMp F o0 gv iz) (mV F o0 iz (mBest F o0 iz)) 8) (mBest F o0 iz) (mGB F o0 iz (mBest F o0 iz)) (mOB F o0 iz (mBest F o0 iz)) (mN F o0 iz (mBest F o0 iz)) (mL F o0 iz (mBest F o0 iz)) → va_S A s.heap H locs → ∀ ls : Array Slot, lv_has ls 4 [(0, .ref (AD 0 0)), (1, .int y1), (2, .int (nI iz)), (3, .ref (AD 1 iz))] → W p l e (headSpec wsX4_pass (rmr 6 139)).room s m args below meth c H locs 0 0 Q (F0 m 45 ls []) := by
            intro y1 ey1 f H locs hP hR hS ls hl
            subst ey1
            refine lv_iinc (v := nI (iz + 1)) (lv' := [(2, .int (nI (iz + 1))), (0, .ref (AD 0 0)), (1, .int (if (!frB (ikA ik iz) (kpA F o0 gv kp iz) (fillA (lastMp F o0 gv iz) (mV F o0 iz (mBest F o0 iz)) 8) iz 8) = true then (psN F o0 gv ik kp iz) + 1 else psN F o0 gv ik kp iz)), (3, .ref (AD 1 iz))]) hx hb dX4_pass_45 hl (k := 2) rfl (by exact iinc_n _) (by decide) rfl (fun ls hl => ?_)
            refine lv_goto (tgt := 4) hx hb dX4_pass_48 (by decide) ?_
            exact ih_4 (iz + 1) (by omega) (by omega) _ (by rw [lastMp_C]; exact ps_c _ _ _ _ _) _ (by exact lastOw_own F he iz iz) _ (by exact lastMp_C F o0 gv iz) _ (by rfl) _ (by rfl) _ (by rfl) _ (by rfl) _ (by rfl) _ (by rfl) _ (by rw [lastMp_C]; rfl) _ _ _ hP hR hS ls (lv_sub hl [1, 0, 2] rfl)
          refine lv_if_eq (tgt := 45) hx hb dX4_pass_39 (by decide) (fun c_39 => ?_) (fun c_39 => ?_)
          ·
            have c_39 := b2i_0 c_39
            exact J_45 _ ((if_neg (b2i_bf c_39)).symm) _ _ _ hP hR hS ls (lv_sub hl [1, 3, 2, 0] rfl)
          ·
            have c_39 := b2i_1 c_39
            refine lv_iinc (v := (psN F o0 gv ik kp iz) + 1) (lv' := [(1, .int ((psN F o0 gv ik kp iz) + 1)), (3, .ref (AD 1 iz)), (0, .ref (AD 0 0)), (2, .int (nI iz))]) hx hb dX4_pass_42 hl (k := 3) rfl (by exact ii_1 _) (by decide) rfl (fun ls hl => ?_)
            exact J_45 _ ((if_pos c_39).symm) _ _ _ hP hR hS ls (lv_sub hl [2, 0, 3, 1] rfl)
        ·
          obtain rfl : n = iz := by omega
          refine lv_iload_n hx hb dX4_pass_4 rfl (lv_at hl 1 rfl) ?_
          refine lv_aload_n hx hb dX4_pass_5 rfl (lv_at hl 0 rfl) ?_
          obtain ⟨kp12, ep12⟩ := (hR.x).at
          refine va_get (D := D) (ci := 5) (v := .ref (AD 0 8)) (C := RX4) (T := TX4) (N := 3) hx hb hts (fun _ h => List.mem_cons_of_mem _ (List.mem_append_left _ (List.mem_append_left _ (List.mem_append_left _ (List.mem_append_left _ (List.mem_append_left _ (List.mem_append_right _ (h)))))))) hown hK hP kp12 ep12 rfl 1 (by decide) (hts _ (List.mem_of_getElem? (i := 1) rfl)) (fun _ h9 => h9) rfl dX4_pass_6 ?_
          obtain ⟨kp13, ep13⟩ := (hR.t).at
          obtain ⟨kp14, ep14⟩ := (hR.t).at
          refine vp_callSi (W.runV (As := []) (rest := [.int (nI n)]) ⟨hx, hb, hml, hown, hts⟩ (k_Jx4a65c_size_8abf5 l D cI cZ cO ep13 ) (cwV 0 hts gX4_pass_Jx4a65c_size_8abf5 rfl rfl rfl (by decide +kernel) ⟨Nat.le_of_ble_eq_true rfl, Nat.le_of_ble_eq_true rfl⟩) ⟨rd_blind, va_recv hK hP (ci := 0) (q0 := kp14) rfl ep14, rd_pre hP hK hN⟩ rfl rfl hl.1 rfl (lv_room (Nat.le_of_ble_eq_true rfl)) dX4_pass_9 ⟨Nat.le_of_ble_eq_true rfl, Nat.le_of_ble_eq_true rfl⟩) (fun r er => ?_)
          subst er
          refine lv_icmp_ge (tgt := 51) hx hb dX4_pass_12 (by decide) (fun c_12 => ?_) (fun c_12 => absurd (nI_le h_iz (by omega)) c_12)
          refine lv_iload_n hx hb dX4_pass_51 rfl (lv_at hl 2 rfl) ?_
          subst hQ
          exact W.iret (v := psN F o0 gv ik kp n) hx hb hr (fun t ht hW => ⟨⟨_, (), rfl, (by rfl), ⟨_, by have e := hP; rw [← ht] at e; exact e, hR⟩⟩, hS.F ht⟩) hS.2.2 dX4_pass_52
    exact L_4 (n + 1) 0 (by omega) (by omega) _ (by rfl) _ (by rfl) _ (by rfl) _ (by rfl) _ (by rfl) _ (by rfl) _ (by rfl) _ (by rfl) _ (by rfl) _ (by rfl) _ _ _ hP hR hS ls (lv_sub hl [2, 0, 1] rfl)
  exact go _ _ _ hP hR hS
