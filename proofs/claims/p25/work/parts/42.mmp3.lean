set_option maxHeartbeats 800000 in
set_option maxRecDepth 100000 in
theorem k_X1_keep (l : Launch) (D : va_G) (cI cZ cO : ClassId) {L : List Nat} {f : Nat → va_E} {tg : Nat → Nat} {AD : Nat → Nat → Nat} {mc : Nat → Int32} {F : Nat → Nat → Int32} {ik kp tu : Nat → Int32} {n : Nat} {he gv : Nat → Int32} {gp gb ob nm lo : Int32} (hR : Rep cI cO L f tg AD mc F ik kp tu n he gv gp gb ob nm lo) (A : Nat → Prop) (hL : L.Nodup) (hA : ∀ a, a ∈ L → A a) (y : Nat)  (hyn : y < n) : Met l yX1_keep wsX1_keep (rmr 2 60) (va_Pc [.ref (AD 1 y), .ref (AD 0 7)] (rdP D ([(cI, .int), (cI, .int), (cO, .object "java/lang/Object")]) (va_pl L f))) (va_Qi (fun (r : Int32) (_ : Unit) => r = b2i (!frB ik kp gv y 8)) (fun _ t => PB D cI cO L tg AD mc F (upd ik y 1) (keepA kp gv y 8) tu n he gv gp gb ob nm lo t) A) 0 0 A := by
  refine Met.ofW (cc := cX1_keep) (maxL := 3) (ret := (some .boolean)) (by decide) rfl ?_
  intro p e s m args below meth c s₁ B hml hv
  obtain ⟨hargs, hP, hK, hN⟩ := hv
  have hx := B.exec
  have hb := B.bytes
  have hr := B.returns
  have hts := atoms_spec (ws := wsX1_keep) B.pre
  have hown : s.vm.findClass RX1 = some m.cls := findClass_of_methodNamed B.named
  have hlocks := B.notSynchronized
  have hen : entryFrame m args 3 = entryFrame m ([.ref (AD 1 y), .ref (AD 0 7)] : List Value).toArray 3 := by rw [hargs]
  rw [hen]
  have hl := lv_entry ([.ref (AD 1 y), .ref (AD 0 7)]) (n := 3) (Nat.le_of_ble_eq_true rfl)
  rw [lg_entry_eq]
  generalize (lg_sl ([.ref (AD 1 y), .ref (AD 0 7)]) ++ List.replicate (3 - (lg_sl ([.ref (AD 1 y), .ref (AD 0 7)])).length) Slot.unset).toArray = ls at hl ⊢
  have hl : lv_has ls 3 [(0, .ref (AD 1 y)), (1, .ref (AD 0 7))] := hl
  have hS : va_S A s.heap s.heap [] := va_S.rf
  generalize hQ : MQ below (va_Qi (fun (r : Int32) (_ : Unit) => r = b2i (!frB ik kp gv y 8)) (fun _ t => PB D cI cO L tg AD mc F (upd ik y 1) (keepA kp gv y 8) tu n he gv gp gb ob nm lo t) A) args s 0 0 A = Q
  have go : ∀ (f : Nat → va_E) (H : Heap) (locs : List Loc), va_P D vwCl (va_pl L f) H → Rep cI cO L f tg AD mc F ik kp tu n he gv gp gb ob nm lo → va_S A s.heap H locs → W p l e (headSpec wsX1_keep (rmr 2 60)).room s m args below meth c H locs 0 0 Q (F0 m 0 ls []) := by
    intro f H locs hP hR hS
    refine lv_aload_n hx hb dX1_keep_0 rfl (lv_at hl 0 rfl) ?_
    refine lv_aload_n hx hb dX1_keep_1 rfl (lv_at hl 1 rfl) ?_
    obtain ⟨kp1, ep1⟩ := (hR.fo (i := y) (by omega)).at
    refine vp_callSi (W.runV (As := [.ref (AD 0 7)]) (rest := []) ⟨hx, hb, hml, hown, hts⟩ (k_X1_keeps l D cI cZ cO hR y hyn) (cwV 1 hts gX1_keep_X1_keeps rfl rfl rfl (by decide +kernel) ⟨Nat.le_of_ble_eq_true rfl, Nat.le_of_ble_eq_true rfl⟩) ⟨rd_blind, va_recv hK hP (ci := 2) (q0 := kp1) rfl ep1, rd_pre hP hK hN⟩ rfl rfl hl.1 rfl (lv_room (Nat.le_of_ble_eq_true rfl)) dX1_keep_2 ⟨Nat.le_of_ble_eq_true rfl, Nat.le_of_ble_eq_true rfl⟩) (fun r er => ?_)
    subst er
    have J_13 : ∀ (z0 : Int32), z0 = (if (frB ik kp gv y 8) = true then 0 else 1) → ∀ (f : Nat → va_E) (H : Heap) (locs : List Loc), va_P D vwCl (va_pl L f) H → Rep cI cO L f tg AD mc F ik kp tu n he gv gp gb ob nm lo → va_S A s.heap H locs → ∀ ls : Array Slot, lv_has ls 3 [(0, .ref (AD 1 y)), (1, .ref (AD 0 7))] → W p l e (headSpec wsX1_keep (rmr 2 60)).room s m args below meth c H locs 0 0 Q (F0 m 13 ls [.int z0]) := by
      intro z0 ez0 f H locs hP hR hS ls hl
      subst ez0
      refine top_eq (y := b2i (!frB ik kp gv y 8)) (by exact nb_if _) ?_
      refine lv_istore_n (lv' := [(2, .int (b2i (!frB ik kp gv y 8))), (0, .ref (AD 1 y)), (1, .ref (AD 0 7))]) hx hb dX1_keep_13 rfl hl (by decide) rfl (fun ls hl => ?_)
      refine lv_aload_n hx hb dX1_keep_14 rfl (lv_at hl 2 rfl) ?_
      refine lv_iconst (v := 0) hx hb dX1_keep_15 (by decide) ?_
      refine lv_aload_n hx hb dX1_keep_16 rfl (lv_at hl 1 rfl) ?_
      obtain ⟨kp2, ep2⟩ := (hR.fo (i := y) (by omega)).at
      refine va_get (D := D) (ci := 2) (v := .ref (AD 3 y)) (C := RX1) (T := TX1) (N := 7) hx hb hts (fun _ h => List.mem_cons_of_mem _ (List.mem_append_right _ (h))) hown hK hP kp2 ep2 rfl 2 (by decide) (hts _ (List.mem_of_getElem? (i := 1) rfl)) (fun _ h9 => h9) rfl dX1_keep_17 ?_
      refine lv_iconst (v := 0) hx hb dX1_keep_20 (by decide) ?_
      refine lv_bipush (v := 8) hx hb dX1_keep_21 (by decide) ?_
      obtain ⟨kp3, ep3⟩ := (hR.mg).at
      obtain ⟨qp4, hhp4, hvp4⟩ := hR.ke (i := y) (by omega)
      obtain ⟨kp4, ep4⟩ := (hhp4).at
      refine va_copyi hx hb (hml.trans hl.1.symm) hown (hts _ (List.mem_of_getElem? (i := 2) rfl)) (hts _ (List.mem_of_getElem? (i := 3) rfl)) (hts _ (List.mem_of_getElem? (i := 4) rfl)) (hts _ (List.mem_of_getElem? (i := 5) rfl)) hK hP (pl_D hL hA) hS kp3 kp4 0 0 ep3 ep4 rfl rfl rfl (by decide) (by decide) (by decide) (by decide) (by decide) (fun _ _ => rfl) (Nat.le_of_ble_eq_true rfl) (Nat.le_of_ble_eq_true rfl) dX1_keep_23 (fun H locs hP _ hS => ?_)
      obtain ⟨f, hP, hR⟩ := hR.st_cpy hL (by omega) ep4 hP
      refine lv_aload_n hx hb dX1_keep_26 rfl (lv_at hl 1 rfl) ?_
      refine lv_iconst (v := 1) hx hb dX1_keep_27 (by decide) ?_
      obtain ⟨kp5, ep5⟩ := (hR.fo (i := y) (by omega)).at
      refine va_put (D := D) (ci := 2) (v := .int 1) (ty := .boolean) (C := RX1) (T := TX1) (N := 7) hx hb hts (fun _ h => List.mem_cons_of_mem _ (List.mem_append_right _ (h))) tyX1 tyX1_ok nmX1 hown hK hP (pl_D hL hA) hS kp5 ep5 rfl 5 (by decide) (hts _ (List.mem_of_getElem? (i := 6) rfl)) (fun _ h9 => h9) rfl (by decide +kernel) (by decide) (by decide) (Nat.le_of_ble_eq_true rfl) dX1_keep_28 (fun H locs hP _ hS => ?_)
      obtain ⟨f, hP, hR⟩ := hR.st_hk hL (by omega) ep5 hP
      refine lv_iload_n hx hb dX1_keep_31 rfl (lv_at hl 0 rfl) ?_
      subst hQ
      have hrt : (b2i (!frB ik kp gv y 8) : Int32) = b2i (!frB ik kp gv y 8) := by rfl
      exact W.zret (v := b2i (!frB ik kp gv y 8)) hx hb hr (by rw [hrt]; exact nar_b2i _) (fun t ht hW => ⟨⟨_, (), rfl, hrt, ⟨_, by have e := hP; rw [← ht] at e; exact e, hR⟩⟩, hS.F ht⟩) hS.2.2 dX1_keep_32
    refine lv_if_ne (tgt := 12) hx hb dX1_keep_5 (by decide) (fun c_5 => ?_) (fun c_5 => ?_)
    ·
      have c_5 := b2i_1 c_5
      refine lv_iconst (v := 0) hx hb dX1_keep_12 (by decide) ?_
      exact J_13 _ ((if_pos c_5).symm) _ _ _ hP hR hS ls (lv_sub hl [0, 1] rfl)
    ·
      have c_5 := b2i_0 c_5
      refine lv_iconst (v := 1) hx hb dX1_keep_8 (by decide) ?_
      refine lv_goto (tgt := 13) hx hb dX1_keep_9 (by decide) ?_
      exact J_13 _ ((if_neg (b2i_bf c_5)).symm) _ _ _ hP hR hS ls (lv_sub hl [0, 1] rfl)
  exact go _ _ _ hP hR hS
