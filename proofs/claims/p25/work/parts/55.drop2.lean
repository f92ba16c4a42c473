set_option maxHeartbeats 800000 in
set_option maxRecDepth 100000 in
theorem k_X4_drop (l : Launch) (D : va_G) (cI cZ cO : ClassId) {L : List Nat} {f : Nat → va_E} {tg : Nat → Nat} {AD : Nat → Nat → Nat} {mc : Nat → Int32} {F : Nat → Nat → Int32} {ik kp tu : Nat → Int32} {n : Nat} {he gv : Nat → Int32} {gp gb ob nm lo : Int32} (hR : Rep cI cO L f tg AD mc F ik kp tu n he gv gp gb ob nm lo) (A : Nat → Prop) (hL : L.Nodup) (hA : ∀ a, a ∈ L → A a) (x : Nat) (y : Nat)  (hM : okC F n) (hxn : x < n) (hyl : y < i2n (F 6 x)) : Met l yX4_drop wsX4_drop (rmr 4 106) (va_Pc [.ref (AD 0 0), .int (nI x), .int (nI y)] (rdY D ([(cI, .int), (cI, .int), (cO, .object "java/lang/Object")]) (va_pl L f) (CO))) (va_Qi (fun (r : Int32) (_ : Unit) => r = F 9 (6 * x + y)) (fun _ t => PB D cI cO L tg (rmAD AD x y (i2n (F 6 x) - 1)) (upd mc (x + 1) (mc (x + 1) + 1)) (va_up (va_up (va_up (va_up (va_up F 6 (upd (F 6) x (nI (i2n (F 6 x) - 1)))) 7 (shl (F 7) (6 * x + y) ((i2n (F 6 x) - 1) - y))) 8 (shl (F 8) (6 * x + y) ((i2n (F 6 x) - 1) - y))) 9 (shl (F 9) (6 * x + y) ((i2n (F 6 x) - 1) - y))) 10 (shl (F 10) (6 * x + y) ((i2n (F 6 x) - 1) - y))) ik kp tu n he gv gp gb ob nm lo t) A) 0 0 A := by
  refine Met.ofW (cc := cX4_drop) (maxL := 4) (ret := (some .int)) (by decide) rfl ?_
  intro p e s m args below meth c s₁ B hml hv
  obtain ⟨hargs, ⟨hP, hK, hN⟩, hY⟩ := hv
  have hx := B.exec
  have hb := B.bytes
  have hr := B.returns
  have hts := atoms_spec (ws := wsX4_drop) B.pre
  have hown : s.vm.findClass RX4 = some m.cls := findClass_of_methodNamed B.named
  have hlocks := B.notSynchronized
  have hen : entryFrame m args 4 = entryFrame m ([.ref (AD 0 0), .int (nI x), .int (nI y)] : List Value).toArray 4 := by rw [hargs]
  rw [hen]
  have hl := lv_entry ([.ref (AD 0 0), .int (nI x), .int (nI y)]) (n := 4) (Nat.le_of_ble_eq_true rfl)
  rw [lg_entry_eq]
  generalize (lg_sl ([.ref (AD 0 0), .int (nI x), .int (nI y)]) ++ List.replicate (4 - (lg_sl ([.ref (AD 0 0), .int (nI x), .int (nI y)])).length) Slot.unset).toArray = ls at hl ⊢
  have hl : lv_has ls 4 [(0, .ref (AD 0 0)), (1, .int (nI x)), (2, .int (nI y))] := hl
  have hS : va_S A s.heap s.heap [] := va_S.rf
  generalize hQ : MQ below (va_Qi (fun (r : Int32) (_ : Unit) => r = F 9 (6 * x + y)) (fun _ t => PB D cI cO L tg (rmAD AD x y (i2n (F 6 x) - 1)) (upd mc (x + 1) (mc (x + 1) + 1)) (va_up (va_up (va_up (va_up (va_up F 6 (upd (F 6) x (nI (i2n (F 6 x) - 1)))) 7 (shl (F 7) (6 * x + y) ((i2n (F 6 x) - 1) - y))) 8 (shl (F 8) (6 * x + y) ((i2n (F 6 x) - 1) - y))) 9 (shl (F 9) (6 * x + y) ((i2n (F 6 x) - 1) - y))) 10 (shl (F 10) (6 * x + y) ((i2n (F 6 x) - 1) - y))) ik kp tu n he gv gp gb ob nm lo t) A) args s 0 0 A = Q
  have go : ∀ (f : Nat → va_E) (H : Heap) (locs : List Loc), va_P D vwCl (va_pl L f) H → Rep cI cO L f tg AD mc F ik kp tu n he gv gp gb ob nm lo → va_S A s.heap H locs → W p l e (headSpec wsX4_drop (rmr 4 106)).room s m args below meth c H locs 0 0 Q (F0 m 0 ls []) := by
    intro f H locs hP hR hS
    have hlen := (hM.len hxn).2
    refine lv_aload_n hx hb dX4_drop_0 rfl (lv_at hl 0 rfl) ?_
    refine lv_iload_n hx hb dX4_drop_1 rfl (lv_at hl 1 rfl) ?_
    obtain ⟨kp1, ep1⟩ := (hR.x).at
    refine va_csq (W.runV (As := [.int (nI x)]) (rest := []) ⟨hx, hb, hml, hown, hts⟩ (k_X4_folderAt l D cI cZ cO hR x (by omega)) (cwV 1 hts gX4_drop_X4_folderAt rfl rfl rfl (by decide +kernel) ⟨Nat.le_of_ble_eq_true rfl, Nat.le_of_ble_eq_true rfl⟩) ⟨rd_blind, va_recv hK hP (ci := 5) (q0 := kp1) rfl ep1, rd_pre hP hK hN⟩ rfl rfl hl.1 rfl (lv_room (Nat.le_of_ble_eq_true rfl)) dX4_drop_2 ⟨Nat.le_of_ble_eq_true rfl, Nat.le_of_ble_eq_true rfl⟩) (fun r er => ?_)
    subst er
    refine top_rf (q := AD 1 x) rfl ?_
    refine lv_astore_n (lv' := [(3, .ref (AD 1 x)), (0, .ref (AD 0 0)), (1, .int (nI x)), (2, .int (nI y))]) hx hb dX4_drop_5 rfl hl (by decide) rfl (fun ls hl => ?_)
    refine lv_iload_n hx hb dX4_drop_6 rfl (lv_at hl 3 rfl) ?_
    refine lv_if_lt (tgt := 21) hx hb dX4_drop_7 (by decide) (fun c_7 => ?_) (fun c_7 => ?_)
    ·
      exact absurd c_7 (nI_pos (by omega))
    ·
      refine lv_iload_n hx hb dX4_drop_10 rfl (lv_at hl 3 rfl) ?_
      refine lv_aload_n hx hb dX4_drop_11 rfl (lv_at hl 0 rfl) ?_
      obtain ⟨kp2, ep2⟩ := (hR.fo (i := x) (by omega)).at
      refine va_get (D := D) (ci := 2) (v := .ref (AD 2 x)) (C := RX1) (T := TX1) (N := 7) hx hb hts (fun _ h => List.mem_cons_of_mem _ (List.mem_append_left _ (List.mem_append_left _ (List.mem_append_left _ (List.mem_append_left _ (List.mem_append_right _ (h))))))) hown hK hP kp2 ep2 rfl 1 (by decide) (hts _ (List.mem_of_getElem? (i := 3) rfl)) (fun _ h9 => h9) rfl dX4_drop_12 ?_
      obtain ⟨kp3, ep3⟩ := (hR.ro (i := x) (by omega)).at
      obtain ⟨kp4, ep4⟩ := (hR.ro (i := x) (by omega)).at
      refine vp_callSi (W.runV (As := []) (rest := [.int (nI y)]) ⟨hx, hb, hml, hown, hts⟩ (k_Jx4a65c_size_8abf5 l D cI cZ cO ep3 ) (cwV 0 hts gX4_drop_Jx4a65c_size_8abf5 rfl rfl rfl (by decide +kernel) ⟨Nat.le_of_ble_eq_true rfl, Nat.le_of_ble_eq_true rfl⟩) ⟨rd_blind, va_recv hK hP (ci := 0) (q0 := kp4) rfl ep4, rd_pre hP hK hN⟩ rfl rfl hl.1 rfl (lv_room (Nat.le_of_ble_eq_true rfl)) dX4_drop_15 ⟨Nat.le_of_ble_eq_true rfl, Nat.le_of_ble_eq_true rfl⟩) (fun r er => ?_)
      subst er
      refine top_eq (y := nI (i2n (F 6 x))) (by exact (hM.len hxn).1) ?_
      refine lv_icmp_lt (tgt := 31) hx hb dX4_drop_18 (by decide) (fun c_18 => ?_) (fun c_18 => ?_)
      ·
        refine lv_aload_n hx hb dX4_drop_31 rfl (lv_at hl 0 rfl) ?_
        obtain ⟨kp5, ep5⟩ := (hR.fo (i := x) (by omega)).at
        refine va_get (D := D) (ci := 2) (v := .ref (AD 2 x)) (C := RX1) (T := TX1) (N := 7) hx hb hts (fun _ h => List.mem_cons_of_mem _ (List.mem_append_left _ (List.mem_append_left _ (List.mem_append_left _ (List.mem_append_left _ (List.mem_append_right _ (h))))))) hown hK hP kp5 ep5 rfl 1 (by decide) (hts _ (List.mem_of_getElem? (i := 3) rfl)) (fun _ h9 => h9) rfl dX4_drop_32 ?_
        refine lv_iload_n hx hb dX4_drop_35 rfl (lv_at hl 3 rfl) ?_
        obtain ⟨t4, qd, hq1, hq2⟩ := hR.da2 hxn (by omega)
        have hPa := hR.alP hxn hq1 hP
        refine va_callq (va_runV (As := [.int (nI y)]) (rest := []) ⟨hx, hb, hml, hown, hts⟩ (k_Jx4a65c_remove_915e3 l D cI cZ cO (fun z => AD (2 + 2 * z) x) 10 (alA AD x) qd (mc (x + 1)) (F 6 x) (hR.alAp hxn t4) y (i2n (F 6 x)) (hM.len hxn).1 hyl (by omega) (by omega) (hR.alN hxn t4 hq2) (AD 5 (6 * x + y)) (hq2 y hyl)) (cwV 1 hts gX4_drop_Jx4a65c_remove_915e3 rfl rfl rfl (by decide +kernel) ⟨Nat.le_of_ble_eq_true rfl, Nat.le_of_ble_eq_true rfl⟩) ⟨rdY_blind, va_recv hK hPa (ci := 0) (q0 := 0) rfl rfl, rdY_pre hPa hK hN (hR.alY hxn hq2 hK hP hY)⟩ rfl rfl hl.1 rfl (lv_room (Nat.le_of_ble_eq_true rfl)) dX4_drop_36 ⟨Nat.le_of_ble_eq_true rfl, Nat.le_of_ble_eq_true rfl⟩) hS (fun q _ h => hR.alSub hxn hq1 hA h) (fun q h => hR.alSub hxn hq1 hA h) (fun r u t H locs ht hvm hw hB hz1 hk1 hS => ?_)
        have hP1 := hB
        rw [ht] at hP1
        subst hw
        have hen := hR.en hxn hyl
        have hn9 := hR.alN hxn t4 hq2 y hyl _ (hq2 y hyl)
        obtain ⟨f, hP, hR, hf9⟩ := hR.call_rm (F' := va_up (va_up (va_up (va_up (va_up F 6 (upd (F 6) x (nI (i2n (F 6 x) - 1)))) 7 (shl (F 7) (6 * x + y) ((i2n (F 6 x) - 1) - y))) 8 (shl (F 8) (6 * x + y) ((i2n (F 6 x) - 1) - y))) 9 (shl (F 9) (6 * x + y) ((i2n (F 6 x) - 1) - y))) 10 (shl (F 10) (6 * x + y) ((i2n (F 6 x) - 1) - y))) hM hxn (show i2n (F 6 x) = (i2n (F 6 x) - 1) + 1 by omega) (by omega) t4 hq1 hq2 hP hk1 hP1 rfl rfl rfl rfl rfl rfl rfl rfl rfl rfl
        have hE9 : Hs L f (AD 5 (6 * x + y)) (.inr (1, [.int (F 7 (6 * x + y)), .int (F 8 (6 * x + y)), .int (F 9 (6 * x + y)), .int (F 10 (6 * x + y))])) := ⟨hen.1, by rw [hf9 _ hn9]; exact hen.2⟩
        obtain ⟨k9, e9⟩ := hE9.at
        refine top_rf (q := AD 5 (6 * x + y)) rfl ?_
        refine va_castS (nm := RX0) (cC := D.1 1) hx hb hown (hts _ (List.mem_of_getElem? (i := 4) rfl)) (hK.1 1 _ rfl).2 (va_recv hK hP (ci := 1) (q0 := k9) rfl e9) dX4_drop_39 ?_
        refine va_get (D := D) (ci := 1) (v := .int (F 9 (6 * x + y))) (C := RX0) (T := TX0) (N := 4) hx hb hts (fun _ h => List.mem_cons_of_mem _ (List.mem_append_left _ (List.mem_append_left _ (List.mem_append_left _ (List.mem_append_right _ (h)))))) hown hK hP k9 e9 rfl 2 (by decide) (hts _ (List.mem_of_getElem? (i := 5) rfl)) (fun _ h9 => h9) rfl dX4_drop_42 ?_
        subst hQ
        exact W.iret (v := F 9 (6 * x + y)) hx hb hr (fun t ht hW => ⟨⟨_, (), rfl, (by rfl), ⟨_, by have e := hP; rw [← ht] at e; exact e, hR⟩⟩, hS.F ht⟩) hS.2.2 dX4_drop_45
      ·
        exact absurd (nI_lt hyl (by omega)) c_18
  exact go _ _ _ hP hR hS
