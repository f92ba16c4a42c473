set_option maxHeartbeats 800000 in
set_option maxRecDepth 100000 in
theorem k_X4_allow (l : Launch) (D : va_G) (cI cZ cO : ClassId) {L : List Nat} {f : Nat → va_E} {tg : Nat → Nat} {AD : Nat → Nat → Nat} {mc : Nat → Int32} {F : Nat → Nat → Int32} {ik kp tu : Nat → Int32} {n : Nat} {he gv : Nat → Int32} {gp gb ob nm lo : Int32} (hR : Rep cI cO L f tg AD mc F ik kp tu n he gv gp gb ob nm lo) (A : Nat → Prop) (hL : L.Nodup) (hA : ∀ a, a ∈ L → A a) (x : Nat) (w : Nat) (b : Bool) (r : Int32) (sc : Int32)  (hM : okC F n) (hxn : x < n) (hw : w < 14) (hr7 : inB r 1 7 = true) (hs2 : inB sc 0 2 = true) (hl6 : i2n (F 6 x) < 6) (zA : Nat) (hAz : ∀ q, zA ≤ q → A q) (hne : ¬ A (AD 7 0)) : Met l yX4_allow wsX4_allow (rmb 7 190) (va_Pc [.ref (AD 0 0), .int (nI x), .int (nI w), .int (b2i b), .int r, .int sc] (rdY D ([(cI, .int), (cI, .int), (cO, .object "java/lang/Object")]) (va_pl L f) (aY D cO A (AD 7 0) zA))) (va_Qi (fun (r : Int32) (_ : Unit) => r = nI (i2n (F 6 x) + 1)) (fun _ t => PX D cI cO A (AD 0 0) (AD 7 0) (va_up (va_up (va_up (va_up (va_up F 6 (upd (F 6) x (nI (i2n (F 6 x) + 1)))) 7 (upd (F 7) (6 * x + i2n (F 6 x)) (nI w))) 8 (upd (F 8) (6 * x + i2n (F 6 x)) (b2i b))) 9 (upd (F 9) (6 * x + i2n (F 6 x)) r)) 10 (upd (F 10) (6 * x + i2n (F 6 x)) sc)) ik kp tu n he gv gp gb ob nm lo t) A) 2 26 A := by
  refine Met.ofW (cc := cX4_allow) (maxL := 7) (ret := (some .int)) (by decide) rfl ?_
  intro p e s m args below meth c s₁ B hml hv
  obtain ⟨hargs, ⟨hP, hK, hN⟩, hY⟩ := hv
  have hx := B.exec
  have hb := B.bytes
  have hr := B.returns
  have hts := atoms_spec (ws := wsX4_allow) B.pre
  have hown : s.vm.findClass RX4 = some m.cls := findClass_of_methodNamed B.named
  have hlocks := B.notSynchronized
  have hen : entryFrame m args 7 = entryFrame m ([.ref (AD 0 0), .int (nI x), .int (nI w), .int (b2i b), .int r, .int sc] : List Value).toArray 7 := by rw [hargs]
  rw [hen]
  have hl := lv_entry ([.ref (AD 0 0), .int (nI x), .int (nI w), .int (b2i b), .int r, .int sc]) (n := 7) (Nat.le_of_ble_eq_true rfl)
  rw [lg_entry_eq]
  generalize (lg_sl ([.ref (AD 0 0), .int (nI x), .int (nI w), .int (b2i b), .int r, .int sc]) ++ List.replicate (7 - (lg_sl ([.ref (AD 0 0), .int (nI x), .int (nI w), .int (b2i b), .int r, .int sc])).length) Slot.unset).toArray = ls at hl ⊢
  have hl : lv_has ls 7 [(0, .ref (AD 0 0)), (1, .int (nI x)), (2, .int (nI w)), (3, .int (b2i b)), (4, .int r), (5, .int sc)] := hl
  have hS : va_S A s.heap s.heap [] := va_S.rf
  generalize hQ : MQ below (va_Qi (fun (r : Int32) (_ : Unit) => r = nI (i2n (F 6 x) + 1)) (fun _ t => PX D cI cO A (AD 0 0) (AD 7 0) (va_up (va_up (va_up (va_up (va_up F 6 (upd (F 6) x (nI (i2n (F 6 x) + 1)))) 7 (upd (F 7) (6 * x + i2n (F 6 x)) (nI w))) 8 (upd (F 8) (6 * x + i2n (F 6 x)) (b2i b))) 9 (upd (F 9) (6 * x + i2n (F 6 x)) r)) 10 (upd (F 10) (6 * x + i2n (F 6 x)) sc)) ik kp tu n he gv gp gb ob nm lo t) A) args s 2 26 A = Q
  have go : ∀ (f : Nat → va_E) (H : Heap) (locs : List Loc), va_P D vwCl (va_pl L f) H → Rep cI cO L f tg AD mc F ik kp tu n he gv gp gb ob nm lo → va_S A s.heap H locs → W p l e (headSpec wsX4_allow (rmb 7 190)).room s m args below meth c H locs 0 0 Q (F0 m 0 ls []) := by
    intro f H locs hP hR hS
    refine lv_aload_n hx hb dX4_allow_0 rfl (lv_at hl 0 rfl) ?_
    refine lv_iload_n hx hb dX4_allow_1 rfl (lv_at hl 1 rfl) ?_
    obtain ⟨kp1, ep1⟩ := (hR.x).at
    refine va_csq (W.runV (As := [.int (nI x)]) (rest := []) ⟨hx, hb, hml, hown, hts⟩ (k_X4_folderAt l D cI cZ cO hR x (by omega)) (cwV 1 hts gX4_allow_X4_folderAt rfl rfl rfl (by decide +kernel) ⟨Nat.le_of_ble_eq_true rfl, Nat.le_of_ble_eq_true rfl⟩) ⟨rd_blind, va_recv hK hP (ci := 5) (q0 := kp1) rfl ep1, rd_pre hP hK hN⟩ rfl rfl hl.1 rfl (lv_room (Nat.le_of_ble_eq_true rfl)) dX4_allow_2 ⟨Nat.le_of_ble_eq_true rfl, Nat.le_of_ble_eq_true rfl⟩) (fun r er => ?_)
    subst er
    refine top_rf (q := AD 1 x) rfl ?_
    refine lv_astore (lv' := [(6, .ref (AD 1 x)), (0, .ref (AD 0 0)), (1, .int (nI x)), (2, .int (nI w)), (3, .int (b2i b)), (4, .int r), (5, .int sc)]) hx hb dX4_allow_5 hl (by decide) rfl (fun ls hl => ?_)
    refine lv_iload_n hx hb dX4_allow_7 rfl (lv_at hl 3 rfl) ?_
    refine lv_if_lt (tgt := 17) hx hb dX4_allow_8 (by decide) (fun c_8 => ?_) (fun c_8 => ?_)
    ·
      exact absurd c_8 (nI_pos (by omega))
    ·
      refine lv_iload_n hx hb dX4_allow_11 rfl (lv_at hl 3 rfl) ?_
      refine lv_bipush (v := 14) hx hb dX4_allow_12 (by decide) ?_
      refine lv_icmp_lt (tgt := 27) hx hb dX4_allow_14 (by decide) (fun c_14 => ?_) (fun c_14 => ?_)
      ·
        refine lv_iload hx hb dX4_allow_27 (lv_at hl 5 rfl) ?_
        refine lv_iconst (v := 1) hx hb dX4_allow_29 (by decide) ?_
        refine lv_icmp_lt (tgt := 51) hx hb dX4_allow_30 (by decide) (fun c_30 => ?_) (fun c_30 => ?_)
        ·
          exact absurd c_30 (inB_lo hr7)
        ·
          refine lv_iload hx hb dX4_allow_33 (lv_at hl 5 rfl) ?_
          refine lv_bipush (v := 7) hx hb dX4_allow_35 (by decide) ?_
          refine lv_icmp_gt (tgt := 51) hx hb dX4_allow_37 (by decide) (fun c_37 => ?_) (fun c_37 => ?_)
          ·
            exact absurd c_37 (inB_hi hr7)
          ·
            refine lv_iload hx hb dX4_allow_40 (lv_at hl 6 rfl) ?_
            refine lv_if_lt (tgt := 51) hx hb dX4_allow_42 (by decide) (fun c_42 => ?_) (fun c_42 => ?_)
            ·
              exact absurd c_42 (inB_lo hs2)
            ·
              refine lv_iload hx hb dX4_allow_45 (lv_at hl 6 rfl) ?_
              refine lv_iconst (v := 2) hx hb dX4_allow_47 (by decide) ?_
              refine lv_icmp_le (tgt := 61) hx hb dX4_allow_48 (by decide) (fun c_48 => ?_) (fun c_48 => ?_)
              ·
                refine lv_aload hx hb dX4_allow_61 (lv_at hl 0 rfl) ?_
                obtain ⟨kp2, ep2⟩ := (hR.fo (i := x) (by omega)).at
                refine va_get (D := D) (ci := 2) (v := .ref (AD 2 x)) (C := RX1) (T := TX1) (N := 7) hx hb hts (fun _ h => List.mem_cons_of_mem _ (List.mem_append_left _ (List.mem_append_left _ (List.mem_append_left _ (List.mem_append_left _ (List.mem_append_left _ (List.mem_append_left _ (List.mem_append_right _ (h))))))))) hown hK hP kp2 ep2 rfl 1 (by decide) (hts _ (List.mem_of_getElem? (i := 7) rfl)) (fun _ h9 => h9) rfl dX4_allow_63 ?_
                obtain ⟨kp3, ep3⟩ := (hR.ro (i := x) (by omega)).at
                obtain ⟨kp4, ep4⟩ := (hR.ro (i := x) (by omega)).at
                refine vp_callSi (W.runV (As := []) (rest := []) ⟨hx, hb, hml, hown, hts⟩ (k_Jx4a65c_size_8abf5 l D cI cZ cO ep3 ) (cwV 0 hts gX4_allow_Jx4a65c_size_8abf5 rfl rfl rfl (by decide +kernel) ⟨Nat.le_of_ble_eq_true rfl, Nat.le_of_ble_eq_true rfl⟩) ⟨rd_blind, va_recv hK hP (ci := 0) (q0 := kp4) rfl ep4, rd_pre hP hK hN⟩ rfl rfl hl.1 rfl (lv_room (Nat.le_of_ble_eq_true rfl)) dX4_allow_66 ⟨Nat.le_of_ble_eq_true rfl, Nat.le_of_ble_eq_true rfl⟩) (fun r er => ?_)
                subst er
                refine top_eq (y := nI (i2n (F 6 x))) (by exact (hM.len hxn).1) ?_
                refine lv_bipush (v := 6) hx hb dX4_allow_69 (by decide) ?_
                refine lv_icmp_lt (tgt := 84) hx hb dX4_allow_71 (by decide) (fun c_71 => ?_) (fun c_71 => ?_)
                ·
                  refine lv_aload hx hb dX4_allow_84 (lv_at hl 0 rfl) ?_
                  obtain ⟨kp5, ep5⟩ := (hR.fo (i := x) (by omega)).at
                  refine va_get (D := D) (ci := 2) (v := .ref (AD 2 x)) (C := RX1) (T := TX1) (N := 7) hx hb hts (fun _ h => List.mem_cons_of_mem _ (List.mem_append_left _ (List.mem_append_left _ (List.mem_append_left _ (List.mem_append_left _ (List.mem_append_left _ (List.mem_append_left _ (List.mem_append_right _ (h))))))))) hown hK hP kp5 ep5 rfl 1 (by decide) (hts _ (List.mem_of_getElem? (i := 7) rfl)) (fun _ h9 => h9) rfl dX4_allow_86 ?_
                  refine va_new (ci := 1) (fs := [.int 0, .int 0, .int 0, .int 0]) (C := RX0) (T := TX0) (N := 4) hx hb hts (fun _ h => List.mem_cons_of_mem _ (List.mem_append_left _ (List.mem_append_left _ (List.mem_append_left _ (List.mem_append_left _ (List.mem_append_left _ (List.mem_append_right _ (h)))))))) tyX0 tyX0_ok hown (hts _ (List.mem_of_getElem? (i := 8) rfl)) (hts _ (List.mem_of_getElem? (i := 9) rfl)) (hts _ (List.mem_of_getElem? (i := 10) rfl)) hK hP (pl_D hL hA) hS (fun q hq => hAz q (Nat.le_trans hY.2.2.2.2 hq)) rfl (fun j hj => by rcases (show j = 0 ∨ j = 1 ∨ j = 2 ∨ j = 3 by omega) with rfl | rfl | rfl | rfl <;> rfl) (Nat.le_of_ble_eq_true rfl) (Nat.le_of_ble_eq_true rfl) dX4_allow_89 (fun b9 H hP hD9 hS => ?_)
                  obtain ⟨hb9, hL9, hA9, -, -, -, -⟩ := pl_new (tg := tg) (t := 1000) hL hA hP hD9
                  refine lv_dup hx hb dX4_allow_92 rfl ?_
                  refine lv_iload_n hx hb dX4_allow_93 rfl (lv_at hl 3 rfl) ?_
                  refine lv_iload_n hx hb dX4_allow_94 rfl (lv_at hl 4 rfl) ?_
                  refine lv_iload hx hb dX4_allow_95 (lv_at hl 5 rfl) ?_
                  refine lv_iload hx hb dX4_allow_97 (lv_at hl 6 rfl) ?_
                  have hPb : va_P D vwCl [(b9, .inr (1, [.int 0, .int 0, .int 0, .int 0]))] H := va_P_in hP (fun q hq => List.mem_append_right _ hq)
                  have hAb : A b9 := hA9 _ (List.mem_append_right _ List.mem_cons_self)
                  refine va_callv (va_runI (As := [.int (nI w), .int (b2i b), .int r, .int sc]) (rest := [.ref b9, .ref (AD 2 x)]) ⟨hx, hb, hml, hown, hts⟩ (k_X0i l D cI cZ cO b9 (nI w) b r sc) (cwI 4 hts gX4_allow_X0_init rfl rfl rfl (hts _ (List.mem_of_getElem? (i := 10) rfl)) (hts _ (List.mem_of_getElem? (i := 41) rfl)) (hts _ (List.mem_of_getElem? (i := 42) rfl)) rfl (by decide +kernel) ⟨Nat.le_of_ble_eq_true rfl, Nat.le_of_ble_eq_true rfl⟩) ⟨rd_blind, rd_pre hPb hK hN⟩ rfl rfl hl.1 rfl (lv_room (Nat.le_of_ble_eq_true rfl)) dX4_allow_99 ⟨Nat.le_of_ble_eq_true rfl, Nat.le_of_ble_eq_true rfl⟩) hS (fun q _ h => by rw [show q = b9 from h]; exact hAb) (fun q h => by rw [show q = b9 from h]; exact hAb) (fun u t H2 locs ht hvm hw2 hB hz1 hk1 hS => ?_)
                  rw [ht] at hB
                  have hP9 := pl_call1 hP hb9 hk1 hB
                  have hg9 : extL L (L ++ [b9]) f (va_up f b9 (.inr (1, [.int (nI w), .int (b2i b), .int r, .int sc]))) tg (va_up tg b9 1000) := extL.push hb9
                  have hR9 := hR.ext hg9
                  have hE9 : Hs (L ++ [b9]) (va_up f b9 (.inr (1, [.int (nI w), .int (b2i b), .int r, .int sc]))) b9 (.inr (1, [.int (nI w), .int (b2i b), .int r, .int sc])) := ⟨List.mem_append_right _ List.mem_cons_self, va_up_self _ _ _⟩
                  have htb : 1000 ≤ va_up tg b9 1000 b9 := by rw [va_up_self]; exact Nat.le_refl _
                  have TAIL : ∀ (L2 : List Nat) (f2 : Nat → va_E) (tg2 : Nat → Nat) (AD2 : Nat → Nat → Nat) (mc2 : Nat → Int32) (H2 : Heap) (locs2 : List Loc), L2.Nodup → (∀ a, a ∈ L2 → A a) → AD2 1 = AD 1 → AD2 0 = AD 0 → AD2 7 = AD 7 → va_P D vwCl (va_pl L2 f2) H2 → Rep cI cO L2 f2 tg2 AD2 mc2 (va_up (va_up (va_up (va_up (va_up F 6 (upd (F 6) x (nI (i2n (F 6 x) + 1)))) 7 (upd (F 7) (6 * x + i2n (F 6 x)) (nI w))) 8 (upd (F 8) (6 * x + i2n (F 6 x)) (b2i b))) 9 (upd (F 9) (6 * x + i2n (F 6 x)) r)) 10 (upd (F 10) (6 * x + i2n (F 6 x)) sc)) ik kp tu n he gv gp gb ob nm lo → va_S A s.heap H2 locs2 → W p l e (headSpec wsX4_allow (rmb 7 190)).room s m args below meth c H2 locs2 2 26 Q (F0 m 105 ls [.int (b2i true)]) := by
                    intro L2 f2 tg2 AD2 mc2 H2 locs2 hL2 hA2 g1 g0 g7 hP hR hS
                    refine lv_pop hx hb dX4_allow_105 rfl ?_
                    refine lv_aload hx hb dX4_allow_106 (lv_at hl 0 rfl) ?_
                    have hfo := hR.fo hxn
                    rw [g1] at hfo
                    obtain ⟨k1, e1⟩ := hfo.at
                    refine va_get (D := D) (ci := 2) (v := .ref (AD2 2 x)) (C := RX1) (T := TX1) (N := 7) hx hb hts (fun _ h => List.mem_cons_of_mem _ (List.mem_append_left _ (List.mem_append_left _ (List.mem_append_left _ (List.mem_append_left _ (List.mem_append_left _ (List.mem_append_left _ (List.mem_append_right _ (h))))))))) hown hK hP k1 e1 rfl 1 (by decide) (hts _ (List.mem_of_getElem? (i := 7) rfl)) (fun _ h9 => h9) rfl dX4_allow_108 ?_
                    obtain ⟨k2, e2⟩ := (hR.ro hxn).at
                    refine vp_callSi (W.runV (As := []) (rest := []) ⟨hx, hb, hml, hown, hts⟩ (k_Jx4a65c_size_8abf5 l D cI cZ cO e2) (cwV 0 hts gX4_allow_Jx4a65c_size_8abf5 rfl rfl rfl (by decide +kernel) ⟨Nat.le_of_ble_eq_true rfl, Nat.le_of_ble_eq_true rfl⟩) ⟨rd_blind, va_recv hK hP (ci := 0) (q0 := k2) rfl e2, rd_pre hP hK hN⟩ rfl rfl hl.1 rfl (lv_room (Nat.le_of_ble_eq_true rfl)) dX4_allow_111 ⟨Nat.le_of_ble_eq_true rfl, Nat.le_of_ble_eq_true rfl⟩) (fun r9 er => ?_)
                    subst er
                    subst hQ
                    exact W.iret hx hb hr (fun t ht hW => ⟨⟨_, (), rfl, (show upd (F 6) x (nI (i2n (F 6 x) + 1)) x = _ from pk_us), ⟨L2, tg2, AD2, mc2, hL2, hA2, by rw [g0], by rw [g7], f2, by have e := hP; rw [← ht] at e; exact e, hR⟩⟩, hS.F ht⟩) hS.2.2 dX4_allow_114
                  have hV := ent_any hE9 hK hP9 hY.1
                  have hva : b9 ≠ AD 2 x := fun e => hb9 (by rw [e]; exact (hR.ro hxn).1)
                  have hAa : A (AD 2 x) := hA _ (hR.ro hxn).1
                  have hvz : b9 < H2.size := hV.lt
                  rcases row_disj hR hxn with ⟨h60, h47⟩ | ⟨t4, qd, hq1, hq2⟩
                  ·
                    have h06 : i2n (F 6 x) = 0 := by rw [h60]; rfl
                    have hro9 := hR9.ro hxn
                    rw [h47, h60] at hro9
                    have hPl : va_P D vwCl (l1W (AD 2 x) (mc (x + 1)) (AD 7 0) (nI 0)) H2 := va_P_in hP9 (fun q hq => by rw [List.mem_singleton] at hq; rw [hq]; exact hro9.mem)
                    have hAs : ∀ q, alZ (AD 2 x) H2.size q → A q := fun q h => h.elim (fun e => by rw [e]; exact hAa) (fun h => hAz q (Nat.le_trans hY.2.2.2.2 (Nat.le_trans hS.1 h)))
                    refine va_calli (va_runV (As := [.ref b9]) (rest := []) ⟨hx, hb, hml, hown, hts⟩ (k_addC2 l D cI cZ cO (AD 2 x) (AD 7 0) H2.size (mc (x + 1)) b9 hva hvz) (cwV 1 hts gX4_allow_Jx4a65c_add_9ea2d rfl rfl rfl (by decide +kernel) ⟨Nat.le_of_ble_eq_true rfl, Nat.le_of_ble_eq_true rfl⟩) ⟨rdH_blind, va_recv hK hPl (ci := 0) (q0 := 0) rfl rfl, hY.pre hS hne hAa hAz hPl hK hN hV⟩ rfl rfl hl.1 rfl (lv_room (Nat.le_of_ble_eq_true rfl)) dX4_allow_102 ⟨Nat.le_of_ble_eq_true rfl, Nat.le_of_ble_eq_true rfl⟩) hS (fun q _ h => hAs q h) hAs (fun r9 c9 t H3 locs3 ht hvm hw2 hB hz1 hk1 hS => ?_)
                    subst hw2
                    obtain ⟨hP3, hz9, hn9⟩ := hB
                    rw [ht] at hP3
                    obtain ⟨L3, f3, tg3, hL3, hA3, hP4, hR3⟩ := hR9.fin_C (F' := va_up (va_up (va_up (va_up (va_up F 6 (upd (F 6) x (nI (i2n (F 6 x) + 1)))) 7 (upd (F 7) (6 * x + i2n (F 6 x)) (nI w))) 8 (upd (F 8) (6 * x + i2n (F 6 x)) (b2i b))) 9 (upd (F 9) (6 * x + i2n (F 6 x)) r)) 10 (upd (F 10) (6 * x + i2n (F 6 x)) sc)) hM hxn h06 hL9 hA9 (hAs c9 (Or.inr hz9)) hP9 hk1 hP3 hz9 (by show Hs _ _ b9 (.inr (1, [.int (upd (F 7) (6 * x + i2n (F 6 x)) (nI w) (6 * x + 0)), .int (upd (F 8) (6 * x + i2n (F 6 x)) (b2i b) (6 * x + 0)), .int (upd (F 9) (6 * x + i2n (F 6 x)) r (6 * x + 0)), .int (upd (F 10) (6 * x + i2n (F 6 x)) sc (6 * x + 0))])); rw [h06, pk_us, pk_us, pk_us, pk_us]; exact hE9) htb rfl rfl rfl rfl rfl (by show upd (F 6) x (nI (i2n (F 6 x) + 1)) = _; rw [h06]) (fun j hj => by have hj2 : j ≠ (6 * x + i2n (F 6 x)) := by { rw [h06]; exact hj }; exact ⟨pk_un hj2, pk_un hj2, pk_un hj2, pk_un hj2⟩)
                    refine W.widen (k := 2) (n := 26) (Nat.le_of_ble_eq_true rfl) (Nat.le_of_ble_eq_true rfl) ?_
                    exact TAIL _ _ _ _ _ _ _ hL3 hA3 (adA_ne (by decide) (by decide)) (adA_ne (by decide) (by decide)) (adA_ne (by decide) (by decide)) hP4 hR3 hS
                  ·
                    have hq3 := hq1.ext hg9
                    have t5 : va_up tg b9 1000 (AD 4 x) = 400 + x := by rw [hq1.tge hg9]; exact t4
                    have hPa := hR9.alP hxn hq3 hP9
                    refine va_calli (va_runV (As := [.ref b9]) (rest := []) ⟨hx, hb, hml, hown, hts⟩ (k_addA2 l D cI cZ cO (fun z => AD (2 + 2 * z) x) 10 (alA AD x) qd (mc (x + 1)) (F 6 x) (hR9.alAp hxn t5) b9 (i2n (F 6 x)) (hM.len hxn).1 (by omega) (by decide) (fun j hj y hy hc => by cases hy; exact hc.elim hva (fun e => hb9 (by rw [e]; exact hq1.1)))) (cwV 1 hts gX4_allow_Jx4a65c_add_9ea2d rfl rfl rfl (by decide +kernel) ⟨Nat.le_of_ble_eq_true rfl, Nat.le_of_ble_eq_true rfl⟩) ⟨rdY_blind, va_recv hK hPa (ci := 0) (q0 := 0) rfl rfl, rdY_pre hPa hK hN (fun j hj y hy => by cases hy; exact hV)⟩ rfl rfl hl.1 rfl (lv_room (Nat.le_of_ble_eq_true rfl)) dX4_allow_102 ⟨Nat.le_of_ble_eq_true rfl, Nat.le_of_ble_eq_true rfl⟩) hS (fun q _ h => hR9.alSub hxn hq3 hA9 h) (fun q h => hR9.alSub hxn hq3 hA9 h) (fun r9 u9 t H3 locs3 ht hvm hw2 hB hz1 hk1 hS => ?_)
                    subst hw2
                    rw [ht] at hB
                    obtain ⟨f3, hP4, hR3⟩ := hR9.fin_A (F' := va_up (va_up (va_up (va_up (va_up F 6 (upd (F 6) x (nI (i2n (F 6 x) + 1)))) 7 (upd (F 7) (6 * x + i2n (F 6 x)) (nI w))) 8 (upd (F 8) (6 * x + i2n (F 6 x)) (b2i b))) 9 (upd (F 9) (6 * x + i2n (F 6 x)) r)) 10 (upd (F 10) (6 * x + i2n (F 6 x)) sc)) hM hxn rfl hl6 t5 hq3 hq2 hP9 hk1 hB (by show Hs _ _ b9 (.inr (1, [.int (upd (F 7) (6 * x + i2n (F 6 x)) (nI w) (6 * x + i2n (F 6 x))), .int (upd (F 8) (6 * x + i2n (F 6 x)) (b2i b) (6 * x + i2n (F 6 x))), .int (upd (F 9) (6 * x + i2n (F 6 x)) r (6 * x + i2n (F 6 x))), .int (upd (F 10) (6 * x + i2n (F 6 x)) sc (6 * x + i2n (F 6 x)))])); rw [pk_us, pk_us, pk_us, pk_us]; exact hE9) htb rfl rfl rfl rfl rfl rfl (fun j hj => ⟨pk_un hj, pk_un hj, pk_un hj, pk_un hj⟩)
                    refine W.widen (k := 2) (n := 26) (Nat.le_of_ble_eq_true rfl) (Nat.le_of_ble_eq_true rfl) ?_
                    exact TAIL _ _ _ _ _ _ _ hL9 hA9 (adA_ne (by decide) (by decide)) (adA_ne (by decide) (by decide)) (adA_ne (by decide) (by decide)) hP4 hR3 hS
                ·
                  exact absurd (nI_lt hl6 (by decide)) c_71
              ·
                exact absurd (inB_le hs2) c_48
      ·
        exact absurd (nI_lt hw (by decide)) c_14
  exact go _ _ _ hP hR hS
