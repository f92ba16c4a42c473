set_option maxHeartbeats 800000 in
set_option maxRecDepth 100000 in
theorem hg_setInherits (l : Launch) (D : va_G) (cI cZ cO cJ : ClassId) {A : Nat → Prop} {L : List Nat} {f : Nat → va_E} {e0 z mi ou x0 : Nat} {w : Nat → Int64} {fs : List Value} (a1 : Int32) (a2 : Int32) {F : Nat → Nat → Int32} {ik kp tu : Nat → Int32} {n : Nat} {rm0 : Room} {mc ms : Nat} {v : Int32} (hM : Met l yX4_setInherits wsX4_setInherits rm0 (va_Pc [.ref x0, .int a1, .int a2] (CW D cI cZ cO A L f e0 z mi)) (va_Qi (fun (r : Int32) (_ : Unit) => r = v) (fun _ t => CX D cI cO A x0 e0 F ik kp tu n t.heap) A) mc ms A) (hrm : hRM rm0 mc ms) (hrec : Hs L f x0 (.inr (5, fs))) (hou : ¬ A ou) : HC l yL_setInherits wsL_setInherits D cI cZ cO cJ A L f x0 e0 z mi ou w [.ref x0, .int a1, .int a2, .ref ou] 0 (if v = 0 then 0 else 1) F ik kp tu n := by
  obtain ⟨hr1, hr2, hr3, hr4, hr5, hr6⟩ := hrm
  unfold HC
  refine hc_ofWH (cc := cL_setInherits) (maxL := 5) (ret := (some .int)) (hh := [(0, 17, 20, 13)]) (by decide) rfl ?_
  intro p e s m args below meth c s₁ B hml hv
  obtain ⟨hargs, hC, hPo, hKJ, hNc⟩ := hv
  obtain ⟨⟨hP, hK, hN⟩, hX, hY⟩ := id hC
  have hx := B.exec
  have hb := B.bytes
  have hr := B.returns
  have hts := atoms_spec (ws := wsL_setInherits) B.pre
  have hown : s.vm.findClass RL = some m.cls := findClass_of_methodNamed B.named
  have hlocks := B.notSynchronized
  have hen : entryFrame m args 5 = entryFrame m ([.ref x0, .int a1, .int a2, .ref ou] : List Value).toArray 5 := by rw [hargs]
  rw [hen]
  have hl := lv_entry ([.ref x0, .int a1, .int a2, .ref ou]) (n := 5) (Nat.le_of_ble_eq_true rfl)
  rw [lg_entry_eq]
  generalize (lg_sl ([.ref x0, .int a1, .int a2, .ref ou]) ++ List.replicate (5 - (lg_sl ([.ref x0, .int a1, .int a2, .ref ou])).length) Slot.unset).toArray = ls at hl ⊢
  have hl : lv_has ls 5 [(0, .ref x0), (1, .int a1), (2, .int a2), (3, .ref ou)] := hl
  generalize hQ : MQ below (va_Qi (fun (r : Int32) (w' : Nat → Int64) => r = 0 ∧ ((0 : Int32) = 0 → w' 0 = (if v = 0 then 0 else 1))) (fun w' t => CX D cI cO A x0 e0 F ik kp tu n t.heap ∧ va_P D vwCl [(ou, lgC cJ w')] t.heap) (fun q => A q ∨ q = ou)) args s 4 40 (fun q => A q ∨ q = ou) = Q
  obtain ⟨k5, e5⟩ := hrec.at
  refine lv_aload_n hx hb dL_setInherits_0 rfl (lv_at hl 3 rfl) ?_
  refine lv_iconst (v := 0) hx hb dL_setInherits_1 (by decide) ?_
  refine top_eq (y := nI 0) rfl ?_
  refine lv_aload_n hx hb dL_setInherits_2 rfl (lv_at hl 0 rfl) ?_
  refine lv_iload_n hx hb dL_setInherits_3 rfl (lv_at hl 1 rfl) ?_
  refine lv_iload_n hx hb dL_setInherits_4 rfl (lv_at hl 2 rfl) ?_
  have hS : va_S (fun q => A q ∨ q = ou) s.heap s.heap [] := va_S.rf
  refine va_calli (va_runV (As := [.int a1, .int a2]) (rest := [.int (nI 0), .ref ou]) ⟨hx, hb, hml, hown, hts⟩ hM (cwV 2 hts gL_setInherits_X4_setInherits rfl hr1 hr2 (by decide +kernel) ⟨(show rm0.frames + 1 ≤ 9 by omega), (show 8 + (5 + 11) + rm0.locals ≤ 300 by omega)⟩) ⟨CW.blind, va_recv hK hP (ci := 5) (q0 := k5) rfl e5, fun U hU hW => ⟨rfl, CW.move hU hW hC⟩⟩ rfl rfl hl.1 rfl (lv_room (Nat.le_of_ble_eq_true rfl)) dL_setInherits_5 ⟨(show 0 + mc ≤ 4 by omega), (show 0 + ms ≤ 40 by omega)⟩) hS (fun q _ h => Or.inl h) (fun q h => Or.inl h) (fun r u9 t H1 locs1 ht hvm hw hB hz1 hk1 hS => ?_)
  rw [hw]
  rw [ht] at hB
  have hPo1 : va_P D vwCl [(ou, lgC cJ w)] H1 := hPo.kept (fun k x hk => hk1 x.1 (va_at.lt (hPo k x hk)) (by have hm := List.mem_of_getElem? hk; rw [List.mem_singleton] at hm; rw [hm]; exact hou))
  obtain ⟨he9, gv9, gp9, gb9, ob9, nm9, lo9, L9, f9, tg9, AD9, mc9, hL9, hA9, hx9, he90, hP9, hR9⟩ := hB
  have STO : ∀ y9 : Int64, y9 = (if v = 0 then 0 else 1) → W p l e (headSpec wsL_setInherits rmh).room s m args below meth c H1 locs1 (0 + mc) (0 + ms) Q (F0 m 16 ls [.long y9, .int (nI 0), .ref ou]) := by
    intro y9 ey
    refine st_l (k := 0) hx hb hKJ (ws := (ou, lgC cJ w) :: va_pl L9 f9) (va_P.app (w1 := [(ou, lgC cJ w)]) hPo1 hP9) (od_D hL9 hA9 hou) hS 0 0 rfl rfl (by decide) (by decide) dL_setInherits_16 (fun H2 locs2 hP2 _ hS2 => ?_)
    refine lv_goto (tgt := 24) hx hb dL_setInherits_17 (by decide) ?_
    refine lv_iconst (v := 0) hx hb dL_setInherits_24 (by decide) ?_
    subst hQ
    refine W.widen (k := 4) (n := 40) (by omega) (by omega) ?_
    have hP3 : va_P D vwCl ((ou, lgC cJ (vp_updL w 0 y9)) :: va_pl L9 f9) H2 := hP2
    exact W.iret hx hb hr (fun t ht hW => ⟨⟨0, vp_updL w 0 y9, rfl, ⟨rfl, fun _ => (show vp_updL w 0 y9 0 = y9 from if_pos rfl).trans ey⟩, (show CX D cI cO A x0 e0 F ik kp tu n t.heap ∧ va_P D vwCl [(ou, lgC cJ (vp_updL w 0 y9))] t.heap from by rw [ht]; exact ⟨⟨he9, gv9, gp9, gb9, ob9, nm9, lo9, L9, f9, tg9, AD9, mc9, hL9, hA9, hx9, he90, va_P_in hP3 (fun q hq => List.mem_cons_of_mem _ hq), hR9⟩, va_P_in hP3 (fun q hq => by rw [List.mem_singleton] at hq; rw [hq]; exact List.mem_cons_self)⟩)⟩, hS2.F ht⟩) hS2.2.2 dL_setInherits_25
  refine lv_if_eq (tgt := 15) hx hb dL_setInherits_8 (by decide) (fun c0 => ?_) (fun c0 => ?_)
  · refine lv_lconst (v := 0) hx hb dL_setInherits_15 (by decide) ?_
    exact STO _ (if_pos c0).symm
  · refine lv_lconst (v := 1) hx hb dL_setInherits_11 (by decide) ?_
    refine lv_goto (tgt := 16) hx hb dL_setInherits_12 (by decide) ?_
    exact STO _ (if_neg c0).symm
set_option maxHeartbeats 800000 in
set_option maxRecDepth 100000 in
theorem hb_setInherits_1 (l : Launch) (D : va_G) (cI cZ cO cJ : ClassId) {A : Nat → Prop} {L : List Nat} {f : Nat → va_E} {e0 z mi ou x0 : Nat} {w : Nat → Int64} {fs : List Value} (a1 : Int32) (a2 : Int32) {F : Nat → Nat → Int32} {ik kp tu : Nat → Int32} {n : Nat} {f9 n9 : Nat} {v : Int64} (hM : vx_Met l yX4_setInherits wsX4_setInherits (rmx f9 n9) (va_Pc [.ref x0, .int a1, .int a2] (CW D cI cZ cO A L f e0 z mi)) xQc (xXC "java/lang/IndexOutOfBoundsException") 1 6 (fun _ => False)) (hf9 : f9 ≤ 8) (hn9 : n9 ≤ 255) (hrec : Hs L f x0 (.inr (5, fs))) (hou : ¬ A ou) (hL : L.Nodup) (hA : ∀ a, a ∈ L → A a) (hC0 : ∀ H : Heap, va_P D vwCl (va_pl L f) H → CX D cI cO A x0 e0 F ik kp tu n H) : HC l yL_setInherits wsL_setInherits D cI cZ cO cJ A L f x0 e0 z mi ou w [.ref x0, .int a1, .int a2, .ref ou] 1 v F ik kp tu n := by
  unfold HC
  refine hc_ofWH (cc := cL_setInherits) (maxL := 5) (ret := (some .int)) (hh := [(0, 17, 20, 13)]) (by decide) rfl ?_
  intro p e s m args below meth c s₁ B hml hv
  obtain ⟨hargs, hC, hPo, hKJ, hNc⟩ := hv
  obtain ⟨⟨hP, hK, hN⟩, hX, hY⟩ := id hC
  have hx := B.exec
  have hb := B.bytes
  have hr := B.returns
  have hts := atoms_spec (ws := wsL_setInherits) B.pre
  have hown : s.vm.findClass RL = some m.cls := findClass_of_methodNamed B.named
  have hlocks := B.notSynchronized
  have hen : entryFrame m args 5 = entryFrame m ([.ref x0, .int a1, .int a2, .ref ou] : List Value).toArray 5 := by rw [hargs]
  rw [hen]
  have hl := lv_entry ([.ref x0, .int a1, .int a2, .ref ou]) (n := 5) (Nat.le_of_ble_eq_true rfl)
  rw [lg_entry_eq]
  generalize (lg_sl ([.ref x0, .int a1, .int a2, .ref ou]) ++ List.replicate (5 - (lg_sl ([.ref x0, .int a1, .int a2, .ref ou])).length) Slot.unset).toArray = ls at hl ⊢
  have hl : lv_has ls 5 [(0, .ref x0), (1, .int a1), (2, .int a2), (3, .ref ou)] := hl
  generalize hQ : MQ below (va_Qi (fun (r : Int32) (w' : Nat → Int64) => r = 1 ∧ ((1 : Int32) = 0 → w' 0 = v)) (fun w' t => CX D cI cO A x0 e0 F ik kp tu n t.heap ∧ va_P D vwCl [(ou, lgC cJ w')] t.heap) (fun q => A q ∨ q = ou)) args s 4 40 (fun q => A q ∨ q = ou) = Q
  obtain ⟨k5, e5⟩ := hrec.at
  refine lv_aload_n hx hb dL_setInherits_0 rfl (lv_at hl 3 rfl) ?_
  refine lv_iconst (v := 0) hx hb dL_setInherits_1 (by decide) ?_
  refine top_eq (y := nI 0) rfl ?_
  refine lv_aload_n hx hb dL_setInherits_2 rfl (lv_at hl 0 rfl) ?_
  refine lv_iload_n hx hb dL_setInherits_3 rfl (lv_at hl 1 rfl) ?_
  refine lv_iload_n hx hb dL_setInherits_4 rfl (lv_at hl 2 rfl) ?_
  have hct := vx_table (x := yL_setInherits) B (hts _ List.mem_cons_self)
  refine xx_call (vx_runV (As := [.int a1, .int a2]) (rest := [.int (nI 0), .ref ou]) ⟨hx, hb, hml, hown, hts⟩ hM (cwV 2 hts gL_setInherits_X4_setInherits rfl rfl rfl (by decide +kernel) ⟨(show f9 + 1 ≤ 9 by omega), (show 8 + (5 + 11) + n9 ≤ 300 by omega)⟩) ⟨CW.blind, va_recv hK hP (ci := 5) (q0 := k5) rfl e5, fun U hU hW => ⟨rfl, CW.move hU hW hC⟩⟩ rfl rfl hl.1 rfl (lv_room (Nat.le_of_ble_eq_true rfl)) dL_setInherits_5 ⟨Nat.le_of_ble_eq_true rfl, Nat.le_of_ble_eq_true rfl⟩) (fun q9 ce H1 hz1 hk1 hcell hvn hcl => ?_)
  refine vx_catch (own := RL) (name := "java/lang/IndexOutOfBoundsException") hown [] ⟨0, 17, 20, 13⟩ [] (hct.trans rfl) (fun _ h9 => absurd h9 List.not_mem_nil) (by decide) (by decide) (hts _ (List.mem_of_getElem? (i := 1) rfl)) (va_Nw.use rfl (hX.2.2.1 "java/lang/IndexOutOfBoundsException" (by decide))) hcell hvn hcl ?_
  refine lv_astore (lv' := [(4, .ref q9), (0, .ref x0), (1, .int a1), (2, .int a2), (3, .ref ou)]) hx hb dL_setInherits_20 hl (by decide) rfl (fun ls hl => ?_)
  refine lv_iconst (v := 1) hx hb dL_setInherits_22 (by decide) ?_
  have hS : va_S (fun q => A q ∨ q = ou) s.heap H1 [] := ⟨hz1, fun q h _ => hk1 q h, fun _ h => nomatch h⟩
  have hPo1 : va_P D vwCl [(ou, lgC cJ w)] H1 := hPo.kept (fun k x hk => hk1 x.1 (va_at.lt (hPo k x hk)))
  have hP1 : va_P D vwCl (va_pl L f) H1 := hP.kept (fun k x hk => hk1 x.1 (va_at.lt (hP k x hk)))
  subst hQ
  refine W.widen (k := 4) (n := 40) (Nat.le_of_ble_eq_true rfl) (Nat.le_of_ble_eq_true rfl) ?_
  exact W.iret hx hb hr (fun t ht hW => ⟨⟨1, w, rfl, ⟨rfl, fun h => absurd h (by decide)⟩, (show CX D cI cO A x0 e0 F ik kp tu n t.heap ∧ va_P D vwCl [(ou, lgC cJ w)] t.heap from by rw [ht]; exact ⟨hC0 _ hP1, hPo1⟩)⟩, hS.F ht⟩) hS.2.2 dL_setInherits_23
set_option maxHeartbeats 800000 in
set_option maxRecDepth 100000 in
theorem hg_allow (l : Launch) (D : va_G) (cI cZ cO cJ : ClassId) {A : Nat → Prop} {L : List Nat} {f : Nat → va_E} {e0 z mi ou x0 : Nat} {w : Nat → Int64} {fs : List Value} (a1 : Int32) (a2 : Int32) (a3 : Int32) (a4 : Int32) (a5 : Int32) {F : Nat → Nat → Int32} {ik kp tu : Nat → Int32} {n : Nat} {rm0 : Room} {mc ms : Nat} {v : Int32} (hM : Met l yX4_allow wsX4_allow rm0 (va_Pc [.ref x0, .int a1, .int a2, .int a3, .int a4, .int a5] (CW D cI cZ cO A L f e0 z mi)) (va_Qi (fun (r : Int32) (_ : Unit) => r = v) (fun _ t => CX D cI cO A x0 e0 F ik kp tu n t.heap) A) mc ms A) (hrm : hRM rm0 mc ms) (hrec : Hs L f x0 (.inr (5, fs))) (hou : ¬ A ou) : HC l yL_allow wsL_allow D cI cZ cO cJ A L f x0 e0 z mi ou w [.ref x0, .int a1, .int a2, .int a3, .int a4, .int a5, .ref ou] 0 v.toInt64 F ik kp tu n := by
  obtain ⟨hr1, hr2, hr3, hr4, hr5, hr6⟩ := hrm
  unfold HC
  refine hc_ofWH (cc := cL_allow) (maxL := 8) (ret := (some .int)) (hh := [(0, 16, 19, 13), (0, 16, 23, 40), (0, 16, 27, 19)]) (by decide) rfl ?_
  intro p e s m args below meth c s₁ B hml hv
  obtain ⟨hargs, hC, hPo, hKJ, hNc⟩ := hv
  obtain ⟨⟨hP, hK, hN⟩, hX, hY⟩ := id hC
  have hx := B.exec
  have hb := B.bytes
  have hr := B.returns
  have hts := atoms_spec (ws := wsL_allow) B.pre
  have hown : s.vm.findClass RL = some m.cls := findClass_of_methodNamed B.named
  have hlocks := B.notSynchronized
  have hen : entryFrame m args 8 = entryFrame m ([.ref x0, .int a1, .int a2, .int a3, .int a4, .int a5, .ref ou] : List Value).toArray 8 := by rw [hargs]
  rw [hen]
  have hl := lv_entry ([.ref x0, .int a1, .int a2, .int a3, .int a4, .int a5, .ref ou]) (n := 8) (Nat.le_of_ble_eq_true rfl)
  rw [lg_entry_eq]
  generalize (lg_sl ([.ref x0, .int a1, .int a2, .int a3, .int a4, .int a5, .ref ou]) ++ List.replicate (8 - (lg_sl ([.ref x0, .int a1, .int a2, .int a3, .int a4, .int a5, .ref ou])).length) Slot.unset).toArray = ls at hl ⊢
  have hl : lv_has ls 8 [(0, .ref x0), (1, .int a1), (2, .int a2), (3, .int a3), (4, .int a4), (5, .int a5), (6, .ref ou)] := hl
  generalize hQ : MQ below (va_Qi (fun (r : Int32) (w' : Nat → Int64) => r = 0 ∧ ((0 : Int32) = 0 → w' 0 = v.toInt64)) (fun w' t => CX D cI cO A x0 e0 F ik kp tu n t.heap ∧ va_P D vwCl [(ou, lgC cJ w')] t.heap) (fun q => A q ∨ q = ou)) args s 4 40 (fun q => A q ∨ q = ou) = Q
  obtain ⟨k5, e5⟩ := hrec.at
  refine lv_aload hx hb dL_allow_0 (lv_at hl 6 rfl) ?_
  refine lv_iconst (v := 0) hx hb dL_allow_2 (by decide) ?_
  refine top_eq (y := nI 0) rfl ?_
  refine lv_aload_n hx hb dL_allow_3 rfl (lv_at hl 0 rfl) ?_
  refine lv_iload_n hx hb dL_allow_4 rfl (lv_at hl 1 rfl) ?_
  refine lv_iload_n hx hb dL_allow_5 rfl (lv_at hl 2 rfl) ?_
  refine lv_iload_n hx hb dL_allow_6 rfl (lv_at hl 3 rfl) ?_
  refine lv_iload hx hb dL_allow_7 (lv_at hl 4 rfl) ?_
  refine lv_iload hx hb dL_allow_9 (lv_at hl 5 rfl) ?_
  have hS : va_S (fun q => A q ∨ q = ou) s.heap s.heap [] := va_S.rf
  refine va_calli (va_runV (As := [.int a1, .int a2, .int a3, .int a4, .int a5]) (rest := [.int (nI 0), .ref ou]) ⟨hx, hb, hml, hown, hts⟩ hM (cwV 5 hts gL_allow_X4_allow rfl hr1 hr2 (by decide +kernel) ⟨(show rm0.frames + 1 ≤ 9 by omega), (show 8 + (7 + 11) + rm0.locals ≤ 300 by omega)⟩) ⟨CW.blind, va_recv hK hP (ci := 5) (q0 := k5) rfl e5, fun U hU hW => ⟨rfl, CW.move hU hW hC⟩⟩ rfl rfl hl.1 rfl (lv_room (Nat.le_of_ble_eq_true rfl)) dL_allow_11 ⟨(show 0 + mc ≤ 4 by omega), (show 0 + ms ≤ 40 by omega)⟩) hS (fun q _ h => Or.inl h) (fun q h => Or.inl h) (fun r u9 t H1 locs1 ht hvm hw hB hz1 hk1 hS => ?_)
  rw [hw]
  rw [ht] at hB
  have hPo1 : va_P D vwCl [(ou, lgC cJ w)] H1 := hPo.kept (fun k x hk => hk1 x.1 (va_at.lt (hPo k x hk)) (by have hm := List.mem_of_getElem? hk; rw [List.mem_singleton] at hm; rw [hm]; exact hou))
  obtain ⟨he9, gv9, gp9, gb9, ob9, nm9, lo9, L9, f9, tg9, AD9, mc9, hL9, hA9, hx9, he90, hP9, hR9⟩ := hB
  have STO : ∀ y9 : Int64, y9 = v.toInt64 → W p l e (headSpec wsL_allow rmh).room s m args below meth c H1 locs1 (0 + mc) (0 + ms) Q (F0 m 15 ls [.long y9, .int (nI 0), .ref ou]) := by
    intro y9 ey
    refine st_l (k := 0) hx hb hKJ (ws := (ou, lgC cJ w) :: va_pl L9 f9) (va_P.app (w1 := [(ou, lgC cJ w)]) hPo1 hP9) (od_D hL9 hA9 hou) hS 0 0 rfl rfl (by decide) (by decide) dL_allow_15 (fun H2 locs2 hP2 _ hS2 => ?_)
    refine lv_goto (tgt := 31) hx hb dL_allow_16 (by decide) ?_
    refine lv_iconst (v := 0) hx hb dL_allow_31 (by decide) ?_
    subst hQ
    refine W.widen (k := 4) (n := 40) (by omega) (by omega) ?_
    have hP3 : va_P D vwCl ((ou, lgC cJ (vp_updL w 0 y9)) :: va_pl L9 f9) H2 := hP2
    exact W.iret hx hb hr (fun t ht hW => ⟨⟨0, vp_updL w 0 y9, rfl, ⟨rfl, fun _ => (show vp_updL w 0 y9 0 = y9 from if_pos rfl).trans ey⟩, (show CX D cI cO A x0 e0 F ik kp tu n t.heap ∧ va_P D vwCl [(ou, lgC cJ (vp_updL w 0 y9))] t.heap from by rw [ht]; exact ⟨⟨he9, gv9, gp9, gb9, ob9, nm9, lo9, L9, f9, tg9, AD9, mc9, hL9, hA9, hx9, he90, va_P_in hP3 (fun q hq => List.mem_cons_of_mem _ hq), hR9⟩, va_P_in hP3 (fun q hq => by rw [List.mem_singleton] at hq; rw [hq]; exact List.mem_cons_self)⟩)⟩, hS2.F ht⟩) hS2.2.2 dL_allow_32
  refine lv_i2l (v := v.toInt64) hx hb dL_allow_14 rfl ?_
  exact STO _ rfl
set_option maxHeartbeats 800000 in
set_option maxRecDepth 100000 in
theorem hb_allow_1 (l : Launch) (D : va_G) (cI cZ cO cJ : ClassId) {A : Nat → Prop} {L : List Nat} {f : Nat → va_E} {e0 z mi ou x0 : Nat} {w : Nat → Int64} {fs : List Value} (a1 : Int32) (a2 : Int32) (a3 : Int32) (a4 : Int32) (a5 : Int32) {F : Nat → Nat → Int32} {ik kp tu : Nat → Int32} {n : Nat} {f9 n9 : Nat} {v : Int64} (hM : vx_Met l yX4_allow wsX4_allow (rmx f9 n9) (va_Pc [.ref x0, .int a1, .int a2, .int a3, .int a4, .int a5] (CW D cI cZ cO A L f e0 z mi)) xQc (xXC "java/lang/IndexOutOfBoundsException") 1 6 (fun _ => False)) (hf9 : f9 ≤ 8) (hn9 : n9 ≤ 255) (hrec : Hs L f x0 (.inr (5, fs))) (hou : ¬ A ou) (hL : L.Nodup) (hA : ∀ a, a ∈ L → A a) (hC0 : ∀ H : Heap, va_P D vwCl (va_pl L f) H → CX D cI cO A x0 e0 F ik kp tu n H) : HC l yL_allow wsL_allow D cI cZ cO cJ A L f x0 e0 z mi ou w [.ref x0, .int a1, .int a2, .int a3, .int a4, .int a5, .ref ou] 1 v F ik kp tu n := by
  unfold HC
  refine hc_ofWH (cc := cL_allow) (maxL := 8) (ret := (some .int)) (hh := [(0, 16, 19, 13), (0, 16, 23, 40), (0, 16, 27, 19)]) (by decide) rfl ?_
  intro p e s m args below meth c s₁ B hml hv
  obtain ⟨hargs, hC, hPo, hKJ, hNc⟩ := hv
  obtain ⟨⟨hP, hK, hN⟩, hX, hY⟩ := id hC
  have hx := B.exec
  have hb := B.bytes
  have hr := B.returns
  have hts := atoms_spec (ws := wsL_allow) B.pre
  have hown : s.vm.findClass RL = some m.cls := findClass_of_methodNamed B.named
  have hlocks := B.notSynchronized
  have hen : entryFrame m args 8 = entryFrame m ([.ref x0, .int a1, .int a2, .int a3, .int a4, .int a5, .ref ou] : List Value).toArray 8 := by rw [hargs]
  rw [hen]
  have hl := lv_entry ([.ref x0, .int a1, .int a2, .int a3, .int a4, .int a5, .ref ou]) (n := 8) (Nat.le_of_ble_eq_true rfl)
  rw [lg_entry_eq]
  generalize (lg_sl ([.ref x0, .int a1, .int a2, .int a3, .int a4, .int a5, .ref ou]) ++ List.replicate (8 - (lg_sl ([.ref x0, .int a1, .int a2, .int a3, .int a4, .int a5, .ref ou])).length) Slot.unset).toArray = ls at hl ⊢
  have hl : lv_has ls 8 [(0, .ref x0), (1, .int a1), (2, .int a2), (3, .int a3), (4, .int a4), (5, .int a5), (6, .ref ou)] := hl
  generalize hQ : MQ below (va_Qi (fun (r : Int32) (w' : Nat → Int64) => r = 1 ∧ ((1 : Int32) = 0 → w' 0 = v)) (fun w' t => CX D cI cO A x0 e0 F ik kp tu n t.heap ∧ va_P D vwCl [(ou, lgC cJ w')] t.heap) (fun q => A q ∨ q = ou)) args s 4 40 (fun q => A q ∨ q = ou) = Q
  obtain ⟨k5, e5⟩ := hrec.at
  refine lv_aload hx hb dL_allow_0 (lv_at hl 6 rfl) ?_
  refine lv_iconst (v := 0) hx hb dL_allow_2 (by decide) ?_
  refine top_eq (y := nI 0) rfl ?_
  refine lv_aload_n hx hb dL_allow_3 rfl (lv_at hl 0 rfl) ?_
  refine lv_iload_n hx hb dL_allow_4 rfl (lv_at hl 1 rfl) ?_
  refine lv_iload_n hx hb dL_allow_5 rfl (lv_at hl 2 rfl) ?_
  refine lv_iload_n hx hb dL_allow_6 rfl (lv_at hl 3 rfl) ?_
  refine lv_iload hx hb dL_allow_7 (lv_at hl 4 rfl) ?_
  refine lv_iload hx hb dL_allow_9 (lv_at hl 5 rfl) ?_
  have hct := vx_table (x := yL_allow) B (hts _ List.mem_cons_self)
  refine xx_call (vx_runV (As := [.int a1, .int a2, .int a3, .int a4, .int a5]) (rest := [.int (nI 0), .ref ou]) ⟨hx, hb, hml, hown, hts⟩ hM (cwV 5 hts gL_allow_X4_allow rfl rfl rfl (by decide +kernel) ⟨(show f9 + 1 ≤ 9 by omega), (show 8 + (7 + 11) + n9 ≤ 300 by omega)⟩) ⟨CW.blind, va_recv hK hP (ci := 5) (q0 := k5) rfl e5, fun U hU hW => ⟨rfl, CW.move hU hW hC⟩⟩ rfl rfl hl.1 rfl (lv_room (Nat.le_of_ble_eq_true rfl)) dL_allow_11 ⟨Nat.le_of_ble_eq_true rfl, Nat.le_of_ble_eq_true rfl⟩) (fun q9 ce H1 hz1 hk1 hcell hvn hcl => ?_)
  refine vx_catch (own := RL) (name := "java/lang/IndexOutOfBoundsException") hown [] ⟨0, 16, 19, 13⟩ [⟨0, 16, 23, 40⟩, ⟨0, 16, 27, 19⟩] (hct.trans rfl) (fun _ h9 => absurd h9 List.not_mem_nil) (by decide) (by decide) (hts _ (List.mem_of_getElem? (i := 1) rfl)) (va_Nw.use rfl (hX.2.2.1 "java/lang/IndexOutOfBoundsException" (by decide))) hcell hvn hcl ?_
  refine lv_astore (lv' := [(7, .ref q9), (0, .ref x0), (1, .int a1), (2, .int a2), (3, .int a3), (4, .int a4), (5, .int a5), (6, .ref ou)]) hx hb dL_allow_19 hl (by decide) rfl (fun ls hl => ?_)
  refine lv_iconst (v := 1) hx hb dL_allow_21 (by decide) ?_
  have hS : va_S (fun q => A q ∨ q = ou) s.heap H1 [] := ⟨hz1, fun q h _ => hk1 q h, fun _ h => nomatch h⟩
  have hPo1 : va_P D vwCl [(ou, lgC cJ w)] H1 := hPo.kept (fun k x hk => hk1 x.1 (va_at.lt (hPo k x hk)))
  have hP1 : va_P D vwCl (va_pl L f) H1 := hP.kept (fun k x hk => hk1 x.1 (va_at.lt (hP k x hk)))
  subst hQ
  refine W.widen (k := 4) (n := 40) (Nat.le_of_ble_eq_true rfl) (Nat.le_of_ble_eq_true rfl) ?_
  exact W.iret hx hb hr (fun t ht hW => ⟨⟨1, w, rfl, ⟨rfl, fun h => absurd h (by decide)⟩, (show CX D cI cO A x0 e0 F ik kp tu n t.heap ∧ va_P D vwCl [(ou, lgC cJ w)] t.heap from by rw [ht]; exact ⟨hC0 _ hP1, hPo1⟩)⟩, hS.F ht⟩) hS.2.2 dL_allow_22
set_option maxHeartbeats 800000 in
set_option maxRecDepth 100000 in
theorem hb_allow_2 (l : Launch) (D : va_G) (cI cZ cO cJ : ClassId) {A : Nat → Prop} {L : List Nat} {f : Nat → va_E} {e0 z mi ou x0 : Nat} {w : Nat → Int64} {fs : List Value} (a1 : Int32) (a2 : Int32) (a3 : Int32) (a4 : Int32) (a5 : Int32) {F : Nat → Nat → Int32} {ik kp tu : Nat → Int32} {n : Nat} {f9 n9 : Nat} {v : Int64} (hM : vx_Met l yX4_allow wsX4_allow (rmx f9 n9) (va_Pc [.ref x0, .int a1, .int a2, .int a3, .int a4, .int a5] (CW D cI cZ cO A L f e0 z mi)) xQc (xXC "java/lang/IllegalArgumentException") 1 6 (fun _ => False)) (hf9 : f9 ≤ 8) (hn9 : n9 ≤ 255) (hrec : Hs L f x0 (.inr (5, fs))) (hou : ¬ A ou) (hL : L.Nodup) (hA : ∀ a, a ∈ L → A a) (hC0 : ∀ H : Heap, va_P D vwCl (va_pl L f) H → CX D cI cO A x0 e0 F ik kp tu n H) : HC l yL_allow wsL_allow D cI cZ cO cJ A L f x0 e0 z mi ou w [.ref x0, .int a1, .int a2, .int a3, .int a4, .int a5, .ref ou] 2 v F ik kp tu n := by
  unfold HC
  refine hc_ofWH (cc := cL_allow) (maxL := 8) (ret := (some .int)) (hh := [(0, 16, 19, 13), (0, 16, 23, 40), (0, 16, 27, 19)]) (by decide) rfl ?_
  intro p e s m args below meth c s₁ B hml hv
  obtain ⟨hargs, hC, hPo, hKJ, hNc⟩ := hv
  obtain ⟨⟨hP, hK, hN⟩, hX, hY⟩ := id hC
  have hx := B.exec
  have hb := B.bytes
  have hr := B.returns
  have hts := atoms_spec (ws := wsL_allow) B.pre
  have hown : s.vm.findClass RL = some m.cls := findClass_of_methodNamed B.named
  have hlocks := B.notSynchronized
  have hen : entryFrame m args 8 = entryFrame m ([.ref x0, .int a1, .int a2, .int a3, .int a4, .int a5, .ref ou] : List Value).toArray 8 := by rw [hargs]
  rw [hen]
  have hl := lv_entry ([.ref x0, .int a1, .int a2, .int a3, .int a4, .int a5, .ref ou]) (n := 8) (Nat.le_of_ble_eq_true rfl)
  rw [lg_entry_eq]
  generalize (lg_sl ([.ref x0, .int a1, .int a2, .int a3, .int a4, .int a5, .ref ou]) ++ List.replicate (8 - (lg_sl ([.ref x0, .int a1, .int a2, .int a3, .int a4, .int a5, .ref ou])).length) Slot.unset).toArray = ls at hl ⊢
  have hl : lv_has ls 8 [(0, .ref x0), (1, .int a1), (2, .int a2), (3, .int a3), (4, .int a4), (5, .int a5), (6, .ref ou)] := hl
  generalize hQ : MQ below (va_Qi (fun (r : Int32) (w' : Nat → Int64) => r = 2 ∧ ((2 : Int32) = 0 → w' 0 = v)) (fun w' t => CX D cI cO A x0 e0 F ik kp tu n t.heap ∧ va_P D vwCl [(ou, lgC cJ w')] t.heap) (fun q => A q ∨ q = ou)) args s 4 40 (fun q => A q ∨ q = ou) = Q
  obtain ⟨k5, e5⟩ := hrec.at
  refine lv_aload hx hb dL_allow_0 (lv_at hl 6 rfl) ?_
  refine lv_iconst (v := 0) hx hb dL_allow_2 (by decide) ?_
  refine top_eq (y := nI 0) rfl ?_
  refine lv_aload_n hx hb dL_allow_3 rfl (lv_at hl 0 rfl) ?_
  refine lv_iload_n hx hb dL_allow_4 rfl (lv_at hl 1 rfl) ?_
  refine lv_iload_n hx hb dL_allow_5 rfl (lv_at hl 2 rfl) ?_
  refine lv_iload_n hx hb dL_allow_6 rfl (lv_at hl 3 rfl) ?_
  refine lv_iload hx hb dL_allow_7 (lv_at hl 4 rfl) ?_
  refine lv_iload hx hb dL_allow_9 (lv_at hl 5 rfl) ?_
  have hct := vx_table (x := yL_allow) B (hts _ List.mem_cons_self)
  refine xx_call (vx_runV (As := [.int a1, .int a2, .int a3, .int a4, .int a5]) (rest := [.int (nI 0), .ref ou]) ⟨hx, hb, hml, hown, hts⟩ hM (cwV 5 hts gL_allow_X4_allow rfl rfl rfl (by decide +kernel) ⟨(show f9 + 1 ≤ 9 by omega), (show 8 + (7 + 11) + n9 ≤ 300 by omega)⟩) ⟨CW.blind, va_recv hK hP (ci := 5) (q0 := k5) rfl e5, fun U hU hW => ⟨rfl, CW.move hU hW hC⟩⟩ rfl rfl hl.1 rfl (lv_room (Nat.le_of_ble_eq_true rfl)) dL_allow_11 ⟨Nat.le_of_ble_eq_true rfl, Nat.le_of_ble_eq_true rfl⟩) (fun q9 ce H1 hz1 hk1 hcell hvn hcl => ?_)
  refine vx_catch (own := RL) (name := "java/lang/IllegalArgumentException") hown [⟨0, 16, 19, 13⟩] ⟨0, 16, 23, 40⟩ [⟨0, 16, 27, 19⟩] (hct.trans rfl) (List.forall_mem_cons.mpr ⟨Or.inr ⟨by decide, _, (hts _ (List.mem_of_getElem? (i := 1) rfl)), hNc.2.1⟩, (fun _ h9 => absurd h9 List.not_mem_nil)⟩) (by decide) (by decide) (hts _ (List.mem_of_getElem? (i := 2) rfl)) (va_Nw.use rfl (hX.2.2.1 "java/lang/IllegalArgumentException" (by decide))) hcell hvn hcl ?_
  refine lv_astore (lv' := [(7, .ref q9), (0, .ref x0), (1, .int a1), (2, .int a2), (3, .int a3), (4, .int a4), (5, .int a5), (6, .ref ou)]) hx hb dL_allow_23 hl (by decide) rfl (fun ls hl => ?_)
  refine lv_iconst (v := 2) hx hb dL_allow_25 (by decide) ?_
  have hS : va_S (fun q => A q ∨ q = ou) s.heap H1 [] := ⟨hz1, fun q h _ => hk1 q h, fun _ h => nomatch h⟩
  have hPo1 : va_P D vwCl [(ou, lgC cJ w)] H1 := hPo.kept (fun k x hk => hk1 x.1 (va_at.lt (hPo k x hk)))
  have hP1 : va_P D vwCl (va_pl L f) H1 := hP.kept (fun k x hk => hk1 x.1 (va_at.lt (hP k x hk)))
  subst hQ
  refine W.widen (k := 4) (n := 40) (Nat.le_of_ble_eq_true rfl) (Nat.le_of_ble_eq_true rfl) ?_
  exact W.iret hx hb hr (fun t ht hW => ⟨⟨2, w, rfl, ⟨rfl, fun h => absurd h (by decide)⟩, (show CX D cI cO A x0 e0 F ik kp tu n t.heap ∧ va_P D vwCl [(ou, lgC cJ w)] t.heap from by rw [ht]; exact ⟨hC0 _ hP1, hPo1⟩)⟩, hS.F ht⟩) hS.2.2 dL_allow_26
set_option maxHeartbeats 800000 in
set_option maxRecDepth 100000 in
theorem hb_allow_3 (l : Launch) (D : va_G) (cI cZ cO cJ : ClassId) {A : Nat → Prop} {L : List Nat} {f : Nat → va_E} {e0 z mi ou x0 : Nat} {w : Nat → Int64} {fs : List Value} (a1 : Int32) (a2 : Int32) (a3 : Int32) (a4 : Int32) (a5 : Int32) {F : Nat → Nat → Int32} {ik kp tu : Nat → Int32} {n : Nat} {f9 n9 : Nat} {v : Int64} (hM : vx_Met l yX4_allow wsX4_allow (rmx f9 n9) (va_Pc [.ref x0, .int a1, .int a2, .int a3, .int a4, .int a5] (CW D cI cZ cO A L f e0 z mi)) xQc (xXC "java/lang/IllegalStateException") 1 6 (fun _ => False)) (hf9 : f9 ≤ 8) (hn9 : n9 ≤ 255) (hrec : Hs L f x0 (.inr (5, fs))) (hou : ¬ A ou) (hL : L.Nodup) (hA : ∀ a, a ∈ L → A a) (hC0 : ∀ H : Heap, va_P D vwCl (va_pl L f) H → CX D cI cO A x0 e0 F ik kp tu n H) : HC l yL_allow wsL_allow D cI cZ cO cJ A L f x0 e0 z mi ou w [.ref x0, .int a1, .int a2, .int a3, .int a4, .int a5, .ref ou] 3 v F ik kp tu n := by
  unfold HC
  refine hc_ofWH (cc := cL_allow) (maxL := 8) (ret := (some .int)) (hh := [(0, 16, 19, 13), (0, 16, 23, 40), (0, 16, 27, 19)]) (by decide) rfl ?_
  intro p e s m args below meth c s₁ B hml hv
  obtain ⟨hargs, hC, hPo, hKJ, hNc⟩ := hv
  obtain ⟨⟨hP, hK, hN⟩, hX, hY⟩ := id hC
  have hx := B.exec
  have hb := B.bytes
  have hr := B.returns
  have hts := atoms_spec (ws := wsL_allow) B.pre
  have hown : s.vm.findClass RL = some m.cls := findClass_of_methodNamed B.named
  have hlocks := B.notSynchronized
  have hen : entryFrame m args 8 = entryFrame m ([.ref x0, .int a1, .int a2, .int a3, .int a4, .int a5, .ref ou] : List Value).toArray 8 := by rw [hargs]
  rw [hen]
  have hl := lv_entry ([.ref x0, .int a1, .int a2, .int a3, .int a4, .int a5, .ref ou]) (n := 8) (Nat.le_of_ble_eq_true rfl)
  rw [lg_entry_eq]
  generalize (lg_sl ([.ref x0, .int a1, .int a2, .int a3, .int a4, .int a5, .ref ou]) ++ List.replicate (8 - (lg_sl ([.ref x0, .int a1, .int a2, .int a3, .int a4, .int a5, .ref ou])).length) Slot.unset).toArray = ls at hl ⊢
  have hl : lv_has ls 8 [(0, .ref x0), (1, .int a1), (2, .int a2), (3, .int a3), (4, .int a4), (5, .int a5), (6, .ref ou)] := hl
  generalize hQ : MQ below (va_Qi (fun (r : Int32) (w' : Nat → Int64) => r = 3 ∧ ((3 : Int32) = 0 → w' 0 = v)) (fun w' t => CX D cI cO A x0 e0 F ik kp tu n t.heap ∧ va_P D vwCl [(ou, lgC cJ w')] t.heap) (fun q => A q ∨ q = ou)) args s 4 40 (fun q => A q ∨ q = ou) = Q
  obtain ⟨k5, e5⟩ := hrec.at
  refine lv_aload hx hb dL_allow_0 (lv_at hl 6 rfl) ?_
  refine lv_iconst (v := 0) hx hb dL_allow_2 (by decide) ?_
  refine top_eq (y := nI 0) rfl ?_
  refine lv_aload_n hx hb dL_allow_3 rfl (lv_at hl 0 rfl) ?_
  refine lv_iload_n hx hb dL_allow_4 rfl (lv_at hl 1 rfl) ?_
  refine lv_iload_n hx hb dL_allow_5 rfl (lv_at hl 2 rfl) ?_
  refine lv_iload_n hx hb dL_allow_6 rfl (lv_at hl 3 rfl) ?_
  refine lv_iload hx hb dL_allow_7 (lv_at hl 4 rfl) ?_
  refine lv_iload hx hb dL_allow_9 (lv_at hl 5 rfl) ?_
  have hct := vx_table (x := yL_allow) B (hts _ List.mem_cons_self)
  refine xx_call (vx_runV (As := [.int a1, .int a2, .int a3, .int a4, .int a5]) (rest := [.int (nI 0), .ref ou]) ⟨hx, hb, hml, hown, hts⟩ hM (cwV 5 hts gL_allow_X4_allow rfl rfl rfl (by decide +kernel) ⟨(show f9 + 1 ≤ 9 by omega), (show 8 + (7 + 11) + n9 ≤ 300 by omega)⟩) ⟨CW.blind, va_recv hK hP (ci := 5) (q0 := k5) rfl e5, fun U hU hW => ⟨rfl, CW.move hU hW hC⟩⟩ rfl rfl hl.1 rfl (lv_room (Nat.le_of_ble_eq_true rfl)) dL_allow_11 ⟨Nat.le_of_ble_eq_true rfl, Nat.le_of_ble_eq_true rfl⟩) (fun q9 ce H1 hz1 hk1 hcell hvn hcl => ?_)
  refine vx_catch (own := RL) (name := "java/lang/IllegalStateException") hown [⟨0, 16, 19, 13⟩, ⟨0, 16, 23, 40⟩] ⟨0, 16, 27, 19⟩ [] (hct.trans rfl) (List.forall_mem_cons.mpr ⟨Or.inr ⟨by decide, _, (hts _ (List.mem_of_getElem? (i := 1) rfl)), hNc.1⟩, (List.forall_mem_cons.mpr ⟨Or.inr ⟨by decide, _, (hts _ (List.mem_of_getElem? (i := 2) rfl)), hNc.2.2⟩, (fun _ h9 => absurd h9 List.not_mem_nil)⟩)⟩) (by decide) (by decide) (hts _ (List.mem_of_getElem? (i := 3) rfl)) (va_Nw.use rfl (hX.2.2.1 "java/lang/IllegalStateException" (by decide))) hcell hvn hcl ?_
  refine lv_astore (lv' := [(7, .ref q9), (0, .ref x0), (1, .int a1), (2, .int a2), (3, .int a3), (4, .int a4), (5, .int a5), (6, .ref ou)]) hx hb dL_allow_27 hl (by decide) rfl (fun ls hl => ?_)
  refine lv_iconst (v := 3) hx hb dL_allow_29 (by decide) ?_
  have hS : va_S (fun q => A q ∨ q = ou) s.heap H1 [] := ⟨hz1, fun q h _ => hk1 q h, fun _ h => nomatch h⟩
  have hPo1 : va_P D vwCl [(ou, lgC cJ w)] H1 := hPo.kept (fun k x hk => hk1 x.1 (va_at.lt (hPo k x hk)))
  have hP1 : va_P D vwCl (va_pl L f) H1 := hP.kept (fun k x hk => hk1 x.1 (va_at.lt (hP k x hk)))
  subst hQ
  refine W.widen (k := 4) (n := 40) (Nat.le_of_ble_eq_true rfl) (Nat.le_of_ble_eq_true rfl) ?_
  exact W.iret hx hb hr (fun t ht hW => ⟨⟨3, w, rfl, ⟨rfl, fun h => absurd h (by decide)⟩, (show CX D cI cO A x0 e0 F ik kp tu n t.heap ∧ va_P D vwCl [(ou, lgC cJ w)] t.heap from by rw [ht]; exact ⟨hC0 _ hP1, hPo1⟩)⟩, hS.F ht⟩) hS.2.2 dL_allow_30
set_option maxHeartbeats 800000 in
set_option maxRecDepth 100000 in
theorem hg_drop (l : Launch) (D : va_G) (cI cZ cO cJ : ClassId) {A : Nat → Prop} {L : List Nat} {f : Nat → va_E} {e0 z mi ou x0 : Nat} {w : Nat → Int64} {fs : List Value} (a1 : Int32) (a2 : Int32) {F : Nat → Nat → Int32} {ik kp tu : Nat → Int32} {n : Nat} {rm0 : Room} {mc ms : Nat} {v : Int32} (hM : Met l yX4_drop wsX4_drop rm0 (va_Pc [.ref x0, .int a1, .int a2] (CW D cI cZ cO A L f e0 z mi)) (va_Qi (fun (r : Int32) (_ : Unit) => r = v) (fun _ t => CX D cI cO A x0 e0 F ik kp tu n t.heap) A) mc ms A) (hrm : hRM rm0 mc ms) (hrec : Hs L f x0 (.inr (5, fs))) (hou : ¬ A ou) : HC l yL_drop wsL_drop D cI cZ cO cJ A L f x0 e0 z mi ou w [.ref x0, .int a1, .int a2, .ref ou] 0 v.toInt64 F ik kp tu n := by
  obtain ⟨hr1, hr2, hr3, hr4, hr5, hr6⟩ := hrm
  unfold HC
  refine hc_ofWH (cc := cL_drop) (maxL := 5) (ret := (some .int)) (hh := [(0, 10, 13, 13)]) (by decide) rfl ?_
  intro p e s m args below meth c s₁ B hml hv
  obtain ⟨hargs, hC, hPo, hKJ, hNc⟩ := hv
  obtain ⟨⟨hP, hK, hN⟩, hX, hY⟩ := id hC
  have hx := B.exec
  have hb := B.bytes
  have hr := B.returns
  have hts := atoms_spec (ws := wsL_drop) B.pre
  have hown : s.vm.findClass RL = some m.cls := findClass_of_methodNamed B.named
  have hlocks := B.notSynchronized
  have hen : entryFrame m args 5 = entryFrame m ([.ref x0, .int a1, .int a2, .ref ou] : List Value).toArray 5 := by rw [hargs]
  rw [hen]
  have hl := lv_entry ([.ref x0, .int a1, .int a2, .ref ou]) (n := 5) (Nat.le_of_ble_eq_true rfl)
  rw [lg_entry_eq]
  generalize (lg_sl ([.ref x0, .int a1, .int a2, .ref ou]) ++ List.replicate (5 - (lg_sl ([.ref x0, .int a1, .int a2, .ref ou])).length) Slot.unset).toArray = ls at hl ⊢
  have hl : lv_has ls 5 [(0, .ref x0), (1, .int a1), (2, .int a2), (3, .ref ou)] := hl
  generalize hQ : MQ below (va_Qi (fun (r : Int32) (w' : Nat → Int64) => r = 0 ∧ ((0 : Int32) = 0 → w' 0 = v.toInt64)) (fun w' t => CX D cI cO A x0 e0 F ik kp tu n t.heap ∧ va_P D vwCl [(ou, lgC cJ w')] t.heap) (fun q => A q ∨ q = ou)) args s 4 40 (fun q => A q ∨ q = ou) = Q
  obtain ⟨k5, e5⟩ := hrec.at
  refine lv_aload_n hx hb dL_drop_0 rfl (lv_at hl 3 rfl) ?_
  refine lv_iconst (v := 0) hx hb dL_drop_1 (by decide) ?_
  refine top_eq (y := nI 0) rfl ?_
  refine lv_aload_n hx hb dL_drop_2 rfl (lv_at hl 0 rfl) ?_
  refine lv_iload_n hx hb dL_drop_3 rfl (lv_at hl 1 rfl) ?_
  refine lv_iload_n hx hb dL_drop_4 rfl (lv_at hl 2 rfl) ?_
  have hS : va_S (fun q => A q ∨ q = ou) s.heap s.heap [] := va_S.rf
  refine va_calli (va_runV (As := [.int a1, .int a2]) (rest := [.int (nI 0), .ref ou]) ⟨hx, hb, hml, hown, hts⟩ hM (cwV 2 hts gL_drop_X4_drop rfl hr1 hr2 (by decide +kernel) ⟨(show rm0.frames + 1 ≤ 9 by omega), (show 8 + (4 + 11) + rm0.locals ≤ 300 by omega)⟩) ⟨CW.blind, va_recv hK hP (ci := 5) (q0 := k5) rfl e5, fun U hU hW => ⟨rfl, CW.move hU hW hC⟩⟩ rfl rfl hl.1 rfl (lv_room (Nat.le_of_ble_eq_true rfl)) dL_drop_5 ⟨(show 0 + mc ≤ 4 by omega), (show 0 + ms ≤ 40 by omega)⟩) hS (fun q _ h => Or.inl h) (fun q h => Or.inl h) (fun r u9 t H1 locs1 ht hvm hw hB hz1 hk1 hS => ?_)
  rw [hw]
  rw [ht] at hB
  have hPo1 : va_P D vwCl [(ou, lgC cJ w)] H1 := hPo.kept (fun k x hk => hk1 x.1 (va_at.lt (hPo k x hk)) (by have hm := List.mem_of_getElem? hk; rw [List.mem_singleton] at hm; rw [hm]; exact hou))
  obtain ⟨he9, gv9, gp9, gb9, ob9, nm9, lo9, L9, f9, tg9, AD9, mc9, hL9, hA9, hx9, he90, hP9, hR9⟩ := hB
  have STO : ∀ y9 : Int64, y9 = v.toInt64 → W p l e (headSpec wsL_drop rmh).room s m args below meth c H1 locs1 (0 + mc) (0 + ms) Q (F0 m 9 ls [.long y9, .int (nI 0), .ref ou]) := by
    intro y9 ey
    refine st_l (k := 0) hx hb hKJ (ws := (ou, lgC cJ w) :: va_pl L9 f9) (va_P.app (w1 := [(ou, lgC cJ w)]) hPo1 hP9) (od_D hL9 hA9 hou) hS 0 0 rfl rfl (by decide) (by decide) dL_drop_9 (fun H2 locs2 hP2 _ hS2 => ?_)
    refine lv_goto (tgt := 17) hx hb dL_drop_10 (by decide) ?_
    refine lv_iconst (v := 0) hx hb dL_drop_17 (by decide) ?_
    subst hQ
    refine W.widen (k := 4) (n := 40) (by omega) (by omega) ?_
    have hP3 : va_P D vwCl ((ou, lgC cJ (vp_updL w 0 y9)) :: va_pl L9 f9) H2 := hP2
    exact W.iret hx hb hr (fun t ht hW => ⟨⟨0, vp_updL w 0 y9, rfl, ⟨rfl, fun _ => (show vp_updL w 0 y9 0 = y9 from if_pos rfl).trans ey⟩, (show CX D cI cO A x0 e0 F ik kp tu n t.heap ∧ va_P D vwCl [(ou, lgC cJ (vp_updL w 0 y9))] t.heap from by rw [ht]; exact ⟨⟨he9, gv9, gp9, gb9, ob9, nm9, lo9, L9, f9, tg9, AD9, mc9, hL9, hA9, hx9, he90, va_P_in hP3 (fun q hq => List.mem_cons_of_mem _ hq), hR9⟩, va_P_in hP3 (fun q hq => by rw [List.mem_singleton] at hq; rw [hq]; exact List.mem_cons_self)⟩)⟩, hS2.F ht⟩) hS2.2.2 dL_drop_18
  refine lv_i2l (v := v.toInt64) hx hb dL_drop_8 rfl ?_
  exact STO _ rfl
set_option maxHeartbeats 800000 in
set_option maxRecDepth 100000 in
theorem hb_drop_1 (l : Launch) (D : va_G) (cI cZ cO cJ : ClassId) {A : Nat → Prop} {L : List Nat} {f : Nat → va_E} {e0 z mi ou x0 : Nat} {w : Nat → Int64} {fs : List Value} (a1 : Int32) (a2 : Int32) {F : Nat → Nat → Int32} {ik kp tu : Nat → Int32} {n : Nat} {f9 n9 : Nat} {v : Int64} (hM : vx_Met l yX4_drop wsX4_drop (rmx f9 n9) (va_Pc [.ref x0, .int a1, .int a2] (CW D cI cZ cO A L f e0 z mi)) xQc (xXC "java/lang/IndexOutOfBoundsException") 1 6 (fun _ => False)) (hf9 : f9 ≤ 8) (hn9 : n9 ≤ 255) (hrec : Hs L f x0 (.inr (5, fs))) (hou : ¬ A ou) (hL : L.Nodup) (hA : ∀ a, a ∈ L → A a) (hC0 : ∀ H : Heap, va_P D vwCl (va_pl L f) H → CX D cI cO A x0 e0 F ik kp tu n H) : HC l yL_drop wsL_drop D cI cZ cO cJ A L f x0 e0 z mi ou w [.ref x0, .int a1, .int a2, .ref ou] 1 v F ik kp tu n := by
  unfold HC
  refine hc_ofWH (cc := cL_drop) (maxL := 5) (ret := (some .int)) (hh := [(0, 10, 13, 13)]) (by decide) rfl ?_
  intro p e s m args below meth c s₁ B hml hv
  obtain ⟨hargs, hC, hPo, hKJ, hNc⟩ := hv
  obtain ⟨⟨hP, hK, hN⟩, hX, hY⟩ := id hC
  have hx := B.exec
  have hb := B.bytes
  have hr := B.returns
  have hts := atoms_spec (ws := wsL_drop) B.pre
  have hown : s.vm.findClass RL = some m.cls := findClass_of_methodNamed B.named
  have hlocks := B.notSynchronized
  have hen : entryFrame m args 5 = entryFrame m ([.ref x0, .int a1, .int a2, .ref ou] : List Value).toArray 5 := by rw [hargs]
  rw [hen]
  have hl := lv_entry ([.ref x0, .int a1, .int a2, .ref ou]) (n := 5) (Nat.le_of_ble_eq_true rfl)
  rw [lg_entry_eq]
  generalize (lg_sl ([.ref x0, .int a1, .int a2, .ref ou]) ++ List.replicate (5 - (lg_sl ([.ref x0, .int a1, .int a2, .ref ou])).length) Slot.unset).toArray = ls at hl ⊢
  have hl : lv_has ls 5 [(0, .ref x0), (1, .int a1), (2, .int a2), (3, .ref ou)] := hl
  generalize hQ : MQ below (va_Qi (fun (r : Int32) (w' : Nat → Int64) => r = 1 ∧ ((1 : Int32) = 0 → w' 0 = v)) (fun w' t => CX D cI cO A x0 e0 F ik kp tu n t.heap ∧ va_P D vwCl [(ou, lgC cJ w')] t.heap) (fun q => A q ∨ q = ou)) args s 4 40 (fun q => A q ∨ q = ou) = Q
  obtain ⟨k5, e5⟩ := hrec.at
  refine lv_aload_n hx hb dL_drop_0 rfl (lv_at hl 3 rfl) ?_
  refine lv_iconst (v := 0) hx hb dL_drop_1 (by decide) ?_
  refine top_eq (y := nI 0) rfl ?_
  refine lv_aload_n hx hb dL_drop_2 rfl (lv_at hl 0 rfl) ?_
  refine lv_iload_n hx hb dL_drop_3 rfl (lv_at hl 1 rfl) ?_
  refine lv_iload_n hx hb dL_drop_4 rfl (lv_at hl 2 rfl) ?_
  have hct := vx_table (x := yL_drop) B (hts _ List.mem_cons_self)
  refine xx_call (vx_runV (As := [.int a1, .int a2]) (rest := [.int (nI 0), .ref ou]) ⟨hx, hb, hml, hown, hts⟩ hM (cwV 2 hts gL_drop_X4_drop rfl rfl rfl (by decide +kernel) ⟨(show f9 + 1 ≤ 9 by omega), (show 8 + (4 + 11) + n9 ≤ 300 by omega)⟩) ⟨CW.blind, va_recv hK hP (ci := 5) (q0 := k5) rfl e5, fun U hU hW => ⟨rfl, CW.move hU hW hC⟩⟩ rfl rfl hl.1 rfl (lv_room (Nat.le_of_ble_eq_true rfl)) dL_drop_5 ⟨Nat.le_of_ble_eq_true rfl, Nat.le_of_ble_eq_true rfl⟩) (fun q9 ce H1 hz1 hk1 hcell hvn hcl => ?_)
  refine vx_catch (own := RL) (name := "java/lang/IndexOutOfBoundsException") hown [] ⟨0, 10, 13, 13⟩ [] (hct.trans rfl) (fun _ h9 => absurd h9 List.not_mem_nil) (by decide) (by decide) (hts _ (List.mem_of_getElem? (i := 1) rfl)) (va_Nw.use rfl (hX.2.2.1 "java/lang/IndexOutOfBoundsException" (by decide))) hcell hvn hcl ?_
  refine lv_astore (lv' := [(4, .ref q9), (0, .ref x0), (1, .int a1), (2, .int a2), (3, .ref ou)]) hx hb dL_drop_13 hl (by decide) rfl (fun ls hl => ?_)
  refine lv_iconst (v := 1) hx hb dL_drop_15 (by decide) ?_
  have hS : va_S (fun q => A q ∨ q = ou) s.heap H1 [] := ⟨hz1, fun q h _ => hk1 q h, fun _ h => nomatch h⟩
  have hPo1 : va_P D vwCl [(ou, lgC cJ w)] H1 := hPo.kept (fun k x hk => hk1 x.1 (va_at.lt (hPo k x hk)))
  have hP1 : va_P D vwCl (va_pl L f) H1 := hP.kept (fun k x hk => hk1 x.1 (va_at.lt (hP k x hk)))
  subst hQ
  refine W.widen (k := 4) (n := 40) (Nat.le_of_ble_eq_true rfl) (Nat.le_of_ble_eq_true rfl) ?_
  exact W.iret hx hb hr (fun t ht hW => ⟨⟨1, w, rfl, ⟨rfl, fun h => absurd h (by decide)⟩, (show CX D cI cO A x0 e0 F ik kp tu n t.heap ∧ va_P D vwCl [(ou, lgC cJ w)] t.heap from by rw [ht]; exact ⟨hC0 _ hP1, hPo1⟩)⟩, hS.F ht⟩) hS.2.2 dL_drop_16
set_option maxHeartbeats 800000 in
set_option maxRecDepth 100000 in
theorem hg_rights (l : Launch) (D : va_G) (cI cZ cO cJ : ClassId) {A : Nat → Prop} {L : List Nat} {f : Nat → va_E} {e0 z mi ou x0 : Nat} {w : Nat → Int64} {fs : List Value} (a1 : Int32) (a2 : Int32) {F : Nat → Nat → Int32} {ik kp tu : Nat → Int32} {n : Nat} {rm0 : Room} {mc ms : Nat} {v : Int32} (hM : Met l yX4_rights wsX4_rights rm0 (va_Pc [.ref x0, .int a1, .int a2] (CW D cI cZ cO A L f e0 z mi)) (va_Qi (fun (r : Int32) (_ : Unit) => r = v) (fun _ t => CX D cI cO A x0 e0 F ik kp tu n t.heap) A) mc ms A) (hrm : hRM rm0 mc ms) (hrec : Hs L f x0 (.inr (5, fs))) (hou : ¬ A ou) : HC l yL_rights wsL_rights D cI cZ cO cJ A L f x0 e0 z mi ou w [.ref x0, .int a1, .int a2, .ref ou] 0 v.toInt64 F ik kp tu n := by
  obtain ⟨hr1, hr2, hr3, hr4, hr5, hr6⟩ := hrm
  unfold HC
  refine hc_ofWH (cc := cL_rights) (maxL := 5) (ret := (some .int)) (hh := [(0, 10, 13, 13)]) (by decide) rfl ?_
  intro p e s m args below meth c s₁ B hml hv
  obtain ⟨hargs, hC, hPo, hKJ, hNc⟩ := hv
  obtain ⟨⟨hP, hK, hN⟩, hX, hY⟩ := id hC
  have hx := B.exec
  have hb := B.bytes
  have hr := B.returns
  have hts := atoms_spec (ws := wsL_rights) B.pre
  have hown : s.vm.findClass RL = some m.cls := findClass_of_methodNamed B.named
  have hlocks := B.notSynchronized
  have hen : entryFrame m args 5 = entryFrame m ([.ref x0, .int a1, .int a2, .ref ou] : List Value).toArray 5 := by rw [hargs]
  rw [hen]
  have hl := lv_entry ([.ref x0, .int a1, .int a2, .ref ou]) (n := 5) (Nat.le_of_ble_eq_true rfl)
  rw [lg_entry_eq]
  generalize (lg_sl ([.ref x0, .int a1, .int a2, .ref ou]) ++ List.replicate (5 - (lg_sl ([.ref x0, .int a1, .int a2, .ref ou])).length) Slot.unset).toArray = ls at hl ⊢
  have hl : lv_has ls 5 [(0, .ref x0), (1, .int a1), (2, .int a2), (3, .ref ou)] := hl
  generalize hQ : MQ below (va_Qi (fun (r : Int32) (w' : Nat → Int64) => r = 0 ∧ ((0 : Int32) = 0 → w' 0 = v.toInt64)) (fun w' t => CX D cI cO A x0 e0 F ik kp tu n t.heap ∧ va_P D vwCl [(ou, lgC cJ w')] t.heap) (fun q => A q ∨ q = ou)) args s 4 40 (fun q => A q ∨ q = ou) = Q
  obtain ⟨k5, e5⟩ := hrec.at
  refine lv_aload_n hx hb dL_rights_0 rfl (lv_at hl 3 rfl) ?_
  refine lv_iconst (v := 0) hx hb dL_rights_1 (by decide) ?_
  refine top_eq (y := nI 0) rfl ?_
  refine lv_aload_n hx hb dL_rights_2 rfl (lv_at hl 0 rfl) ?_
  refine lv_iload_n hx hb dL_rights_3 rfl (lv_at hl 1 rfl) ?_
  refine lv_iload_n hx hb dL_rights_4 rfl (lv_at hl 2 rfl) ?_
  have hS : va_S (fun q => A q ∨ q = ou) s.heap s.heap [] := va_S.rf
  refine va_calli (va_runV (As := [.int a1, .int a2]) (rest := [.int (nI 0), .ref ou]) ⟨hx, hb, hml, hown, hts⟩ hM (cwV 2 hts gL_rights_X4_rights rfl hr1 hr2 (by decide +kernel) ⟨(show rm0.frames + 1 ≤ 9 by omega), (show 8 + (3 + 11) + rm0.locals ≤ 300 by omega)⟩) ⟨CW.blind, va_recv hK hP (ci := 5) (q0 := k5) rfl e5, fun U hU hW => ⟨rfl, CW.move hU hW hC⟩⟩ rfl rfl hl.1 rfl (lv_room (Nat.le_of_ble_eq_true rfl)) dL_rights_5 ⟨(show 0 + mc ≤ 4 by omega), (show 0 + ms ≤ 40 by omega)⟩) hS (fun q _ h => Or.inl h) (fun q h => Or.inl h) (fun r u9 t H1 locs1 ht hvm hw hB hz1 hk1 hS => ?_)
  rw [hw]
  rw [ht] at hB
  have hPo1 : va_P D vwCl [(ou, lgC cJ w)] H1 := hPo.kept (fun k x hk => hk1 x.1 (va_at.lt (hPo k x hk)) (by have hm := List.mem_of_getElem? hk; rw [List.mem_singleton] at hm; rw [hm]; exact hou))
  obtain ⟨he9, gv9, gp9, gb9, ob9, nm9, lo9, L9, f9, tg9, AD9, mc9, hL9, hA9, hx9, he90, hP9, hR9⟩ := hB
  have STO : ∀ y9 : Int64, y9 = v.toInt64 → W p l e (headSpec wsL_rights rmh).room s m args below meth c H1 locs1 (0 + mc) (0 + ms) Q (F0 m 9 ls [.long y9, .int (nI 0), .ref ou]) := by
    intro y9 ey
    refine st_l (k := 0) hx hb hKJ (ws := (ou, lgC cJ w) :: va_pl L9 f9) (va_P.app (w1 := [(ou, lgC cJ w)]) hPo1 hP9) (od_D hL9 hA9 hou) hS 0 0 rfl rfl (by decide) (by decide) dL_rights_9 (fun H2 locs2 hP2 _ hS2 => ?_)
    refine lv_goto (tgt := 17) hx hb dL_rights_10 (by decide) ?_
    refine lv_iconst (v := 0) hx hb dL_rights_17 (by decide) ?_
    subst hQ
    refine W.widen (k := 4) (n := 40) (by omega) (by omega) ?_
    have hP3 : va_P D vwCl ((ou, lgC cJ (vp_updL w 0 y9)) :: va_pl L9 f9) H2 := hP2
    exact W.iret hx hb hr (fun t ht hW => ⟨⟨0, vp_updL w 0 y9, rfl, ⟨rfl, fun _ => (show vp_updL w 0 y9 0 = y9 from if_pos rfl).trans ey⟩, (show CX D cI cO A x0 e0 F ik kp tu n t.heap ∧ va_P D vwCl [(ou, lgC cJ (vp_updL w 0 y9))] t.heap from by rw [ht]; exact ⟨⟨he9, gv9, gp9, gb9, ob9, nm9, lo9, L9, f9, tg9, AD9, mc9, hL9, hA9, hx9, he90, va_P_in hP3 (fun q hq => List.mem_cons_of_mem _ hq), hR9⟩, va_P_in hP3 (fun q hq => by rw [List.mem_singleton] at hq; rw [hq]; exact List.mem_cons_self)⟩)⟩, hS2.F ht⟩) hS2.2.2 dL_rights_18
  refine lv_i2l (v := v.toInt64) hx hb dL_rights_8 rfl ?_
  exact STO _ rfl
set_option maxHeartbeats 800000 in
set_option maxRecDepth 100000 in
theorem hb_rights_1 (l : Launch) (D : va_G) (cI cZ cO cJ : ClassId) {A : Nat → Prop} {L : List Nat} {f : Nat → va_E} {e0 z mi ou x0 : Nat} {w : Nat → Int64} {fs : List Value} (a1 : Int32) (a2 : Int32) {F : Nat → Nat → Int32} {ik kp tu : Nat → Int32} {n : Nat} {f9 n9 : Nat} {v : Int64} (hM : vx_Met l yX4_rights wsX4_rights (rmx f9 n9) (va_Pc [.ref x0, .int a1, .int a2] (CW D cI cZ cO A L f e0 z mi)) xQc (xXC "java/lang/IndexOutOfBoundsException") 1 6 (fun _ => False)) (hf9 : f9 ≤ 8) (hn9 : n9 ≤ 255) (hrec : Hs L f x0 (.inr (5, fs))) (hou : ¬ A ou) (hL : L.Nodup) (hA : ∀ a, a ∈ L → A a) (hC0 : ∀ H : Heap, va_P D vwCl (va_pl L f) H → CX D cI cO A x0 e0 F ik kp tu n H) : HC l yL_rights wsL_rights D cI cZ cO cJ A L f x0 e0 z mi ou w [.ref x0, .int a1, .int a2, .ref ou] 1 v F ik kp tu n := by
  unfold HC
  refine hc_ofWH (cc := cL_rights) (maxL := 5) (ret := (some .int)) (hh := [(0, 10, 13, 13)]) (by decide) rfl ?_
  intro p e s m args below meth c s₁ B hml hv
  obtain ⟨hargs, hC, hPo, hKJ, hNc⟩ := hv
  obtain ⟨⟨hP, hK, hN⟩, hX, hY⟩ := id hC
  have hx := B.exec
  have hb := B.bytes
  have hr := B.returns
  have hts := atoms_spec (ws := wsL_rights) B.pre
  have hown : s.vm.findClass RL = some m.cls := findClass_of_methodNamed B.named
  have hlocks := B.notSynchronized
  have hen : entryFrame m args 5 = entryFrame m ([.ref x0, .int a1, .int a2, .ref ou] : List Value).toArray 5 := by rw [hargs]
  rw [hen]
  have hl := lv_entry ([.ref x0, .int a1, .int a2, .ref ou]) (n := 5) (Nat.le_of_ble_eq_true rfl)
  rw [lg_entry_eq]
  generalize (lg_sl ([.ref x0, .int a1, .int a2, .ref ou]) ++ List.replicate (5 - (lg_sl ([.ref x0, .int a1, .int a2, .ref ou])).length) Slot.unset).toArray = ls at hl ⊢
  have hl : lv_has ls 5 [(0, .ref x0), (1, .int a1), (2, .int a2), (3, .ref ou)] := hl
  generalize hQ : MQ below (va_Qi (fun (r : Int32) (w' : Nat → Int64) => r = 1 ∧ ((1 : Int32) = 0 → w' 0 = v)) (fun w' t => CX D cI cO A x0 e0 F ik kp tu n t.heap ∧ va_P D vwCl [(ou, lgC cJ w')] t.heap) (fun q => A q ∨ q = ou)) args s 4 40 (fun q => A q ∨ q = ou) = Q
  obtain ⟨k5, e5⟩ := hrec.at
  refine lv_aload_n hx hb dL_rights_0 rfl (lv_at hl 3 rfl) ?_
  refine lv_iconst (v := 0) hx hb dL_rights_1 (by decide) ?_
  refine top_eq (y := nI 0) rfl ?_
  refine lv_aload_n hx hb dL_rights_2 rfl (lv_at hl 0 rfl) ?_
  refine lv_iload_n hx hb dL_rights_3 rfl (lv_at hl 1 rfl) ?_
  refine lv_iload_n hx hb dL_rights_4 rfl (lv_at hl 2 rfl) ?_
  have hct := vx_table (x := yL_rights) B (hts _ List.mem_cons_self)
  refine xx_call (vx_runV (As := [.int a1, .int a2]) (rest := [.int (nI 0), .ref ou]) ⟨hx, hb, hml, hown, hts⟩ hM (cwV 2 hts gL_rights_X4_rights rfl rfl rfl (by decide +kernel) ⟨(show f9 + 1 ≤ 9 by omega), (show 8 + (3 + 11) + n9 ≤ 300 by omega)⟩) ⟨CW.blind, va_recv hK hP (ci := 5) (q0 := k5) rfl e5, fun U hU hW => ⟨rfl, CW.move hU hW hC⟩⟩ rfl rfl hl.1 rfl (lv_room (Nat.le_of_ble_eq_true rfl)) dL_rights_5 ⟨Nat.le_of_ble_eq_true rfl, Nat.le_of_ble_eq_true rfl⟩) (fun q9 ce H1 hz1 hk1 hcell hvn hcl => ?_)
  refine vx_catch (own := RL) (name := "java/lang/IndexOutOfBoundsException") hown [] ⟨0, 10, 13, 13⟩ [] (hct.trans rfl) (fun _ h9 => absurd h9 List.not_mem_nil) (by decide) (by decide) (hts _ (List.mem_of_getElem? (i := 1) rfl)) (va_Nw.use rfl (hX.2.2.1 "java/lang/IndexOutOfBoundsException" (by decide))) hcell hvn hcl ?_
  refine lv_astore (lv' := [(4, .ref q9), (0, .ref x0), (1, .int a1), (2, .int a2), (3, .ref ou)]) hx hb dL_rights_13 hl (by decide) rfl (fun ls hl => ?_)
  refine lv_iconst (v := 1) hx hb dL_rights_15 (by decide) ?_
  have hS : va_S (fun q => A q ∨ q = ou) s.heap H1 [] := ⟨hz1, fun q h _ => hk1 q h, fun _ h => nomatch h⟩
  have hPo1 : va_P D vwCl [(ou, lgC cJ w)] H1 := hPo.kept (fun k x hk => hk1 x.1 (va_at.lt (hPo k x hk)))
  have hP1 : va_P D vwCl (va_pl L f) H1 := hP.kept (fun k x hk => hk1 x.1 (va_at.lt (hP k x hk)))
  subst hQ
  refine W.widen (k := 4) (n := 40) (Nat.le_of_ble_eq_true rfl) (Nat.le_of_ble_eq_true rfl) ?_
  exact W.iret hx hb hr (fun t ht hW => ⟨⟨1, w, rfl, ⟨rfl, fun h => absurd h (by decide)⟩, (show CX D cI cO A x0 e0 F ik kp tu n t.heap ∧ va_P D vwCl [(ou, lgC cJ w)] t.heap from by rw [ht]; exact ⟨hC0 _ hP1, hPo1⟩)⟩, hS.F ht⟩) hS.2.2 dL_rights_16
set_option maxHeartbeats 800000 in
set_option maxRecDepth 100000 in
theorem hg_rightsBackwards (l : Launch) (D : va_G) (cI cZ cO cJ : ClassId) {A : Nat → Prop} {L : List Nat} {f : Nat → va_E} {e0 z mi ou x0 : Nat} {w : Nat → Int64} {fs : List Value} (a1 : Int32) (a2 : Int32) {F : Nat → Nat → Int32} {ik kp tu : Nat → Int32} {n : Nat} {rm0 : Room} {mc ms : Nat} {v : Int32} (hM : Met l yX4_rightsBackwards wsX4_rightsBackwards rm0 (va_Pc [.ref x0, .int a1, .int a2] (CW D cI cZ cO A L f e0 z mi)) (va_Qi (fun (r : Int32) (_ : Unit) => r = v) (fun _ t => CX D cI cO A x0 e0 F ik kp tu n t.heap) A) mc ms A) (hrm : hRM rm0 mc ms) (hrec : Hs L f x0 (.inr (5, fs))) (hou : ¬ A ou) : HC l yL_rightsBackwards wsL_rightsBackwards D cI cZ cO cJ A L f x0 e0 z mi ou w [.ref x0, .int a1, .int a2, .ref ou] 0 v.toInt64 F ik kp tu n := by
  obtain ⟨hr1, hr2, hr3, hr4, hr5, hr6⟩ := hrm
  unfold HC
  refine hc_ofWH (cc := cL_rightsBackwards) (maxL := 5) (ret := (some .int)) (hh := [(0, 10, 13, 13)]) (by decide) rfl ?_
  intro p e s m args below meth c s₁ B hml hv
  obtain ⟨hargs, hC, hPo, hKJ, hNc⟩ := hv
  obtain ⟨⟨hP, hK, hN⟩, hX, hY⟩ := id hC
  have hx := B.exec
  have hb := B.bytes
  have hr := B.returns
  have hts := atoms_spec (ws := wsL_rightsBackwards) B.pre
  have hown : s.vm.findClass RL = some m.cls := findClass_of_methodNamed B.named
  have hlocks := B.notSynchronized
  have hen : entryFrame m args 5 = entryFrame m ([.ref x0, .int a1, .int a2, .ref ou] : List Value).toArray 5 := by rw [hargs]
  rw [hen]
  have hl := lv_entry ([.ref x0, .int a1, .int a2, .ref ou]) (n := 5) (Nat.le_of_ble_eq_true rfl)
  rw [lg_entry_eq]
  generalize (lg_sl ([.ref x0, .int a1, .int a2, .ref ou]) ++ List.replicate (5 - (lg_sl ([.ref x0, .int a1, .int a2, .ref ou])).length) Slot.unset).toArray = ls at hl ⊢
  have hl : lv_has ls 5 [(0, .ref x0), (1, .int a1), (2, .int a2), (3, .ref ou)] := hl
  generalize hQ : MQ below (va_Qi (fun (r : Int32) (w' : Nat → Int64) => r = 0 ∧ ((0 : Int32) = 0 → w' 0 = v.toInt64)) (fun w' t => CX D cI cO A x0 e0 F ik kp tu n t.heap ∧ va_P D vwCl [(ou, lgC cJ w')] t.heap) (fun q => A q ∨ q = ou)) args s 4 40 (fun q => A q ∨ q = ou) = Q
  obtain ⟨k5, e5⟩ := hrec.at
  refine lv_aload_n hx hb dL_rightsBackwards_0 rfl (lv_at hl 3 rfl) ?_
  refine lv_iconst (v := 0) hx hb dL_rightsBackwards_1 (by decide) ?_
  refine top_eq (y := nI 0) rfl ?_
  refine lv_aload_n hx hb dL_rightsBackwards_2 rfl (lv_at hl 0 rfl) ?_
  refine lv_iload_n hx hb dL_rightsBackwards_3 rfl (lv_at hl 1 rfl) ?_
  refine lv_iload_n hx hb dL_rightsBackwards_4 rfl (lv_at hl 2 rfl) ?_
  have hS : va_S (fun q => A q ∨ q = ou) s.heap s.heap [] := va_S.rf
  refine va_calli (va_runV (As := [.int a1, .int a2]) (rest := [.int (nI 0), .ref ou]) ⟨hx, hb, hml, hown, hts⟩ hM (cwV 2 hts gL_rightsBackwards_X4_rightsBackwards rfl hr1 hr2 (by decide +kernel) ⟨(show rm0.frames + 1 ≤ 9 by omega), (show 8 + (3 + 11) + rm0.locals ≤ 300 by omega)⟩) ⟨CW.blind, va_recv hK hP (ci := 5) (q0 := k5) rfl e5, fun U hU hW => ⟨rfl, CW.move hU hW hC⟩⟩ rfl rfl hl.1 rfl (lv_room (Nat.le_of_ble_eq_true rfl)) dL_rightsBackwards_5 ⟨(show 0 + mc ≤ 4 by omega), (show 0 + ms ≤ 40 by omega)⟩) hS (fun q _ h => Or.inl h) (fun q h => Or.inl h) (fun r u9 t H1 locs1 ht hvm hw hB hz1 hk1 hS => ?_)
  rw [hw]
  rw [ht] at hB
  have hPo1 : va_P D vwCl [(ou, lgC cJ w)] H1 := hPo.kept (fun k x hk => hk1 x.1 (va_at.lt (hPo k x hk)) (by have hm := List.mem_of_getElem? hk; rw [List.mem_singleton] at hm; rw [hm]; exact hou))
  obtain ⟨he9, gv9, gp9, gb9, ob9, nm9, lo9, L9, f9, tg9, AD9, mc9, hL9, hA9, hx9, he90, hP9, hR9⟩ := hB
  have STO : ∀ y9 : Int64, y9 = v.toInt64 → W p l e (headSpec wsL_rightsBackwards rmh).room s m args below meth c H1 locs1 (0 + mc) (0 + ms) Q (F0 m 9 ls [.long y9, .int (nI 0), .ref ou]) := by
    intro y9 ey
    refine st_l (k := 0) hx hb hKJ (ws := (ou, lgC cJ w) :: va_pl L9 f9) (va_P.app (w1 := [(ou, lgC cJ w)]) hPo1 hP9) (od_D hL9 hA9 hou) hS 0 0 rfl rfl (by decide) (by decide) dL_rightsBackwards_9 (fun H2 locs2 hP2 _ hS2 => ?_)
    refine lv_goto (tgt := 17) hx hb dL_rightsBackwards_10 (by decide) ?_
    refine lv_iconst (v := 0) hx hb dL_rightsBackwards_17 (by decide) ?_
    subst hQ
    refine W.widen (k := 4) (n := 40) (by omega) (by omega) ?_
    have hP3 : va_P D vwCl ((ou, lgC cJ (vp_updL w 0 y9)) :: va_pl L9 f9) H2 := hP2
    exact W.iret hx hb hr (fun t ht hW => ⟨⟨0, vp_updL w 0 y9, rfl, ⟨rfl, fun _ => (show vp_updL w 0 y9 0 = y9 from if_pos rfl).trans ey⟩, (show CX D cI cO A x0 e0 F ik kp tu n t.heap ∧ va_P D vwCl [(ou, lgC cJ (vp_updL w 0 y9))] t.heap from by rw [ht]; exact ⟨⟨he9, gv9, gp9, gb9, ob9, nm9, lo9, L9, f9, tg9, AD9, mc9, hL9, hA9, hx9, he90, va_P_in hP3 (fun q hq => List.mem_cons_of_mem _ hq), hR9⟩, va_P_in hP3 (fun q hq => by rw [List.mem_singleton] at hq; rw [hq]; exact List.mem_cons_self)⟩)⟩, hS2.F ht⟩) hS2.2.2 dL_rightsBackwards_18
  refine lv_i2l (v := v.toInt64) hx hb dL_rightsBackwards_8 rfl ?_
  exact STO _ rfl
set_option maxHeartbeats 800000 in
set_option maxRecDepth 100000 in
theorem hb_rightsBackwards_1 (l : Launch) (D : va_G) (cI cZ cO cJ : ClassId) {A : Nat → Prop} {L : List Nat} {f : Nat → va_E} {e0 z mi ou x0 : Nat} {w : Nat → Int64} {fs : List Value} (a1 : Int32) (a2 : Int32) {F : Nat → Nat → Int32} {ik kp tu : Nat → Int32} {n : Nat} {f9 n9 : Nat} {v : Int64} (hM : vx_Met l yX4_rightsBackwards wsX4_rightsBackwards (rmx f9 n9) (va_Pc [.ref x0, .int a1, .int a2] (CW D cI cZ cO A L f e0 z mi)) xQc (xXC "java/lang/IndexOutOfBoundsException") 1 6 (fun _ => False)) (hf9 : f9 ≤ 8) (hn9 : n9 ≤ 255) (hrec : Hs L f x0 (.inr (5, fs))) (hou : ¬ A ou) (hL : L.Nodup) (hA : ∀ a, a ∈ L → A a) (hC0 : ∀ H : Heap, va_P D vwCl (va_pl L f) H → CX D cI cO A x0 e0 F ik kp tu n H) : HC l yL_rightsBackwards wsL_rightsBackwards D cI cZ cO cJ A L f x0 e0 z mi ou w [.ref x0, .int a1, .int a2, .ref ou] 1 v F ik kp tu n := by
  unfold HC
  refine hc_ofWH (cc := cL_rightsBackwards) (maxL := 5) (ret := (some .int)) (hh := [(0, 10, 13, 13)]) (by decide) rfl ?_
  intro p e s m args below meth c s₁ B hml hv
  obtain ⟨hargs, hC, hPo, hKJ, hNc⟩ := hv
  obtain ⟨⟨hP, hK, hN⟩, hX, hY⟩ := id hC
  have hx := B.exec
  have hb := B.bytes
  have hr := B.returns
  have hts := atoms_spec (ws := wsL_rightsBackwards) B.pre
  have hown : s.vm.findClass RL = some m.cls := findClass_of_methodNamed B.named
  have hlocks := B.notSynchronized
  have hen : entryFrame m args 5 = entryFrame m ([.ref x0, .int a1, .int a2, .ref ou] : List Value).toArray 5 := by rw [hargs]
  rw [hen]
  have hl := lv_entry ([.ref x0, .int a1, .int a2, .ref ou]) (n := 5) (Nat.le_of_ble_eq_true rfl)
  rw [lg_entry_eq]
  generalize (lg_sl ([.ref x0, .int a1, .int a2, .ref ou]) ++ List.replicate (5 - (lg_sl ([.ref x0, .int a1, .int a2, .ref ou])).length) Slot.unset).toArray = ls at hl ⊢
  have hl : lv_has ls 5 [(0, .ref x0), (1, .int a1), (2, .int a2), (3, .ref ou)] := hl
  generalize hQ : MQ below (va_Qi (fun (r : Int32) (w' : Nat → Int64) => r = 1 ∧ ((1 : Int32) = 0 → w' 0 = v)) (fun w' t => CX D cI cO A x0 e0 F ik kp tu n t.heap ∧ va_P D vwCl [(ou, lgC cJ w')] t.heap) (fun q => A q ∨ q = ou)) args s 4 40 (fun q => A q ∨ q = ou) = Q
  obtain ⟨k5, e5⟩ := hrec.at
  refine lv_aload_n hx hb dL_rightsBackwards_0 rfl (lv_at hl 3 rfl) ?_
  refine lv_iconst (v := 0) hx hb dL_rightsBackwards_1 (by decide) ?_
  refine top_eq (y := nI 0) rfl ?_
  refine lv_aload_n hx hb dL_rightsBackwards_2 rfl (lv_at hl 0 rfl) ?_
  refine lv_iload_n hx hb dL_rightsBackwards_3 rfl (lv_at hl 1 rfl) ?_
  refine lv_iload_n hx hb dL_rightsBackwards_4 rfl (lv_at hl 2 rfl) ?_
  have hct := vx_table (x := yL_rightsBackwards) B (hts _ List.mem_cons_self)
  refine xx_call (vx_runV (As := [.int a1, .int a2]) (rest := [.int (nI 0), .ref ou]) ⟨hx, hb, hml, hown, hts⟩ hM (cwV 2 hts gL_rightsBackwards_X4_rightsBackwards rfl rfl rfl (by decide +kernel) ⟨(show f9 + 1 ≤ 9 by omega), (show 8 + (3 + 11) + n9 ≤ 300 by omega)⟩) ⟨CW.blind, va_recv hK hP (ci := 5) (q0 := k5) rfl e5, fun U hU hW => ⟨rfl, CW.move hU hW hC⟩⟩ rfl rfl hl.1 rfl (lv_room (Nat.le_of_ble_eq_true rfl)) dL_rightsBackwards_5 ⟨Nat.le_of_ble_eq_true rfl, Nat.le_of_ble_eq_true rfl⟩) (fun q9 ce H1 hz1 hk1 hcell hvn hcl => ?_)
  refine vx_catch (own := RL) (name := "java/lang/IndexOutOfBoundsException") hown [] ⟨0, 10, 13, 13⟩ [] (hct.trans rfl) (fun _ h9 => absurd h9 List.not_mem_nil) (by decide) (by decide) (hts _ (List.mem_of_getElem? (i := 1) rfl)) (va_Nw.use rfl (hX.2.2.1 "java/lang/IndexOutOfBoundsException" (by decide))) hcell hvn hcl ?_
  refine lv_astore (lv' := [(4, .ref q9), (0, .ref x0), (1, .int a1), (2, .int a2), (3, .ref ou)]) hx hb dL_rightsBackwards_13 hl (by decide) rfl (fun ls hl => ?_)
  refine lv_iconst (v := 1) hx hb dL_rightsBackwards_15 (by decide) ?_
  have hS : va_S (fun q => A q ∨ q = ou) s.heap H1 [] := ⟨hz1, fun q h _ => hk1 q h, fun _ h => nomatch h⟩
  have hPo1 : va_P D vwCl [(ou, lgC cJ w)] H1 := hPo.kept (fun k x hk => hk1 x.1 (va_at.lt (hPo k x hk)))
  have hP1 : va_P D vwCl (va_pl L f) H1 := hP.kept (fun k x hk => hk1 x.1 (va_at.lt (hP k x hk)))
  subst hQ
  refine W.widen (k := 4) (n := 40) (Nat.le_of_ble_eq_true rfl) (Nat.le_of_ble_eq_true rfl) ?_
  exact W.iret hx hb hr (fun t ht hW => ⟨⟨1, w, rfl, ⟨rfl, fun h => absurd h (by decide)⟩, (show CX D cI cO A x0 e0 F ik kp tu n t.heap ∧ va_P D vwCl [(ou, lgC cJ w)] t.heap from by rw [ht]; exact ⟨hC0 _ hP1, hPo1⟩)⟩, hS.F ht⟩) hS.2.2 dL_rightsBackwards_16
