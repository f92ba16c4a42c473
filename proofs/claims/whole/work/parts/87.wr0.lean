set_option maxHeartbeats 800000 in
set_option maxRecDepth 100000 in
theorem hg_setMember (l : Launch) (D : va_G) (cI cZ cO cJ : ClassId) {A : Nat → Prop} {L : List Nat} {f : Nat → va_E} {e0 z mi ou x0 : Nat} {w : Nat → Int64} {fs : List Value} (a1 : Int32) (a2 : Int32) (a3 : Int32) {F : Nat → Nat → Int32} {ik kp tu : Nat → Int32} {n : Nat} {rm0 : Room} {mc ms : Nat} {v : Int32} (hM : Met l yX4_setMember wsX4_setMember rm0 (va_Pc [.ref x0, .int a1, .int a2, .int a3] (CW D cI cZ cO A L f e0 z mi)) (va_Qi (fun (r : Int32) (_ : Unit) => r = v) (fun _ t => CX D cI cO A x0 e0 F ik kp tu n t.heap) A) mc ms A) (hrm : hRM rm0 mc ms) (hrec : Hs L f x0 (.inr (5, fs))) (hou : ¬ A ou) : HC l yL_setMember wsL_setMember D cI cZ cO cJ A L f x0 e0 z mi ou w [.ref x0, .int a1, .int a2, .int a3, .ref ou] 0 (if v = 0 then 0 else 1) F ik kp tu n := by
  obtain ⟨hr1, hr2, hr3, hr4, hr5, hr6⟩ := hrm
  unfold HC
  refine hc_ofWH (cc := cL_setMember) (maxL := 6) (ret := (some .int)) (hh := [(0, 19, 22, 13)]) (by decide) rfl ?_
  intro p e s m args below meth c s₁ B hml hv
  obtain ⟨hargs, hC, hPo, hKJ, hNc⟩ := hv
  obtain ⟨⟨hP, hK, hN⟩, hX, hY⟩ := id hC
  have hx := B.exec
  have hb := B.bytes
  have hr := B.returns
  have hts := atoms_spec (ws := wsL_setMember) B.pre
  have hown : s.vm.findClass RL = some m.cls := findClass_of_methodNamed B.named
  have hlocks := B.notSynchronized
  have hen : entryFrame m args 6 = entryFrame m ([.ref x0, .int a1, .int a2, .int a3, .ref ou] : List Value).toArray 6 := by rw [hargs]
  rw [hen]
  have hl := lv_entry ([.ref x0, .int a1, .int a2, .int a3, .ref ou]) (n := 6) (Nat.le_of_ble_eq_true rfl)
  rw [lg_entry_eq]
  generalize (lg_sl ([.ref x0, .int a1, .int a2, .int a3, .ref ou]) ++ List.replicate (6 - (lg_sl ([.ref x0, .int a1, .int a2, .int a3, .ref ou])).length) Slot.unset).toArray = ls at hl ⊢
  have hl : lv_has ls 6 [(0, .ref x0), (1, .int a1), (2, .int a2), (3, .int a3), (4, .ref ou)] := hl
  generalize hQ : MQ below (va_Qi (fun (r : Int32) (w' : Nat → Int64) => r = 0 ∧ ((0 : Int32) = 0 → w' 0 = (if v = 0 then 0 else 1))) (fun w' t => CX D cI cO A x0 e0 F ik kp tu n t.heap ∧ va_P D vwCl [(ou, lgC cJ w')] t.heap) (fun q => A q ∨ q = ou)) args s 4 40 (fun q => A q ∨ q = ou) = Q
  obtain ⟨k5, e5⟩ := hrec.at
  refine lv_aload hx hb dL_setMember_0 (lv_at hl 4 rfl) ?_
  refine lv_iconst (v := 0) hx hb dL_setMember_2 (by decide) ?_
  refine top_eq (y := nI 0) rfl ?_
  refine lv_aload_n hx hb dL_setMember_3 rfl (lv_at hl 0 rfl) ?_
  refine lv_iload_n hx hb dL_setMember_4 rfl (lv_at hl 1 rfl) ?_
  refine lv_iload_n hx hb dL_setMember_5 rfl (lv_at hl 2 rfl) ?_
  refine lv_iload_n hx hb dL_setMember_6 rfl (lv_at hl 3 rfl) ?_
  have hS : va_S (fun q => A q ∨ q = ou) s.heap s.heap [] := va_S.rf
  refine va_calli (va_runV (As := [.int a1, .int a2, .int a3]) (rest := [.int (nI 0), .ref ou]) ⟨hx, hb, hml, hown, hts⟩ hM (cwV 3 hts gL_setMember_X4_setMember rfl hr1 hr2 (by decide +kernel) ⟨(show rm0.frames + 1 ≤ 9 by omega), (show 8 + (4 + 11) + rm0.locals ≤ 300 by omega)⟩) ⟨CW.blind, va_recv hK hP (ci := 5) (q0 := k5) rfl e5, fun U hU hW => ⟨rfl, CW.move hU hW hC⟩⟩ rfl rfl hl.1 rfl (lv_room (Nat.le_of_ble_eq_true rfl)) dL_setMember_7 ⟨(show 0 + mc ≤ 4 by omega), (show 0 + ms ≤ 40 by omega)⟩) hS (fun q _ h => Or.inl h) (fun q h => Or.inl h) (fun r u9 t H1 locs1 ht hvm hw hB hz1 hk1 hS => ?_)
  rw [hw]
  rw [ht] at hB
  have hPo1 : va_P D vwCl [(ou, lgC cJ w)] H1 := hPo.kept (fun k x hk => hk1 x.1 (va_at.lt (hPo k x hk)) (by have hm := List.mem_of_getElem? hk; rw [List.mem_singleton] at hm; rw [hm]; exact hou))
  obtain ⟨he9, gv9, gp9, gb9, ob9, nm9, lo9, L9, f9, tg9, AD9, mc9, hL9, hA9, hx9, he90, hP9, hR9⟩ := hB
  have STO : ∀ y9 : Int64, y9 = (if v = 0 then 0 else 1) → W p l e (headSpec wsL_setMember rmh).room s m args below meth c H1 locs1 (0 + mc) (0 + ms) Q (F0 m 18 ls [.long y9, .int (nI 0), .ref ou]) := by
    intro y9 ey
    refine st_l (k := 0) hx hb hKJ (ws := (ou, lgC cJ w) :: va_pl L9 f9) (va_P.app (w1 := [(ou, lgC cJ w)]) hPo1 hP9) (od_D hL9 hA9 hou) hS 0 0 rfl rfl (by decide) (by decide) dL_setMember_18 (fun H2 locs2 hP2 _ hS2 => ?_)
    refine lv_goto (tgt := 26) hx hb dL_setMember_19 (by decide) ?_
    refine lv_iconst (v := 0) hx hb dL_setMember_26 (by decide) ?_
    subst hQ
    refine W.widen (k := 4) (n := 40) (by omega) (by omega) ?_
    have hP3 : va_P D vwCl ((ou, lgC cJ (vp_updL w 0 y9)) :: va_pl L9 f9) H2 := hP2
    exact W.iret hx hb hr (fun t ht hW => ⟨⟨0, vp_updL w 0 y9, rfl, ⟨rfl, fun _ => (show vp_updL w 0 y9 0 = y9 from if_pos rfl).trans ey⟩, (show CX D cI cO A x0 e0 F ik kp tu n t.heap ∧ va_P D vwCl [(ou, lgC cJ (vp_updL w 0 y9))] t.heap from by rw [ht]; exact ⟨⟨he9, gv9, gp9, gb9, ob9, nm9, lo9, L9, f9, tg9, AD9, mc9, hL9, hA9, hx9, he90, va_P_in hP3 (fun q hq => List.mem_cons_of_mem _ hq), hR9⟩, va_P_in hP3 (fun q hq => by rw [List.mem_singleton] at hq; rw [hq]; exact List.mem_cons_self)⟩)⟩, hS2.F ht⟩) hS2.2.2 dL_setMember_27
  refine lv_if_eq (tgt := 17) hx hb dL_setMember_10 (by decide) (fun c0 => ?_) (fun c0 => ?_)
  · refine lv_lconst (v := 0) hx hb dL_setMember_17 (by decide) ?_
    exact STO _ (if_pos c0).symm
  · refine lv_lconst (v := 1) hx hb dL_setMember_13 (by decide) ?_
    refine lv_goto (tgt := 18) hx hb dL_setMember_14 (by decide) ?_
    exact STO _ (if_neg c0).symm
set_option maxHeartbeats 800000 in
set_option maxRecDepth 100000 in
theorem hb_setMember_1 (l : Launch) (D : va_G) (cI cZ cO cJ : ClassId) {A : Nat → Prop} {L : List Nat} {f : Nat → va_E} {e0 z mi ou x0 : Nat} {w : Nat → Int64} {fs : List Value} (a1 : Int32) (a2 : Int32) (a3 : Int32) {F : Nat → Nat → Int32} {ik kp tu : Nat → Int32} {n : Nat} {f9 n9 : Nat} {v : Int64} (hM : vx_Met l yX4_setMember wsX4_setMember (rmx f9 n9) (va_Pc [.ref x0, .int a1, .int a2, .int a3] (CW D cI cZ cO A L f e0 z mi)) xQc (xXC "java/lang/IndexOutOfBoundsException") 1 6 (fun _ => False)) (hf9 : f9 ≤ 8) (hn9 : n9 ≤ 255) (hrec : Hs L f x0 (.inr (5, fs))) (hou : ¬ A ou) (hL : L.Nodup) (hA : ∀ a, a ∈ L → A a) (hC0 : ∀ H : Heap, va_P D vwCl (va_pl L f) H → CX D cI cO A x0 e0 F ik kp tu n H) : HC l yL_setMember wsL_setMember D cI cZ cO cJ A L f x0 e0 z mi ou w [.ref x0, .int a1, .int a2, .int a3, .ref ou] 1 v F ik kp tu n := by
  unfold HC
  refine hc_ofWH (cc := cL_setMember) (maxL := 6) (ret := (some .int)) (hh := [(0, 19, 22, 13)]) (by decide) rfl ?_
  intro p e s m args below meth c s₁ B hml hv
  obtain ⟨hargs, hC, hPo, hKJ, hNc⟩ := hv
  obtain ⟨⟨hP, hK, hN⟩, hX, hY⟩ := id hC
  have hx := B.exec
  have hb := B.bytes
  have hr := B.returns
  have hts := atoms_spec (ws := wsL_setMember) B.pre
  have hown : s.vm.findClass RL = some m.cls := findClass_of_methodNamed B.named
  have hlocks := B.notSynchronized
  have hen : entryFrame m args 6 = entryFrame m ([.ref x0, .int a1, .int a2, .int a3, .ref ou] : List Value).toArray 6 := by rw [hargs]
  rw [hen]
  have hl := lv_entry ([.ref x0, .int a1, .int a2, .int a3, .ref ou]) (n := 6) (Nat.le_of_ble_eq_true rfl)
  rw [lg_entry_eq]
  generalize (lg_sl ([.ref x0, .int a1, .int a2, .int a3, .ref ou]) ++ List.replicate (6 - (lg_sl ([.ref x0, .int a1, .int a2, .int a3, .ref ou])).length) Slot.unset).toArray = ls at hl ⊢
  have hl : lv_has ls 6 [(0, .ref x0), (1, .int a1), (2, .int a2), (3, .int a3), (4, .ref ou)] := hl
  generalize hQ : MQ below (va_Qi (fun (r : Int32) (w' : Nat → Int64) => r = 1 ∧ ((1 : Int32) = 0 → w' 0 = v)) (fun w' t => CX D cI cO A x0 e0 F ik kp tu n t.heap ∧ va_P D vwCl [(ou, lgC cJ w')] t.heap) (fun q => A q ∨ q = ou)) args s 4 40 (fun q => A q ∨ q = ou) = Q
  obtain ⟨k5, e5⟩ := hrec.at
  refine lv_aload hx hb dL_setMember_0 (lv_at hl 4 rfl) ?_
  refine lv_iconst (v := 0) hx hb dL_setMember_2 (by decide) ?_
  refine top_eq (y := nI 0) rfl ?_
  refine lv_aload_n hx hb dL_setMember_3 rfl (lv_at hl 0 rfl) ?_
  refine lv_iload_n hx hb dL_setMember_4 rfl (lv_at hl 1 rfl) ?_
  refine lv_iload_n hx hb dL_setMember_5 rfl (lv_at hl 2 rfl) ?_
  refine lv_iload_n hx hb dL_setMember_6 rfl (lv_at hl 3 rfl) ?_
  have hct := vx_table (x := yL_setMember) B (hts _ List.mem_cons_self)
  refine xx_call (vx_runV (As := [.int a1, .int a2, .int a3]) (rest := [.int (nI 0), .ref ou]) ⟨hx, hb, hml, hown, hts⟩ hM (cwV 3 hts gL_setMember_X4_setMember rfl rfl rfl (by decide +kernel) ⟨(show f9 + 1 ≤ 9 by omega), (show 8 + (4 + 11) + n9 ≤ 300 by omega)⟩) ⟨CW.blind, va_recv hK hP (ci := 5) (q0 := k5) rfl e5, fun U hU hW => ⟨rfl, CW.move hU hW hC⟩⟩ rfl rfl hl.1 rfl (lv_room (Nat.le_of_ble_eq_true rfl)) dL_setMember_7 ⟨Nat.le_of_ble_eq_true rfl, Nat.le_of_ble_eq_true rfl⟩) (fun q9 ce H1 hz1 hk1 hcell hvn hcl => ?_)
  refine vx_catch (own := RL) (name := "java/lang/IndexOutOfBoundsException") hown [] ⟨0, 19, 22, 13⟩ [] (hct.trans rfl) (fun _ h9 => absurd h9 List.not_mem_nil) (by decide) (by decide) (hts _ (List.mem_of_getElem? (i := 1) rfl)) (va_Nw.use rfl (hX.2.2.1 "java/lang/IndexOutOfBoundsException" (by decide))) hcell hvn hcl ?_
  refine lv_astore (lv' := [(5, .ref q9), (0, .ref x0), (1, .int a1), (2, .int a2), (3, .int a3), (4, .ref ou)]) hx hb dL_setMember_22 hl (by decide) rfl (fun ls hl => ?_)
  refine lv_iconst (v := 1) hx hb dL_setMember_24 (by decide) ?_
  have hS : va_S (fun q => A q ∨ q = ou) s.heap H1 [] := ⟨hz1, fun q h _ => hk1 q h, fun _ h => nomatch h⟩
  have hPo1 : va_P D vwCl [(ou, lgC cJ w)] H1 := hPo.kept (fun k x hk => hk1 x.1 (va_at.lt (hPo k x hk)))
  have hP1 : va_P D vwCl (va_pl L f) H1 := hP.kept (fun k x hk => hk1 x.1 (va_at.lt (hP k x hk)))
  subst hQ
  refine W.widen (k := 4) (n := 40) (Nat.le_of_ble_eq_true rfl) (Nat.le_of_ble_eq_true rfl) ?_
  exact W.iret hx hb hr (fun t ht hW => ⟨⟨1, w, rfl, ⟨rfl, fun h => absurd h (by decide)⟩, (show CX D cI cO A x0 e0 F ik kp tu n t.heap ∧ va_P D vwCl [(ou, lgC cJ w)] t.heap from by rw [ht]; exact ⟨hC0 _ hP1, hPo1⟩)⟩, hS.F ht⟩) hS.2.2 dL_setMember_25
set_option maxHeartbeats 800000 in
set_option maxRecDepth 100000 in
theorem hg_nest (l : Launch) (D : va_G) (cI cZ cO cJ : ClassId) {A : Nat → Prop} {L : List Nat} {f : Nat → va_E} {e0 z mi ou x0 : Nat} {w : Nat → Int64} {fs : List Value} (a1 : Int32) (a2 : Int32) {F : Nat → Nat → Int32} {ik kp tu : Nat → Int32} {n : Nat} {rm0 : Room} {mc ms : Nat} {v : Int32} (hM : Met l yX4_nest wsX4_nest rm0 (va_Pc [.ref x0, .int a1, .int a2] (CW D cI cZ cO A L f e0 z mi)) (va_Qi (fun (r : Int32) (_ : Unit) => r = v) (fun _ t => CX D cI cO A x0 e0 F ik kp tu n t.heap) A) mc ms A) (hrm : hRM rm0 mc ms) (hrec : Hs L f x0 (.inr (5, fs))) (hou : ¬ A ou) : HC l yL_nest wsL_nest D cI cZ cO cJ A L f x0 e0 z mi ou w [.ref x0, .int a1, .int a2, .ref ou] 0 (if v = 0 then 0 else 1) F ik kp tu n := by
  obtain ⟨hr1, hr2, hr3, hr4, hr5, hr6⟩ := hrm
  unfold HC
  refine hc_ofWH (cc := cL_nest) (maxL := 5) (ret := (some .int)) (hh := [(0, 17, 20, 13), (0, 17, 24, 19)]) (by decide) rfl ?_
  intro p e s m args below meth c s₁ B hml hv
  obtain ⟨hargs, hC, hPo, hKJ, hNc⟩ := hv
  obtain ⟨⟨hP, hK, hN⟩, hX, hY⟩ := id hC
  have hx := B.exec
  have hb := B.bytes
  have hr := B.returns
  have hts := atoms_spec (ws := wsL_nest) B.pre
  have hown : s.vm.findClass RL = some m.cls := findClass_of_methodNamed B.named
  have hlocks := B.notSynchronized
  have hen : entryFrame m args 5 = entryFrame m ([.ref x0, .int a1, .int a2, .ref ou] : List Value).toArray 5 := by rw [hargs]
  rw [hen]
  have hl := lv_entry ([.ref x0, .int a1, .int a2, .ref ou]) (n := 5) (Nat.le_of_ble_eq_true rfl)
  rw [lg_entry_eq]
  generalize (lg_sl ([.ref x0, .int a1, .int a2, .ref ou]) ++ List.replicate (5 - (lg_sl ([.ref x0, .int a1, .int a2, .ref ou])).length) Slot.unset).toArray = ls at hl ⊢
  have hl : lv_has ls 5 [(0, .ref x0), (1, .int a1), (2, .int a2), (3, .ref ou)] := hl
  generalize hQ : MQ below (va_Qi (fun (r : Int32) (w' : Nat → Int64) => r = 0 ∧ ((0 : Int32) = 0 → w' 0 = (if v = 0 then 0 else 1))) (fun w' t => CX D cI cO A x0 e0 F ik kp tu n t.heap ∧ va_P D vwCl [(ou, lgC cJ w')] t.heap) (fun q => A q ∨ q = ou)) args s 4 40 (fun q => A q ∨ q = ou) = Q
  obtain ⟨k5, e5⟩ := hrec.at
  refine lv_aload_n hx hb dL_nest_0 rfl (lv_at hl 3 rfl) ?_
  refine lv_iconst (v := 0) hx hb dL_nest_1 (by decide) ?_
  refine top_eq (y := nI 0) rfl ?_
  refine lv_aload_n hx hb dL_nest_2 rfl (lv_at hl 0 rfl) ?_
  refine lv_iload_n hx hb dL_nest_3 rfl (lv_at hl 1 rfl) ?_
  refine lv_iload_n hx hb dL_nest_4 rfl (lv_at hl 2 rfl) ?_
  have hS : va_S (fun q => A q ∨ q = ou) s.heap s.heap [] := va_S.rf
  refine va_calli (va_runV (As := [.int a1, .int a2]) (rest := [.int (nI 0), .ref ou]) ⟨hx, hb, hml, hown, hts⟩ hM (cwV 2 hts gL_nest_X4_nest rfl hr1 hr2 (by decide +kernel) ⟨(show rm0.frames + 1 ≤ 9 by omega), (show 8 + (3 + 11) + rm0.locals ≤ 300 by omega)⟩) ⟨CW.blind, va_recv hK hP (ci := 5) (q0 := k5) rfl e5, fun U hU hW => ⟨rfl, CW.move hU hW hC⟩⟩ rfl rfl hl.1 rfl (lv_room (Nat.le_of_ble_eq_true rfl)) dL_nest_5 ⟨(show 0 + mc ≤ 4 by omega), (show 0 + ms ≤ 40 by omega)⟩) hS (fun q _ h => Or.inl h) (fun q h => Or.inl h) (fun r u9 t H1 locs1 ht hvm hw hB hz1 hk1 hS => ?_)
  rw [hw]
  rw [ht] at hB
  have hPo1 : va_P D vwCl [(ou, lgC cJ w)] H1 := hPo.kept (fun k x hk => hk1 x.1 (va_at.lt (hPo k x hk)) (by have hm := List.mem_of_getElem? hk; rw [List.mem_singleton] at hm; rw [hm]; exact hou))
  obtain ⟨he9, gv9, gp9, gb9, ob9, nm9, lo9, L9, f9, tg9, AD9, mc9, hL9, hA9, hx9, he90, hP9, hR9⟩ := hB
  have STO : ∀ y9 : Int64, y9 = (if v = 0 then 0 else 1) → W p l e (headSpec wsL_nest rmh).room s m args below meth c H1 locs1 (0 + mc) (0 + ms) Q (F0 m 16 ls [.long y9, .int (nI 0), .ref ou]) := by
    intro y9 ey
    refine st_l (k := 0) hx hb hKJ (ws := (ou, lgC cJ w) :: va_pl L9 f9) (va_P.app (w1 := [(ou, lgC cJ w)]) hPo1 hP9) (od_D hL9 hA9 hou) hS 0 0 rfl rfl (by decide) (by decide) dL_nest_16 (fun H2 locs2 hP2 _ hS2 => ?_)
    refine lv_goto (tgt := 28) hx hb dL_nest_17 (by decide) ?_
    refine lv_iconst (v := 0) hx hb dL_nest_28 (by decide) ?_
    subst hQ
    refine W.widen (k := 4) (n := 40) (by omega) (by omega) ?_
    have hP3 : va_P D vwCl ((ou, lgC cJ (vp_updL w 0 y9)) :: va_pl L9 f9) H2 := hP2
    exact W.iret hx hb hr (fun t ht hW => ⟨⟨0, vp_updL w 0 y9, rfl, ⟨rfl, fun _ => (show vp_updL w 0 y9 0 = y9 from if_pos rfl).trans ey⟩, (show CX D cI cO A x0 e0 F ik kp tu n t.heap ∧ va_P D vwCl [(ou, lgC cJ (vp_updL w 0 y9))] t.heap from by rw [ht]; exact ⟨⟨he9, gv9, gp9, gb9, ob9, nm9, lo9, L9, f9, tg9, AD9, mc9, hL9, hA9, hx9, he90, va_P_in hP3 (fun q hq => List.mem_cons_of_mem _ hq), hR9⟩, va_P_in hP3 (fun q hq => by rw [List.mem_singleton] at hq; rw [hq]; exact List.mem_cons_self)⟩)⟩, hS2.F ht⟩) hS2.2.2 dL_nest_29
  refine lv_if_eq (tgt := 15) hx hb dL_nest_8 (by decide) (fun c0 => ?_) (fun c0 => ?_)
  · refine lv_lconst (v := 0) hx hb dL_nest_15 (by decide) ?_
    exact STO _ (if_pos c0).symm
  · refine lv_lconst (v := 1) hx hb dL_nest_11 (by decide) ?_
    refine lv_goto (tgt := 16) hx hb dL_nest_12 (by decide) ?_
    exact STO _ (if_neg c0).symm
set_option maxHeartbeats 800000 in
set_option maxRecDepth 100000 in
theorem hb_nest_1 (l : Launch) (D : va_G) (cI cZ cO cJ : ClassId) {A : Nat → Prop} {L : List Nat} {f : Nat → va_E} {e0 z mi ou x0 : Nat} {w : Nat → Int64} {fs : List Value} (a1 : Int32) (a2 : Int32) {F : Nat → Nat → Int32} {ik kp tu : Nat → Int32} {n : Nat} {f9 n9 : Nat} {v : Int64} (hM : vx_Met l yX4_nest wsX4_nest (rmx f9 n9) (va_Pc [.ref x0, .int a1, .int a2] (CW D cI cZ cO A L f e0 z mi)) xQc (xXC "java/lang/IndexOutOfBoundsException") 1 6 (fun _ => False)) (hf9 : f9 ≤ 8) (hn9 : n9 ≤ 255) (hrec : Hs L f x0 (.inr (5, fs))) (hou : ¬ A ou) (hL : L.Nodup) (hA : ∀ a, a ∈ L → A a) (hC0 : ∀ H : Heap, va_P D vwCl (va_pl L f) H → CX D cI cO A x0 e0 F ik kp tu n H) : HC l yL_nest wsL_nest D cI cZ cO cJ A L f x0 e0 z mi ou w [.ref x0, .int a1, .int a2, .ref ou] 1 v F ik kp tu n := by
  unfold HC
  refine hc_ofWH (cc := cL_nest) (maxL := 5) (ret := (some .int)) (hh := [(0, 17, 20, 13), (0, 17, 24, 19)]) (by decide) rfl ?_
  intro p e s m args below meth c s₁ B hml hv
  obtain ⟨hargs, hC, hPo, hKJ, hNc⟩ := hv
  obtain ⟨⟨hP, hK, hN⟩, hX, hY⟩ := id hC
  have hx := B.exec
  have hb := B.bytes
  have hr := B.returns
  have hts := atoms_spec (ws := wsL_nest) B.pre
  have hown : s.vm.findClass RL = some m.cls := findClass_of_methodNamed B.named
  have hlocks := B.notSynchronized
  have hen : entryFrame m args 5 = entryFrame m ([.ref x0, .int a1, .int a2, .ref ou] : List Value).toArray 5 := by rw [hargs]
  rw [hen]
  have hl := lv_entry ([.ref x0, .int a1, .int a2, .ref ou]) (n := 5) (Nat.le_of_ble_eq_true rfl)
  rw [lg_entry_eq]
  generalize (lg_sl ([.ref x0, .int a1, .int a2, .ref ou]) ++ List.replicate (5 - (lg_sl ([.ref x0, .int a1, .int a2, .ref ou])).length) Slot.unset).toArray = ls at hl ⊢
  have hl : lv_has ls 5 [(0, .ref x0), (1, .int a1), (2, .int a2), (3, .ref ou)] := hl
  generalize hQ : MQ below (va_Qi (fun (r : Int32) (w' : Nat → Int64) => r = 1 ∧ ((1 : Int32) = 0 → w' 0 = v)) (fun w' t => CX D cI cO A x0 e0 F ik kp tu n t.heap ∧ va_P D vwCl [(ou, lgC cJ w')] t.heap) (fun q => A q ∨ q = ou)) args s 4 40 (fun q => A q ∨ q = ou) = Q
  obtain ⟨k5, e5⟩ := hrec.at
  refine lv_aload_n hx hb dL_nest_0 rfl (lv_at hl 3 rfl) ?_
  refine lv_iconst (v := 0) hx hb dL_nest_1 (by decide) ?_
  refine top_eq (y := nI 0) rfl ?_
  refine lv_aload_n hx hb dL_nest_2 rfl (lv_at hl 0 rfl) ?_
  refine lv_iload_n hx hb dL_nest_3 rfl (lv_at hl 1 rfl) ?_
  refine lv_iload_n hx hb dL_nest_4 rfl (lv_at hl 2 rfl) ?_
  have hct := vx_table (x := yL_nest) B (hts _ List.mem_cons_self)
  refine xx_call (vx_runV (As := [.int a1, .int a2]) (rest := [.int (nI 0), .ref ou]) ⟨hx, hb, hml, hown, hts⟩ hM (cwV 2 hts gL_nest_X4_nest rfl rfl rfl (by decide +kernel) ⟨(show f9 + 1 ≤ 9 by omega), (show 8 + (3 + 11) + n9 ≤ 300 by omega)⟩) ⟨CW.blind, va_recv hK hP (ci := 5) (q0 := k5) rfl e5, fun U hU hW => ⟨rfl, CW.move hU hW hC⟩⟩ rfl rfl hl.1 rfl (lv_room (Nat.le_of_ble_eq_true rfl)) dL_nest_5 ⟨Nat.le_of_ble_eq_true rfl, Nat.le_of_ble_eq_true rfl⟩) (fun q9 ce H1 hz1 hk1 hcell hvn hcl => ?_)
  refine vx_catch (own := RL) (name := "java/lang/IndexOutOfBoundsException") hown [] ⟨0, 17, 20, 13⟩ [⟨0, 17, 24, 19⟩] (hct.trans rfl) (fun _ h9 => absurd h9 List.not_mem_nil) (by decide) (by decide) (hts _ (List.mem_of_getElem? (i := 1) rfl)) (va_Nw.use rfl (hX.2.2.1 "java/lang/IndexOutOfBoundsException" (by decide))) hcell hvn hcl ?_
  refine lv_astore (lv' := [(4, .ref q9), (0, .ref x0), (1, .int a1), (2, .int a2), (3, .ref ou)]) hx hb dL_nest_20 hl (by decide) rfl (fun ls hl => ?_)
  refine lv_iconst (v := 1) hx hb dL_nest_22 (by decide) ?_
  have hS : va_S (fun q => A q ∨ q = ou) s.heap H1 [] := ⟨hz1, fun q h _ => hk1 q h, fun _ h => nomatch h⟩
  have hPo1 : va_P D vwCl [(ou, lgC cJ w)] H1 := hPo.kept (fun k x hk => hk1 x.1 (va_at.lt (hPo k x hk)))
  have hP1 : va_P D vwCl (va_pl L f) H1 := hP.kept (fun k x hk => hk1 x.1 (va_at.lt (hP k x hk)))
  subst hQ
  refine W.widen (k := 4) (n := 40) (Nat.le_of_ble_eq_true rfl) (Nat.le_of_ble_eq_true rfl) ?_
  exact W.iret hx hb hr (fun t ht hW => ⟨⟨1, w, rfl, ⟨rfl, fun h => absurd h (by decide)⟩, (show CX D cI cO A x0 e0 F ik kp tu n t.heap ∧ va_P D vwCl [(ou, lgC cJ w)] t.heap from by rw [ht]; exact ⟨hC0 _ hP1, hPo1⟩)⟩, hS.F ht⟩) hS.2.2 dL_nest_23
set_option maxHeartbeats 800000 in
set_option maxRecDepth 100000 in
theorem hb_nest_2 (l : Launch) (D : va_G) (cI cZ cO cJ : ClassId) {A : Nat → Prop} {L : List Nat} {f : Nat → va_E} {e0 z mi ou x0 : Nat} {w : Nat → Int64} {fs : List Value} (a1 : Int32) (a2 : Int32) {F : Nat → Nat → Int32} {ik kp tu : Nat → Int32} {n : Nat} {f9 n9 : Nat} {v : Int64} (hM : vx_Met l yX4_nest wsX4_nest (rmx f9 n9) (va_Pc [.ref x0, .int a1, .int a2] (CW D cI cZ cO A L f e0 z mi)) xQc (xXC "java/lang/IllegalStateException") 1 6 (fun _ => False)) (hf9 : f9 ≤ 8) (hn9 : n9 ≤ 255) (hrec : Hs L f x0 (.inr (5, fs))) (hou : ¬ A ou) (hL : L.Nodup) (hA : ∀ a, a ∈ L → A a) (hC0 : ∀ H : Heap, va_P D vwCl (va_pl L f) H → CX D cI cO A x0 e0 F ik kp tu n H) : HC l yL_nest wsL_nest D cI cZ cO cJ A L f x0 e0 z mi ou w [.ref x0, .int a1, .int a2, .ref ou] 2 v F ik kp tu n := by
  unfold HC
  refine hc_ofWH (cc := cL_nest) (maxL := 5) (ret := (some .int)) (hh := [(0, 17, 20, 13), (0, 17, 24, 19)]) (by decide) rfl ?_
  intro p e s m args below meth c s₁ B hml hv
  obtain ⟨hargs, hC, hPo, hKJ, hNc⟩ := hv
  obtain ⟨⟨hP, hK, hN⟩, hX, hY⟩ := id hC
  have hx := B.exec
  have hb := B.bytes
  have hr := B.returns
  have hts := atoms_spec (ws := wsL_nest) B.pre
  have hown : s.vm.findClass RL = some m.cls := findClass_of_methodNamed B.named
  have hlocks := B.notSynchronized
  have hen : entryFrame m args 5 = entryFrame m ([.ref x0, .int a1, .int a2, .ref ou] : List Value).toArray 5 := by rw [hargs]
  rw [hen]
  have hl := lv_entry ([.ref x0, .int a1, .int a2, .ref ou]) (n := 5) (Nat.le_of_ble_eq_true rfl)
  rw [lg_entry_eq]
  generalize (lg_sl ([.ref x0, .int a1, .int a2, .ref ou]) ++ List.replicate (5 - (lg_sl ([.ref x0, .int a1, .int a2, .ref ou])).length) Slot.unset).toArray = ls at hl ⊢
  have hl : lv_has ls 5 [(0, .ref x0), (1, .int a1), (2, .int a2), (3, .ref ou)] := hl
  generalize hQ : MQ below (va_Qi (fun (r : Int32) (w' : Nat → Int64) => r = 2 ∧ ((2 : Int32) = 0 → w' 0 = v)) (fun w' t => CX D cI cO A x0 e0 F ik kp tu n t.heap ∧ va_P D vwCl [(ou, lgC cJ w')] t.heap) (fun q => A q ∨ q = ou)) args s 4 40 (fun q => A q ∨ q = ou) = Q
  obtain ⟨k5, e5⟩ := hrec.at
  refine lv_aload_n hx hb dL_nest_0 rfl (lv_at hl 3 rfl) ?_
  refine lv_iconst (v := 0) hx hb dL_nest_1 (by decide) ?_
  refine top_eq (y := nI 0) rfl ?_
  refine lv_aload_n hx hb dL_nest_2 rfl (lv_at hl 0 rfl) ?_
  refine lv_iload_n hx hb dL_nest_3 rfl (lv_at hl 1 rfl) ?_
  refine lv_iload_n hx hb dL_nest_4 rfl (lv_at hl 2 rfl) ?_
  have hct := vx_table (x := yL_nest) B (hts _ List.mem_cons_self)
  refine xx_call (vx_runV (As := [.int a1, .int a2]) (rest := [.int (nI 0), .ref ou]) ⟨hx, hb, hml, hown, hts⟩ hM (cwV 2 hts gL_nest_X4_nest rfl rfl rfl (by decide +kernel) ⟨(show f9 + 1 ≤ 9 by omega), (show 8 + (3 + 11) + n9 ≤ 300 by omega)⟩) ⟨CW.blind, va_recv hK hP (ci := 5) (q0 := k5) rfl e5, fun U hU hW => ⟨rfl, CW.move hU hW hC⟩⟩ rfl rfl hl.1 rfl (lv_room (Nat.le_of_ble_eq_true rfl)) dL_nest_5 ⟨Nat.le_of_ble_eq_true rfl, Nat.le_of_ble_eq_true rfl⟩) (fun q9 ce H1 hz1 hk1 hcell hvn hcl => ?_)
  refine vx_catch (own := RL) (name := "java/lang/IllegalStateException") hown [⟨0, 17, 20, 13⟩] ⟨0, 17, 24, 19⟩ [] (hct.trans rfl) (List.forall_mem_cons.mpr ⟨Or.inr ⟨by decide, _, (hts _ (List.mem_of_getElem? (i := 1) rfl)), hNc.1⟩, (fun _ h9 => absurd h9 List.not_mem_nil)⟩) (by decide) (by decide) (hts _ (List.mem_of_getElem? (i := 2) rfl)) (va_Nw.use rfl (hX.2.2.1 "java/lang/IllegalStateException" (by decide))) hcell hvn hcl ?_
  refine lv_astore (lv' := [(4, .ref q9), (0, .ref x0), (1, .int a1), (2, .int a2), (3, .ref ou)]) hx hb dL_nest_24 hl (by decide) rfl (fun ls hl => ?_)
  refine lv_iconst (v := 2) hx hb dL_nest_26 (by decide) ?_
  have hS : va_S (fun q => A q ∨ q = ou) s.heap H1 [] := ⟨hz1, fun q h _ => hk1 q h, fun _ h => nomatch h⟩
  have hPo1 : va_P D vwCl [(ou, lgC cJ w)] H1 := hPo.kept (fun k x hk => hk1 x.1 (va_at.lt (hPo k x hk)))
  have hP1 : va_P D vwCl (va_pl L f) H1 := hP.kept (fun k x hk => hk1 x.1 (va_at.lt (hP k x hk)))
  subst hQ
  refine W.widen (k := 4) (n := 40) (Nat.le_of_ble_eq_true rfl) (Nat.le_of_ble_eq_true rfl) ?_
  exact W.iret hx hb hr (fun t ht hW => ⟨⟨2, w, rfl, ⟨rfl, fun h => absurd h (by decide)⟩, (show CX D cI cO A x0 e0 F ik kp tu n t.heap ∧ va_P D vwCl [(ou, lgC cJ w)] t.heap from by rw [ht]; exact ⟨hC0 _ hP1, hPo1⟩)⟩, hS.F ht⟩) hS.2.2 dL_nest_27
set_option maxHeartbeats 800000 in
set_option maxRecDepth 100000 in
theorem hg_members (l : Launch) (D : va_G) (cI cZ cO cJ : ClassId) {A : Nat → Prop} {L : List Nat} {f : Nat → va_E} {e0 z mi ou x0 : Nat} {w : Nat → Int64} {fs : List Value} (a1 : Int32) {F : Nat → Nat → Int32} {ik kp tu : Nat → Int32} {n : Nat} {rm0 : Room} {mc ms : Nat} {v : Int32} (hM : Met l yX4_members wsX4_members rm0 (va_Pc [.ref x0, .int a1] (CW D cI cZ cO A L f e0 z mi)) (va_Qi (fun (r : Int32) (_ : Unit) => r = v) (fun _ t => CX D cI cO A x0 e0 F ik kp tu n t.heap) A) mc ms A) (hrm : hRM rm0 mc ms) (hrec : Hs L f x0 (.inr (5, fs))) (hou : ¬ A ou) : HC l yL_members wsL_members D cI cZ cO cJ A L f x0 e0 z mi ou w [.ref x0, .int a1, .ref ou] 0 v.toInt64 F ik kp tu n := by
  obtain ⟨hr1, hr2, hr3, hr4, hr5, hr6⟩ := hrm
  unfold HC
  refine hc_ofWH (cc := cL_members) (maxL := 4) (ret := (some .int)) (hh := [(0, 9, 12, 13)]) (by decide) rfl ?_
  intro p e s m args below meth c s₁ B hml hv
  obtain ⟨hargs, hC, hPo, hKJ, hNc⟩ := hv
  obtain ⟨⟨hP, hK, hN⟩, hX, hY⟩ := id hC
  have hx := B.exec
  have hb := B.bytes
  have hr := B.returns
  have hts := atoms_spec (ws := wsL_members) B.pre
  have hown : s.vm.findClass RL = some m.cls := findClass_of_methodNamed B.named
  have hlocks := B.notSynchronized
  have hen : entryFrame m args 4 = entryFrame m ([.ref x0, .int a1, .ref ou] : List Value).toArray 4 := by rw [hargs]
  rw [hen]
  have hl := lv_entry ([.ref x0, .int a1, .ref ou]) (n := 4) (Nat.le_of_ble_eq_true rfl)
  rw [lg_entry_eq]
  generalize (lg_sl ([.ref x0, .int a1, .ref ou]) ++ List.replicate (4 - (lg_sl ([.ref x0, .int a1, .ref ou])).length) Slot.unset).toArray = ls at hl ⊢
  have hl : lv_has ls 4 [(0, .ref x0), (1, .int a1), (2, .ref ou)] := hl
  generalize hQ : MQ below (va_Qi (fun (r : Int32) (w' : Nat → Int64) => r = 0 ∧ ((0 : Int32) = 0 → w' 0 = v.toInt64)) (fun w' t => CX D cI cO A x0 e0 F ik kp tu n t.heap ∧ va_P D vwCl [(ou, lgC cJ w')] t.heap) (fun q => A q ∨ q = ou)) args s 4 40 (fun q => A q ∨ q = ou) = Q
  obtain ⟨k5, e5⟩ := hrec.at
  refine lv_aload_n hx hb dL_members_0 rfl (lv_at hl 2 rfl) ?_
  refine lv_iconst (v := 0) hx hb dL_members_1 (by decide) ?_
  refine top_eq (y := nI 0) rfl ?_
  refine lv_aload_n hx hb dL_members_2 rfl (lv_at hl 0 rfl) ?_
  refine lv_iload_n hx hb dL_members_3 rfl (lv_at hl 1 rfl) ?_
  have hS : va_S (fun q => A q ∨ q = ou) s.heap s.heap [] := va_S.rf
  refine va_calli (va_runV (As := [.int a1]) (rest := [.int (nI 0), .ref ou]) ⟨hx, hb, hml, hown, hts⟩ hM (cwV 1 hts gL_members_X4_members rfl hr1 hr2 (by decide +kernel) ⟨(show rm0.frames + 1 ≤ 9 by omega), (show 8 + (2 + 11) + rm0.locals ≤ 300 by omega)⟩) ⟨CW.blind, va_recv hK hP (ci := 5) (q0 := k5) rfl e5, fun U hU hW => ⟨rfl, CW.move hU hW hC⟩⟩ rfl rfl hl.1 rfl (lv_room (Nat.le_of_ble_eq_true rfl)) dL_members_4 ⟨(show 0 + mc ≤ 4 by omega), (show 0 + ms ≤ 40 by omega)⟩) hS (fun q _ h => Or.inl h) (fun q h => Or.inl h) (fun r u9 t H1 locs1 ht hvm hw hB hz1 hk1 hS => ?_)
  rw [hw]
  rw [ht] at hB
  have hPo1 : va_P D vwCl [(ou, lgC cJ w)] H1 := hPo.kept (fun k x hk => hk1 x.1 (va_at.lt (hPo k x hk)) (by have hm := List.mem_of_getElem? hk; rw [List.mem_singleton] at hm; rw [hm]; exact hou))
  obtain ⟨he9, gv9, gp9, gb9, ob9, nm9, lo9, L9, f9, tg9, AD9, mc9, hL9, hA9, hx9, he90, hP9, hR9⟩ := hB
  have STO : ∀ y9 : Int64, y9 = v.toInt64 → W p l e (headSpec wsL_members rmh).room s m args below meth c H1 locs1 (0 + mc) (0 + ms) Q (F0 m 8 ls [.long y9, .int (nI 0), .ref ou]) := by
    intro y9 ey
    refine st_l (k := 0) hx hb hKJ (ws := (ou, lgC cJ w) :: va_pl L9 f9) (va_P.app (w1 := [(ou, lgC cJ w)]) hPo1 hP9) (od_D hL9 hA9 hou) hS 0 0 rfl rfl (by decide) (by decide) dL_members_8 (fun H2 locs2 hP2 _ hS2 => ?_)
    refine lv_goto (tgt := 15) hx hb dL_members_9 (by decide) ?_
    refine lv_iconst (v := 0) hx hb dL_members_15 (by decide) ?_
    subst hQ
    refine W.widen (k := 4) (n := 40) (by omega) (by omega) ?_
    have hP3 : va_P D vwCl ((ou, lgC cJ (vp_updL w 0 y9)) :: va_pl L9 f9) H2 := hP2
    exact W.iret hx hb hr (fun t ht hW => ⟨⟨0, vp_updL w 0 y9, rfl, ⟨rfl, fun _ => (show vp_updL w 0 y9 0 = y9 from if_pos rfl).trans ey⟩, (show CX D cI cO A x0 e0 F ik kp tu n t.heap ∧ va_P D vwCl [(ou, lgC cJ (vp_updL w 0 y9))] t.heap from by rw [ht]; exact ⟨⟨he9, gv9, gp9, gb9, ob9, nm9, lo9, L9, f9, tg9, AD9, mc9, hL9, hA9, hx9, he90, va_P_in hP3 (fun q hq => List.mem_cons_of_mem _ hq), hR9⟩, va_P_in hP3 (fun q hq => by rw [List.mem_singleton] at hq; rw [hq]; exact List.mem_cons_self)⟩)⟩, hS2.F ht⟩) hS2.2.2 dL_members_16
  refine lv_i2l (v := v.toInt64) hx hb dL_members_7 rfl ?_
  exact STO _ rfl
set_option maxHeartbeats 800000 in
set_option maxRecDepth 100000 in
theorem hb_members_1 (l : Launch) (D : va_G) (cI cZ cO cJ : ClassId) {A : Nat → Prop} {L : List Nat} {f : Nat → va_E} {e0 z mi ou x0 : Nat} {w : Nat → Int64} {fs : List Value} (a1 : Int32) {F : Nat → Nat → Int32} {ik kp tu : Nat → Int32} {n : Nat} {f9 n9 : Nat} {v : Int64} (hM : vx_Met l yX4_members wsX4_members (rmx f9 n9) (va_Pc [.ref x0, .int a1] (CW D cI cZ cO A L f e0 z mi)) xQc (xXC "java/lang/IndexOutOfBoundsException") 1 6 (fun _ => False)) (hf9 : f9 ≤ 8) (hn9 : n9 ≤ 255) (hrec : Hs L f x0 (.inr (5, fs))) (hou : ¬ A ou) (hL : L.Nodup) (hA : ∀ a, a ∈ L → A a) (hC0 : ∀ H : Heap, va_P D vwCl (va_pl L f) H → CX D cI cO A x0 e0 F ik kp tu n H) : HC l yL_members wsL_members D cI cZ cO cJ A L f x0 e0 z mi ou w [.ref x0, .int a1, .ref ou] 1 v F ik kp tu n := by
  unfold HC
  refine hc_ofWH (cc := cL_members) (maxL := 4) (ret := (some .int)) (hh := [(0, 9, 12, 13)]) (by decide) rfl ?_
  intro p e s m args below meth c s₁ B hml hv
  obtain ⟨hargs, hC, hPo, hKJ, hNc⟩ := hv
  obtain ⟨⟨hP, hK, hN⟩, hX, hY⟩ := id hC
  have hx := B.exec
  have hb := B.bytes
  have hr := B.returns
  have hts := atoms_spec (ws := wsL_members) B.pre
  have hown : s.vm.findClass RL = some m.cls := findClass_of_methodNamed B.named
  have hlocks := B.notSynchronized
  have hen : entryFrame m args 4 = entryFrame m ([.ref x0, .int a1, .ref ou] : List Value).toArray 4 := by rw [hargs]
  rw [hen]
  have hl := lv_entry ([.ref x0, .int a1, .ref ou]) (n := 4) (Nat.le_of_ble_eq_true rfl)
  rw [lg_entry_eq]
  generalize (lg_sl ([.ref x0, .int a1, .ref ou]) ++ List.replicate (4 - (lg_sl ([.ref x0, .int a1, .ref ou])).length) Slot.unset).toArray = ls at hl ⊢
  have hl : lv_has ls 4 [(0, .ref x0), (1, .int a1), (2, .ref ou)] := hl
  generalize hQ : MQ below (va_Qi (fun (r : Int32) (w' : Nat → Int64) => r = 1 ∧ ((1 : Int32) = 0 → w' 0 = v)) (fun w' t => CX D cI cO A x0 e0 F ik kp tu n t.heap ∧ va_P D vwCl [(ou, lgC cJ w')] t.heap) (fun q => A q ∨ q = ou)) args s 4 40 (fun q => A q ∨ q = ou) = Q
  obtain ⟨k5, e5⟩ := hrec.at
  refine lv_aload_n hx hb dL_members_0 rfl (lv_at hl 2 rfl) ?_
  refine lv_iconst (v := 0) hx hb dL_members_1 (by decide) ?_
  refine top_eq (y := nI 0) rfl ?_
  refine lv_aload_n hx hb dL_members_2 rfl (lv_at hl 0 rfl) ?_
  refine lv_iload_n hx hb dL_members_3 rfl (lv_at hl 1 rfl) ?_
  have hct := vx_table (x := yL_members) B (hts _ List.mem_cons_self)
  refine xx_call (vx_runV (As := [.int a1]) (rest := [.int (nI 0), .ref ou]) ⟨hx, hb, hml, hown, hts⟩ hM (cwV 1 hts gL_members_X4_members rfl rfl rfl (by decide +kernel) ⟨(show f9 + 1 ≤ 9 by omega), (show 8 + (2 + 11) + n9 ≤ 300 by omega)⟩) ⟨CW.blind, va_recv hK hP (ci := 5) (q0 := k5) rfl e5, fun U hU hW => ⟨rfl, CW.move hU hW hC⟩⟩ rfl rfl hl.1 rfl (lv_room (Nat.le_of_ble_eq_true rfl)) dL_members_4 ⟨Nat.le_of_ble_eq_true rfl, Nat.le_of_ble_eq_true rfl⟩) (fun q9 ce H1 hz1 hk1 hcell hvn hcl => ?_)
  refine vx_catch (own := RL) (name := "java/lang/IndexOutOfBoundsException") hown [] ⟨0, 9, 12, 13⟩ [] (hct.trans rfl) (fun _ h9 => absurd h9 List.not_mem_nil) (by decide) (by decide) (hts _ (List.mem_of_getElem? (i := 1) rfl)) (va_Nw.use rfl (hX.2.2.1 "java/lang/IndexOutOfBoundsException" (by decide))) hcell hvn hcl ?_
  refine lv_astore_n (lv' := [(3, .ref q9), (0, .ref x0), (1, .int a1), (2, .ref ou)]) hx hb dL_members_12 rfl hl (by decide) rfl (fun ls hl => ?_)
  refine lv_iconst (v := 1) hx hb dL_members_13 (by decide) ?_
  have hS : va_S (fun q => A q ∨ q = ou) s.heap H1 [] := ⟨hz1, fun q h _ => hk1 q h, fun _ h => nomatch h⟩
  have hPo1 : va_P D vwCl [(ou, lgC cJ w)] H1 := hPo.kept (fun k x hk => hk1 x.1 (va_at.lt (hPo k x hk)))
  have hP1 : va_P D vwCl (va_pl L f) H1 := hP.kept (fun k x hk => hk1 x.1 (va_at.lt (hP k x hk)))
  subst hQ
  refine W.widen (k := 4) (n := 40) (Nat.le_of_ble_eq_true rfl) (Nat.le_of_ble_eq_true rfl) ?_
  exact W.iret hx hb hr (fun t ht hW => ⟨⟨1, w, rfl, ⟨rfl, fun h => absurd h (by decide)⟩, (show CX D cI cO A x0 e0 F ik kp tu n t.heap ∧ va_P D vwCl [(ou, lgC cJ w)] t.heap from by rw [ht]; exact ⟨hC0 _ hP1, hPo1⟩)⟩, hS.F ht⟩) hS.2.2 dL_members_14
set_option maxHeartbeats 800000 in
set_option maxRecDepth 100000 in
theorem hg_addFolder (l : Launch) (D : va_G) (cI cZ cO cJ : ClassId) {A : Nat → Prop} {L : List Nat} {f : Nat → va_E} {e0 z mi ou x0 : Nat} {w : Nat → Int64} {fs : List Value} (a1 : Int32) (a2 : Int32) {F : Nat → Nat → Int32} {ik kp tu : Nat → Int32} {n : Nat} {rm0 : Room} {mc ms : Nat} {v : Int32} (hM : Met l yX4_addFolder wsX4_addFolder rm0 (va_Pc [.ref x0, .int a1, .int a2] (CW D cI cZ cO A L f e0 z mi)) (va_Qi (fun (r : Int32) (_ : Unit) => r = v) (fun _ t => CX D cI cO A x0 e0 F ik kp tu n t.heap) A) mc ms A) (hrm : hRM rm0 mc ms) (hrec : Hs L f x0 (.inr (5, fs))) (hou : ¬ A ou) : HC l yL_addFolder wsL_addFolder D cI cZ cO cJ A L f x0 e0 z mi ou w [.ref x0, .int a1, .int a2, .ref ou] 0 v.toInt64 F ik kp tu n := by
  obtain ⟨hr1, hr2, hr3, hr4, hr5, hr6⟩ := hrm
  unfold HC
  refine hc_ofWH (cc := cL_addFolder) (maxL := 5) (ret := (some .int)) (hh := [(0, 10, 13, 13), (0, 10, 17, 19)]) (by decide) rfl ?_
  intro p e s m args below meth c s₁ B hml hv
  obtain ⟨hargs, hC, hPo, hKJ, hNc⟩ := hv
  obtain ⟨⟨hP, hK, hN⟩, hX, hY⟩ := id hC
  have hx := B.exec
  have hb := B.bytes
  have hr := B.returns
  have hts := atoms_spec (ws := wsL_addFolder) B.pre
  have hown : s.vm.findClass RL = some m.cls := findClass_of_methodNamed B.named
  have hlocks := B.notSynchronized
  have hen : entryFrame m args 5 = entryFrame m ([.ref x0, .int a1, .int a2, .ref ou] : List Value).toArray 5 := by rw [hargs]
  rw [hen]
  have hl := lv_entry ([.ref x0, .int a1, .int a2, .ref ou]) (n := 5) (Nat.le_of_ble_eq_true rfl)
  rw [lg_entry_eq]
  generalize (lg_sl ([.ref x0, .int a1, .int a2, .ref ou]) ++ List.replicate (5 - (lg_sl ([.ref x0, .int a1, .int a2, .ref ou])).length) Slot.unset).toArray = ls at hl ⊢
  have hl : lv_has ls 5 [(0, .ref x0), (1, .int a1), (2, .int a2), (3, .ref ou)] := hl
  generalize hQ : MQ below (va_Qi (fun (r : Int32) (w' : Nat → Int64) => r = 0 ∧ ((0 : Int32) = 0 → w' 0 = v.toInt64)) (fun w' t => CX D cI cO A x0 e0 F ik kp tu n t.heap ∧ va_P D vwCl [(ou, lgC cJ w')] t.heap) (fun q => A q ∨ q = ou)) args s 4 40 (fun q => A q ∨ q = ou) = Q
  obtain ⟨k5, e5⟩ := hrec.at
  refine lv_aload_n hx hb dL_addFolder_0 rfl (lv_at hl 3 rfl) ?_
  refine lv_iconst (v := 0) hx hb dL_addFolder_1 (by decide) ?_
  refine top_eq (y := nI 0) rfl ?_
  refine lv_aload_n hx hb dL_addFolder_2 rfl (lv_at hl 0 rfl) ?_
  refine lv_iload_n hx hb dL_addFolder_3 rfl (lv_at hl 1 rfl) ?_
  refine lv_iload_n hx hb dL_addFolder_4 rfl (lv_at hl 2 rfl) ?_
  have hS : va_S (fun q => A q ∨ q = ou) s.heap s.heap [] := va_S.rf
  refine va_calli (va_runV (As := [.int a1, .int a2]) (rest := [.int (nI 0), .ref ou]) ⟨hx, hb, hml, hown, hts⟩ hM (cwV 2 hts gL_addFolder_X4_addFolder rfl hr1 hr2 (by decide +kernel) ⟨(show rm0.frames + 1 ≤ 9 by omega), (show 8 + (4 + 11) + rm0.locals ≤ 300 by omega)⟩) ⟨CW.blind, va_recv hK hP (ci := 5) (q0 := k5) rfl e5, fun U hU hW => ⟨rfl, CW.move hU hW hC⟩⟩ rfl rfl hl.1 rfl (lv_room (Nat.le_of_ble_eq_true rfl)) dL_addFolder_5 ⟨(show 0 + mc ≤ 4 by omega), (show 0 + ms ≤ 40 by omega)⟩) hS (fun q _ h => Or.inl h) (fun q h => Or.inl h) (fun r u9 t H1 locs1 ht hvm hw hB hz1 hk1 hS => ?_)
  rw [hw]
  rw [ht] at hB
  have hPo1 : va_P D vwCl [(ou, lgC cJ w)] H1 := hPo.kept (fun k x hk => hk1 x.1 (va_at.lt (hPo k x hk)) (by have hm := List.mem_of_getElem? hk; rw [List.mem_singleton] at hm; rw [hm]; exact hou))
  obtain ⟨he9, gv9, gp9, gb9, ob9, nm9, lo9, L9, f9, tg9, AD9, mc9, hL9, hA9, hx9, he90, hP9, hR9⟩ := hB
  have STO : ∀ y9 : Int64, y9 = v.toInt64 → W p l e (headSpec wsL_addFolder rmh).room s m args below meth c H1 locs1 (0 + mc) (0 + ms) Q (F0 m 9 ls [.long y9, .int (nI 0), .ref ou]) := by
    intro y9 ey
    refine st_l (k := 0) hx hb hKJ (ws := (ou, lgC cJ w) :: va_pl L9 f9) (va_P.app (w1 := [(ou, lgC cJ w)]) hPo1 hP9) (od_D hL9 hA9 hou) hS 0 0 rfl rfl (by decide) (by decide) dL_addFolder_9 (fun H2 locs2 hP2 _ hS2 => ?_)
    refine lv_goto (tgt := 21) hx hb dL_addFolder_10 (by decide) ?_
    refine lv_iconst (v := 0) hx hb dL_addFolder_21 (by decide) ?_
    subst hQ
    refine W.widen (k := 4) (n := 40) (by omega) (by omega) ?_
    have hP3 : va_P D vwCl ((ou, lgC cJ (vp_updL w 0 y9)) :: va_pl L9 f9) H2 := hP2
    exact W.iret hx hb hr (fun t ht hW => ⟨⟨0, vp_updL w 0 y9, rfl, ⟨rfl, fun _ => (show vp_updL w 0 y9 0 = y9 from if_pos rfl).trans ey⟩, (show CX D cI cO A x0 e0 F ik kp tu n t.heap ∧ va_P D vwCl [(ou, lgC cJ (vp_updL w 0 y9))] t.heap from by rw [ht]; exact ⟨⟨he9, gv9, gp9, gb9, ob9, nm9, lo9, L9, f9, tg9, AD9, mc9, hL9, hA9, hx9, he90, va_P_in hP3 (fun q hq => List.mem_cons_of_mem _ hq), hR9⟩, va_P_in hP3 (fun q hq => by rw [List.mem_singleton] at hq; rw [hq]; exact List.mem_cons_self)⟩)⟩, hS2.F ht⟩) hS2.2.2 dL_addFolder_22
  refine lv_i2l (v := v.toInt64) hx hb dL_addFolder_8 rfl ?_
  exact STO _ rfl
set_option maxHeartbeats 800000 in
set_option maxRecDepth 100000 in
theorem hb_addFolder_1 (l : Launch) (D : va_G) (cI cZ cO cJ : ClassId) {A : Nat → Prop} {L : List Nat} {f : Nat → va_E} {e0 z mi ou x0 : Nat} {w : Nat → Int64} {fs : List Value} (a1 : Int32) (a2 : Int32) {F : Nat → Nat → Int32} {ik kp tu : Nat → Int32} {n : Nat} {f9 n9 : Nat} {v : Int64} (hM : vx_Met l yX4_addFolder wsX4_addFolder (rmx f9 n9) (va_Pc [.ref x0, .int a1, .int a2] (CW D cI cZ cO A L f e0 z mi)) xQc (xXC "java/lang/IndexOutOfBoundsException") 1 6 (fun _ => False)) (hf9 : f9 ≤ 8) (hn9 : n9 ≤ 255) (hrec : Hs L f x0 (.inr (5, fs))) (hou : ¬ A ou) (hL : L.Nodup) (hA : ∀ a, a ∈ L → A a) (hC0 : ∀ H : Heap, va_P D vwCl (va_pl L f) H → CX D cI cO A x0 e0 F ik kp tu n H) : HC l yL_addFolder wsL_addFolder D cI cZ cO cJ A L f x0 e0 z mi ou w [.ref x0, .int a1, .int a2, .ref ou] 1 v F ik kp tu n := by
  unfold HC
  refine hc_ofWH (cc := cL_addFolder) (maxL := 5) (ret := (some .int)) (hh := [(0, 10, 13, 13), (0, 10, 17, 19)]) (by decide) rfl ?_
  intro p e s m args below meth c s₁ B hml hv
  obtain ⟨hargs, hC, hPo, hKJ, hNc⟩ := hv
  obtain ⟨⟨hP, hK, hN⟩, hX, hY⟩ := id hC
  have hx := B.exec
  have hb := B.bytes
  have hr := B.returns
  have hts := atoms_spec (ws := wsL_addFolder) B.pre
  have hown : s.vm.findClass RL = some m.cls := findClass_of_methodNamed B.named
  have hlocks := B.notSynchronized
  have hen : entryFrame m args 5 = entryFrame m ([.ref x0, .int a1, .int a2, .ref ou] : List Value).toArray 5 := by rw [hargs]
  rw [hen]
  have hl := lv_entry ([.ref x0, .int a1, .int a2, .ref ou]) (n := 5) (Nat.le_of_ble_eq_true rfl)
  rw [lg_entry_eq]
  generalize (lg_sl ([.ref x0, .int a1, .int a2, .ref ou]) ++ List.replicate (5 - (lg_sl ([.ref x0, .int a1, .int a2, .ref ou])).length) Slot.unset).toArray = ls at hl ⊢
  have hl : lv_has ls 5 [(0, .ref x0), (1, .int a1), (2, .int a2), (3, .ref ou)] := hl
  generalize hQ : MQ below (va_Qi (fun (r : Int32) (w' : Nat → Int64) => r = 1 ∧ ((1 : Int32) = 0 → w' 0 = v)) (fun w' t => CX D cI cO A x0 e0 F ik kp tu n t.heap ∧ va_P D vwCl [(ou, lgC cJ w')] t.heap) (fun q => A q ∨ q = ou)) args s 4 40 (fun q => A q ∨ q = ou) = Q
  obtain ⟨k5, e5⟩ := hrec.at
  refine lv_aload_n hx hb dL_addFolder_0 rfl (lv_at hl 3 rfl) ?_
  refine lv_iconst (v := 0) hx hb dL_addFolder_1 (by decide) ?_
  refine top_eq (y := nI 0) rfl ?_
  refine lv_aload_n hx hb dL_addFolder_2 rfl (lv_at hl 0 rfl) ?_
  refine lv_iload_n hx hb dL_addFolder_3 rfl (lv_at hl 1 rfl) ?_
  refine lv_iload_n hx hb dL_addFolder_4 rfl (lv_at hl 2 rfl) ?_
  have hct := vx_table (x := yL_addFolder) B (hts _ List.mem_cons_self)
  refine xx_call (vx_runV (As := [.int a1, .int a2]) (rest := [.int (nI 0), .ref ou]) ⟨hx, hb, hml, hown, hts⟩ hM (cwV 2 hts gL_addFolder_X4_addFolder rfl rfl rfl (by decide +kernel) ⟨(show f9 + 1 ≤ 9 by omega), (show 8 + (4 + 11) + n9 ≤ 300 by omega)⟩) ⟨CW.blind, va_recv hK hP (ci := 5) (q0 := k5) rfl e5, fun U hU hW => ⟨rfl, CW.move hU hW hC⟩⟩ rfl rfl hl.1 rfl (lv_room (Nat.le_of_ble_eq_true rfl)) dL_addFolder_5 ⟨Nat.le_of_ble_eq_true rfl, Nat.le_of_ble_eq_true rfl⟩) (fun q9 ce H1 hz1 hk1 hcell hvn hcl => ?_)
  refine vx_catch (own := RL) (name := "java/lang/IndexOutOfBoundsException") hown [] ⟨0, 10, 13, 13⟩ [⟨0, 10, 17, 19⟩] (hct.trans rfl) (fun _ h9 => absurd h9 List.not_mem_nil) (by decide) (by decide) (hts _ (List.mem_of_getElem? (i := 1) rfl)) (va_Nw.use rfl (hX.2.2.1 "java/lang/IndexOutOfBoundsException" (by decide))) hcell hvn hcl ?_
  refine lv_astore (lv' := [(4, .ref q9), (0, .ref x0), (1, .int a1), (2, .int a2), (3, .ref ou)]) hx hb dL_addFolder_13 hl (by decide) rfl (fun ls hl => ?_)
  refine lv_iconst (v := 1) hx hb dL_addFolder_15 (by decide) ?_
  have hS : va_S (fun q => A q ∨ q = ou) s.heap H1 [] := ⟨hz1, fun q h _ => hk1 q h, fun _ h => nomatch h⟩
  have hPo1 : va_P D vwCl [(ou, lgC cJ w)] H1 := hPo.kept (fun k x hk => hk1 x.1 (va_at.lt (hPo k x hk)))
  have hP1 : va_P D vwCl (va_pl L f) H1 := hP.kept (fun k x hk => hk1 x.1 (va_at.lt (hP k x hk)))
  subst hQ
  refine W.widen (k := 4) (n := 40) (Nat.le_of_ble_eq_true rfl) (Nat.le_of_ble_eq_true rfl) ?_
  exact W.iret hx hb hr (fun t ht hW => ⟨⟨1, w, rfl, ⟨rfl, fun h => absurd h (by decide)⟩, (show CX D cI cO A x0 e0 F ik kp tu n t.heap ∧ va_P D vwCl [(ou, lgC cJ w)] t.heap from by rw [ht]; exact ⟨hC0 _ hP1, hPo1⟩)⟩, hS.F ht⟩) hS.2.2 dL_addFolder_16
set_option maxHeartbeats 800000 in
set_option maxRecDepth 100000 in
theorem hb_addFolder_2 (l : Launch) (D : va_G) (cI cZ cO cJ : ClassId) {A : Nat → Prop} {L : List Nat} {f : Nat → va_E} {e0 z mi ou x0 : Nat} {w : Nat → Int64} {fs : List Value} (a1 : Int32) (a2 : Int32) {F : Nat → Nat → Int32} {ik kp tu : Nat → Int32} {n : Nat} {f9 n9 : Nat} {v : Int64} (hM : vx_Met l yX4_addFolder wsX4_addFolder (rmx f9 n9) (va_Pc [.ref x0, .int a1, .int a2] (CW D cI cZ cO A L f e0 z mi)) xQc (xXC "java/lang/IllegalStateException") 1 6 (fun _ => False)) (hf9 : f9 ≤ 8) (hn9 : n9 ≤ 255) (hrec : Hs L f x0 (.inr (5, fs))) (hou : ¬ A ou) (hL : L.Nodup) (hA : ∀ a, a ∈ L → A a) (hC0 : ∀ H : Heap, va_P D vwCl (va_pl L f) H → CX D cI cO A x0 e0 F ik kp tu n H) : HC l yL_addFolder wsL_addFolder D cI cZ cO cJ A L f x0 e0 z mi ou w [.ref x0, .int a1, .int a2, .ref ou] 2 v F ik kp tu n := by
  unfold HC
  refine hc_ofWH (cc := cL_addFolder) (maxL := 5) (ret := (some .int)) (hh := [(0, 10, 13, 13), (0, 10, 17, 19)]) (by decide) rfl ?_
  intro p e s m args below meth c s₁ B hml hv
  obtain ⟨hargs, hC, hPo, hKJ, hNc⟩ := hv
  obtain ⟨⟨hP, hK, hN⟩, hX, hY⟩ := id hC
  have hx := B.exec
  have hb := B.bytes
  have hr := B.returns
  have hts := atoms_spec (ws := wsL_addFolder) B.pre
  have hown : s.vm.findClass RL = some m.cls := findClass_of_methodNamed B.named
  have hlocks := B.notSynchronized
  have hen : entryFrame m args 5 = entryFrame m ([.ref x0, .int a1, .int a2, .ref ou] : List Value).toArray 5 := by rw [hargs]
  rw [hen]
  have hl := lv_entry ([.ref x0, .int a1, .int a2, .ref ou]) (n := 5) (Nat.le_of_ble_eq_true rfl)
  rw [lg_entry_eq]
  generalize (lg_sl ([.ref x0, .int a1, .int a2, .ref ou]) ++ List.replicate (5 - (lg_sl ([.ref x0, .int a1, .int a2, .ref ou])).length) Slot.unset).toArray = ls at hl ⊢
  have hl : lv_has ls 5 [(0, .ref x0), (1, .int a1), (2, .int a2), (3, .ref ou)] := hl
  generalize hQ : MQ below (va_Qi (fun (r : Int32) (w' : Nat → Int64) => r = 2 ∧ ((2 : Int32) = 0 → w' 0 = v)) (fun w' t => CX D cI cO A x0 e0 F ik kp tu n t.heap ∧ va_P D vwCl [(ou, lgC cJ w')] t.heap) (fun q => A q ∨ q = ou)) args s 4 40 (fun q => A q ∨ q = ou) = Q
  obtain ⟨k5, e5⟩ := hrec.at
  refine lv_aload_n hx hb dL_addFolder_0 rfl (lv_at hl 3 rfl) ?_
  refine lv_iconst (v := 0) hx hb dL_addFolder_1 (by decide) ?_
  refine top_eq (y := nI 0) rfl ?_
  refine lv_aload_n hx hb dL_addFolder_2 rfl (lv_at hl 0 rfl) ?_
  refine lv_iload_n hx hb dL_addFolder_3 rfl (lv_at hl 1 rfl) ?_
  refine lv_iload_n hx hb dL_addFolder_4 rfl (lv_at hl 2 rfl) ?_
  have hct := vx_table (x := yL_addFolder) B (hts _ List.mem_cons_self)
  refine xx_call (vx_runV (As := [.int a1, .int a2]) (rest := [.int (nI 0), .ref ou]) ⟨hx, hb, hml, hown, hts⟩ hM (cwV 2 hts gL_addFolder_X4_addFolder rfl rfl rfl (by decide +kernel) ⟨(show f9 + 1 ≤ 9 by omega), (show 8 + (4 + 11) + n9 ≤ 300 by omega)⟩) ⟨CW.blind, va_recv hK hP (ci := 5) (q0 := k5) rfl e5, fun U hU hW => ⟨rfl, CW.move hU hW hC⟩⟩ rfl rfl hl.1 rfl (lv_room (Nat.le_of_ble_eq_true rfl)) dL_addFolder_5 ⟨Nat.le_of_ble_eq_true rfl, Nat.le_of_ble_eq_true rfl⟩) (fun q9 ce H1 hz1 hk1 hcell hvn hcl => ?_)
  refine vx_catch (own := RL) (name := "java/lang/IllegalStateException") hown [⟨0, 10, 13, 13⟩] ⟨0, 10, 17, 19⟩ [] (hct.trans rfl) (List.forall_mem_cons.mpr ⟨Or.inr ⟨by decide, _, (hts _ (List.mem_of_getElem? (i := 1) rfl)), hNc.1⟩, (fun _ h9 => absurd h9 List.not_mem_nil)⟩) (by decide) (by decide) (hts _ (List.mem_of_getElem? (i := 2) rfl)) (va_Nw.use rfl (hX.2.2.1 "java/lang/IllegalStateException" (by decide))) hcell hvn hcl ?_
  refine lv_astore (lv' := [(4, .ref q9), (0, .ref x0), (1, .int a1), (2, .int a2), (3, .ref ou)]) hx hb dL_addFolder_17 hl (by decide) rfl (fun ls hl => ?_)
  refine lv_iconst (v := 2) hx hb dL_addFolder_19 (by decide) ?_
  have hS : va_S (fun q => A q ∨ q = ou) s.heap H1 [] := ⟨hz1, fun q h _ => hk1 q h, fun _ h => nomatch h⟩
  have hPo1 : va_P D vwCl [(ou, lgC cJ w)] H1 := hPo.kept (fun k x hk => hk1 x.1 (va_at.lt (hPo k x hk)))
  have hP1 : va_P D vwCl (va_pl L f) H1 := hP.kept (fun k x hk => hk1 x.1 (va_at.lt (hP k x hk)))
  subst hQ
  refine W.widen (k := 4) (n := 40) (Nat.le_of_ble_eq_true rfl) (Nat.le_of_ble_eq_true rfl) ?_
  exact W.iret hx hb hr (fun t ht hW => ⟨⟨2, w, rfl, ⟨rfl, fun h => absurd h (by decide)⟩, (show CX D cI cO A x0 e0 F ik kp tu n t.heap ∧ va_P D vwCl [(ou, lgC cJ w)] t.heap from by rw [ht]; exact ⟨hC0 _ hP1, hPo1⟩)⟩, hS.F ht⟩) hS.2.2 dL_addFolder_20
set_option maxHeartbeats 800000 in
set_option maxRecDepth 100000 in
theorem hg_setOwner (l : Launch) (D : va_G) (cI cZ cO cJ : ClassId) {A : Nat → Prop} {L : List Nat} {f : Nat → va_E} {e0 z mi ou x0 : Nat} {w : Nat → Int64} {fs : List Value} (a1 : Int32) (a2 : Int32) {F : Nat → Nat → Int32} {ik kp tu : Nat → Int32} {n : Nat} {rm0 : Room} {mc ms : Nat} {v : Int32} (hM : Met l yX4_setOwner wsX4_setOwner rm0 (va_Pc [.ref x0, .int a1, .int a2] (CW D cI cZ cO A L f e0 z mi)) (va_Qi (fun (r : Int32) (_ : Unit) => r = v) (fun _ t => CX D cI cO A x0 e0 F ik kp tu n t.heap) A) mc ms A) (hrm : hRM rm0 mc ms) (hrec : Hs L f x0 (.inr (5, fs))) (hou : ¬ A ou) : HC l yL_setOwner wsL_setOwner D cI cZ cO cJ A L f x0 e0 z mi ou w [.ref x0, .int a1, .int a2, .ref ou] 0 v.toInt64 F ik kp tu n := by
  obtain ⟨hr1, hr2, hr3, hr4, hr5, hr6⟩ := hrm
  unfold HC
  refine hc_ofWH (cc := cL_setOwner) (maxL := 5) (ret := (some .int)) (hh := [(0, 10, 13, 13)]) (by decide) rfl ?_
  intro p e s m args below meth c s₁ B hml hv
  obtain ⟨hargs, hC, hPo, hKJ, hNc⟩ := hv
  obtain ⟨⟨hP, hK, hN⟩, hX, hY⟩ := id hC
  have hx := B.exec
  have hb := B.bytes
  have hr := B.returns
  have hts := atoms_spec (ws := wsL_setOwner) B.pre
  have hown : s.vm.findClass RL = some m.cls := findClass_of_methodNamed B.named
  have hlocks := B.notSynchronized
  have hen : entryFrame m args 5 = entryFrame m ([.ref x0, .int a1, .int a2, .ref ou] : List Value).toArray 5 := by rw [hargs]
  rw [hen]
  have hl := lv_entry ([.ref x0, .int a1, .int a2, .ref ou]) (n := 5) (Nat.le_of_ble_eq_true rfl)
  rw [lg_entry_eq]
  generalize (lg_sl ([.ref x0, .int a1, .int a2, .ref ou]) ++ List.replicate (5 - (lg_sl ([.ref x0, .int a1, .int a2, .ref ou])).length) Slot.unset).toArray = ls at hl ⊢
  have hl : lv_has ls 5 [(0, .ref x0), (1, .int a1), (2, .int a2), (3, .ref ou)] := hl
  generalize hQ : MQ below (va_Qi (fun (r : Int32) (w' : Nat → Int64) => r = 0 ∧ ((0 : Int32) = 0 → w' 0 = v.toInt64)) (fun w' t => CX D cI cO A x0 e0 F ik kp tu n t.heap ∧ va_P D vwCl [(ou, lgC cJ w')] t.heap) (fun q => A q ∨ q = ou)) args s 4 40 (fun q => A q ∨ q = ou) = Q
  obtain ⟨k5, e5⟩ := hrec.at
  refine lv_aload_n hx hb dL_setOwner_0 rfl (lv_at hl 3 rfl) ?_
  refine lv_iconst (v := 0) hx hb dL_setOwner_1 (by decide) ?_
  refine top_eq (y := nI 0) rfl ?_
  refine lv_aload_n hx hb dL_setOwner_2 rfl (lv_at hl 0 rfl) ?_
  refine lv_iload_n hx hb dL_setOwner_3 rfl (lv_at hl 1 rfl) ?_
  refine lv_iload_n hx hb dL_setOwner_4 rfl (lv_at hl 2 rfl) ?_
  have hS : va_S (fun q => A q ∨ q = ou) s.heap s.heap [] := va_S.rf
  refine va_calli (va_runV (As := [.int a1, .int a2]) (rest := [.int (nI 0), .ref ou]) ⟨hx, hb, hml, hown, hts⟩ hM (cwV 2 hts gL_setOwner_X4_setOwner rfl hr1 hr2 (by decide +kernel) ⟨(show rm0.frames + 1 ≤ 9 by omega), (show 8 + (5 + 11) + rm0.locals ≤ 300 by omega)⟩) ⟨CW.blind, va_recv hK hP (ci := 5) (q0 := k5) rfl e5, fun U hU hW => ⟨rfl, CW.move hU hW hC⟩⟩ rfl rfl hl.1 rfl (lv_room (Nat.le_of_ble_eq_true rfl)) dL_setOwner_5 ⟨(show 0 + mc ≤ 4 by omega), (show 0 + ms ≤ 40 by omega)⟩) hS (fun q _ h => Or.inl h) (fun q h => Or.inl h) (fun r u9 t H1 locs1 ht hvm hw hB hz1 hk1 hS => ?_)
  rw [hw]
  rw [ht] at hB
  have hPo1 : va_P D vwCl [(ou, lgC cJ w)] H1 := hPo.kept (fun k x hk => hk1 x.1 (va_at.lt (hPo k x hk)) (by have hm := List.mem_of_getElem? hk; rw [List.mem_singleton] at hm; rw [hm]; exact hou))
  obtain ⟨he9, gv9, gp9, gb9, ob9, nm9, lo9, L9, f9, tg9, AD9, mc9, hL9, hA9, hx9, he90, hP9, hR9⟩ := hB
  have STO : ∀ y9 : Int64, y9 = v.toInt64 → W p l e (headSpec wsL_setOwner rmh).room s m args below meth c H1 locs1 (0 + mc) (0 + ms) Q (F0 m 9 ls [.long y9, .int (nI 0), .ref ou]) := by
    intro y9 ey
    refine st_l (k := 0) hx hb hKJ (ws := (ou, lgC cJ w) :: va_pl L9 f9) (va_P.app (w1 := [(ou, lgC cJ w)]) hPo1 hP9) (od_D hL9 hA9 hou) hS 0 0 rfl rfl (by decide) (by decide) dL_setOwner_9 (fun H2 locs2 hP2 _ hS2 => ?_)
    refine lv_goto (tgt := 17) hx hb dL_setOwner_10 (by decide) ?_
    refine lv_iconst (v := 0) hx hb dL_setOwner_17 (by decide) ?_
    subst hQ
    refine W.widen (k := 4) (n := 40) (by omega) (by omega) ?_
    have hP3 : va_P D vwCl ((ou, lgC cJ (vp_updL w 0 y9)) :: va_pl L9 f9) H2 := hP2
    exact W.iret hx hb hr (fun t ht hW => ⟨⟨0, vp_updL w 0 y9, rfl, ⟨rfl, fun _ => (show vp_updL w 0 y9 0 = y9 from if_pos rfl).trans ey⟩, (show CX D cI cO A x0 e0 F ik kp tu n t.heap ∧ va_P D vwCl [(ou, lgC cJ (vp_updL w 0 y9))] t.heap from by rw [ht]; exact ⟨⟨he9, gv9, gp9, gb9, ob9, nm9, lo9, L9, f9, tg9, AD9, mc9, hL9, hA9, hx9, he90, va_P_in hP3 (fun q hq => List.mem_cons_of_mem _ hq), hR9⟩, va_P_in hP3 (fun q hq => by rw [List.mem_singleton] at hq; rw [hq]; exact List.mem_cons_self)⟩)⟩, hS2.F ht⟩) hS2.2.2 dL_setOwner_18
  refine lv_i2l (v := v.toInt64) hx hb dL_setOwner_8 rfl ?_
  exact STO _ rfl
set_option maxHeartbeats 800000 in
set_option maxRecDepth 100000 in
theorem hb_setOwner_1 (l : Launch) (D : va_G) (cI cZ cO cJ : ClassId) {A : Nat → Prop} {L : List Nat} {f : Nat → va_E} {e0 z mi ou x0 : Nat} {w : Nat → Int64} {fs : List Value} (a1 : Int32) (a2 : Int32) {F : Nat → Nat → Int32} {ik kp tu : Nat → Int32} {n : Nat} {f9 n9 : Nat} {v : Int64} (hM : vx_Met l yX4_setOwner wsX4_setOwner (rmx f9 n9) (va_Pc [.ref x0, .int a1, .int a2] (CW D cI cZ cO A L f e0 z mi)) xQc (xXC "java/lang/IndexOutOfBoundsException") 1 6 (fun _ => False)) (hf9 : f9 ≤ 8) (hn9 : n9 ≤ 255) (hrec : Hs L f x0 (.inr (5, fs))) (hou : ¬ A ou) (hL : L.Nodup) (hA : ∀ a, a ∈ L → A a) (hC0 : ∀ H : Heap, va_P D vwCl (va_pl L f) H → CX D cI cO A x0 e0 F ik kp tu n H) : HC l yL_setOwner wsL_setOwner D cI cZ cO cJ A L f x0 e0 z mi ou w [.ref x0, .int a1, .int a2, .ref ou] 1 v F ik kp tu n := by
  unfold HC
  refine hc_ofWH (cc := cL_setOwner) (maxL := 5) (ret := (some .int)) (hh := [(0, 10, 13, 13)]) (by decide) rfl ?_
  intro p e s m args below meth c s₁ B hml hv
  obtain ⟨hargs, hC, hPo, hKJ, hNc⟩ := hv
  obtain ⟨⟨hP, hK, hN⟩, hX, hY⟩ := id hC
  have hx := B.exec
  have hb := B.bytes
  have hr := B.returns
  have hts := atoms_spec (ws := wsL_setOwner) B.pre
  have hown : s.vm.findClass RL = some m.cls := findClass_of_methodNamed B.named
  have hlocks := B.notSynchronized
  have hen : entryFrame m args 5 = entryFrame m ([.ref x0, .int a1, .int a2, .ref ou] : List Value).toArray 5 := by rw [hargs]
  rw [hen]
  have hl := lv_entry ([.ref x0, .int a1, .int a2, .ref ou]) (n := 5) (Nat.le_of_ble_eq_true rfl)
  rw [lg_entry_eq]
  generalize (lg_sl ([.ref x0, .int a1, .int a2, .ref ou]) ++ List.replicate (5 - (lg_sl ([.ref x0, .int a1, .int a2, .ref ou])).length) Slot.unset).toArray = ls at hl ⊢
  have hl : lv_has ls 5 [(0, .ref x0), (1, .int a1), (2, .int a2), (3, .ref ou)] := hl
  generalize hQ : MQ below (va_Qi (fun (r : Int32) (w' : Nat → Int64) => r = 1 ∧ ((1 : Int32) = 0 → w' 0 = v)) (fun w' t => CX D cI cO A x0 e0 F ik kp tu n t.heap ∧ va_P D vwCl [(ou, lgC cJ w')] t.heap) (fun q => A q ∨ q = ou)) args s 4 40 (fun q => A q ∨ q = ou) = Q
  obtain ⟨k5, e5⟩ := hrec.at
  refine lv_aload_n hx hb dL_setOwner_0 rfl (lv_at hl 3 rfl) ?_
  refine lv_iconst (v := 0) hx hb dL_setOwner_1 (by decide) ?_
  refine top_eq (y := nI 0) rfl ?_
  refine lv_aload_n hx hb dL_setOwner_2 rfl (lv_at hl 0 rfl) ?_
  refine lv_iload_n hx hb dL_setOwner_3 rfl (lv_at hl 1 rfl) ?_
  refine lv_iload_n hx hb dL_setOwner_4 rfl (lv_at hl 2 rfl) ?_
  have hct := vx_table (x := yL_setOwner) B (hts _ List.mem_cons_self)
  refine xx_call (vx_runV (As := [.int a1, .int a2]) (rest := [.int (nI 0), .ref ou]) ⟨hx, hb, hml, hown, hts⟩ hM (cwV 2 hts gL_setOwner_X4_setOwner rfl rfl rfl (by decide +kernel) ⟨(show f9 + 1 ≤ 9 by omega), (show 8 + (5 + 11) + n9 ≤ 300 by omega)⟩) ⟨CW.blind, va_recv hK hP (ci := 5) (q0 := k5) rfl e5, fun U hU hW => ⟨rfl, CW.move hU hW hC⟩⟩ rfl rfl hl.1 rfl (lv_room (Nat.le_of_ble_eq_true rfl)) dL_setOwner_5 ⟨Nat.le_of_ble_eq_true rfl, Nat.le_of_ble_eq_true rfl⟩) (fun q9 ce H1 hz1 hk1 hcell hvn hcl => ?_)
  refine vx_catch (own := RL) (name := "java/lang/IndexOutOfBoundsException") hown [] ⟨0, 10, 13, 13⟩ [] (hct.trans rfl) (fun _ h9 => absurd h9 List.not_mem_nil) (by decide) (by decide) (hts _ (List.mem_of_getElem? (i := 1) rfl)) (va_Nw.use rfl (hX.2.2.1 "java/lang/IndexOutOfBoundsException" (by decide))) hcell hvn hcl ?_
  refine lv_astore (lv' := [(4, .ref q9), (0, .ref x0), (1, .int a1), (2, .int a2), (3, .ref ou)]) hx hb dL_setOwner_13 hl (by decide) rfl (fun ls hl => ?_)
  refine lv_iconst (v := 1) hx hb dL_setOwner_15 (by decide) ?_
  have hS : va_S (fun q => A q ∨ q = ou) s.heap H1 [] := ⟨hz1, fun q h _ => hk1 q h, fun _ h => nomatch h⟩
  have hPo1 : va_P D vwCl [(ou, lgC cJ w)] H1 := hPo.kept (fun k x hk => hk1 x.1 (va_at.lt (hPo k x hk)))
  have hP1 : va_P D vwCl (va_pl L f) H1 := hP.kept (fun k x hk => hk1 x.1 (va_at.lt (hP k x hk)))
  subst hQ
  refine W.widen (k := 4) (n := 40) (Nat.le_of_ble_eq_true rfl) (Nat.le_of_ble_eq_true rfl) ?_
  exact W.iret hx hb hr (fun t ht hW => ⟨⟨1, w, rfl, ⟨rfl, fun h => absurd h (by decide)⟩, (show CX D cI cO A x0 e0 F ik kp tu n t.heap ∧ va_P D vwCl [(ou, lgC cJ w)] t.heap from by rw [ht]; exact ⟨hC0 _ hP1, hPo1⟩)⟩, hS.F ht⟩) hS.2.2 dL_setOwner_16
