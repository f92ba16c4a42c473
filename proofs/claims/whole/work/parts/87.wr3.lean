set_option maxHeartbeats 800000 in
set_option maxRecDepth 100000 in
theorem hg_lossWith (l : Launch) (D : va_G) (cI cZ cO cJ : ClassId) {A : Nat → Prop} {L : List Nat} {f : Nat → va_E} {e0 z mi ou x0 : Nat} {w : Nat → Int64} {fs : List Value} (a1 : Int32) (a2 : Int32) {F : Nat → Nat → Int32} {ik kp tu : Nat → Int32} {n : Nat} {rm0 : Room} {mc ms : Nat} {v : Int32} (hM : Met l yX4_lossWith wsX4_lossWith rm0 (va_Pc [.ref x0, .int a1, .int a2] (CW D cI cZ cO A L f e0 z mi)) (va_Qi (fun (r : Int32) (_ : Unit) => r = v) (fun _ t => CX D cI cO A x0 e0 F ik kp tu n t.heap) A) mc ms A) (hrm : hRM rm0 mc ms) (hrec : Hs L f x0 (.inr (5, fs))) (hou : ¬ A ou) : HC l yL_lossWith wsL_lossWith D cI cZ cO cJ A L f x0 e0 z mi ou w [.ref x0, .int a1, .int a2, .ref ou] 0 v.toInt64 F ik kp tu n := by
  obtain ⟨hr1, hr2, hr3, hr4, hr5, hr6⟩ := hrm
  unfold HC
  refine hc_ofWH (cc := cL_lossWith) (maxL := 5) (ret := (some .int)) (hh := [(0, 10, 13, 13)]) (by decide) rfl ?_
  intro p e s m args below meth c s₁ B hml hv
  obtain ⟨hargs, hC, hPo, hKJ, hNc⟩ := hv
  obtain ⟨⟨hP, hK, hN⟩, hX, hY⟩ := id hC
  have hx := B.exec
  have hb := B.bytes
  have hr := B.returns
  have hts := atoms_spec (ws := wsL_lossWith) B.pre
  have hown : s.vm.findClass RL = some m.cls := findClass_of_methodNamed B.named
  have hlocks := B.notSynchronized
  have hen : entryFrame m args 5 = entryFrame m ([.ref x0, .int a1, .int a2, .ref ou] : List Value).toArray 5 := by rw [hargs]
  rw [hen]
  have hl := lv_entry ([.ref x0, .int a1, .int a2, .ref ou]) (n := 5) (Nat.le_of_ble_eq_true rfl)
  rw [lg_entry_eq]
  generalize (lg_sl ([.ref x0, .int a1, .int a2, .ref ou]) ++ List.replicate (5 - (lg_sl ([.ref x0, .int a1, .int a2, .ref ou])).length) Slot.unset).toArray = ls at hl ⊢
  have hl : lv_has ls 5 [(0, .ref x0), (1, .int a1), (2, .int a2), (3, .ref ou)] := hl
  generalize hQ : MQ below (va_Qi (fun (r : Int32) (w' : Nat → Int64) => r = 0 ∧ ((0 : Int32) = 0 → w' 0 = v.toInt64)) (fun w' t => CX D cI cO A x0 e0 F ik kp tu n t.heap ∧ va_P D vwCl [(ou, lgC cJ w')] t.heap) (fun q => A q ∨ q = ou)) args s 4 40 (fun q => A q ∨ q = ou) = Q
  obtain ⟨k5, e5⟩ := hrec.at
  refine lv_aload_n hx hb dL_lossWith_0 rfl (lv_at hl 3 rfl) ?_
  refine lv_iconst (v := 0) hx hb dL_lossWith_1 (by decide) ?_
  refine top_eq (y := nI 0) rfl ?_
  refine lv_aload_n hx hb dL_lossWith_2 rfl (lv_at hl 0 rfl) ?_
  refine lv_iload_n hx hb dL_lossWith_3 rfl (lv_at hl 1 rfl) ?_
  refine lv_iload_n hx hb dL_lossWith_4 rfl (lv_at hl 2 rfl) ?_
  have hS : va_S (fun q => A q ∨ q = ou) s.heap s.heap [] := va_S.rf
  refine va_calli (va_runV (As := [.int a1, .int a2]) (rest := [.int (nI 0), .ref ou]) ⟨hx, hb, hml, hown, hts⟩ hM (cwV 2 hts gL_lossWith_X4_lossWith rfl hr1 hr2 (by decide +kernel) ⟨(show rm0.frames + 1 ≤ 9 by omega), (show 8 + (4 + 11) + rm0.locals ≤ 300 by omega)⟩) ⟨CW.blind, va_recv hK hP (ci := 5) (q0 := k5) rfl e5, fun U hU hW => ⟨rfl, CW.move hU hW hC⟩⟩ rfl rfl hl.1 rfl (lv_room (Nat.le_of_ble_eq_true rfl)) dL_lossWith_5 ⟨(show 0 + mc ≤ 4 by omega), (show 0 + ms ≤ 40 by omega)⟩) hS (fun q _ h => Or.inl h) (fun q h => Or.inl h) (fun r u9 t H1 locs1 ht hvm hw hB hz1 hk1 hS => ?_)
  rw [hw]
  rw [ht] at hB
  have hPo1 : va_P D vwCl [(ou, lgC cJ w)] H1 := hPo.kept (fun k x hk => hk1 x.1 (va_at.lt (hPo k x hk)) (by have hm := List.mem_of_getElem? hk; rw [List.mem_singleton] at hm; rw [hm]; exact hou))
  obtain ⟨he9, gv9, gp9, gb9, ob9, nm9, lo9, L9, f9, tg9, AD9, mc9, hL9, hA9, hx9, he90, hP9, hR9⟩ := hB
  have STO : ∀ y9 : Int64, y9 = v.toInt64 → W p l e (headSpec wsL_lossWith rmh).room s m args below meth c H1 locs1 (0 + mc) (0 + ms) Q (F0 m 9 ls [.long y9, .int (nI 0), .ref ou]) := by
    intro y9 ey
    refine st_l (k := 0) hx hb hKJ (ws := (ou, lgC cJ w) :: va_pl L9 f9) (va_P.app (w1 := [(ou, lgC cJ w)]) hPo1 hP9) (od_D hL9 hA9 hou) hS 0 0 rfl rfl (by decide) (by decide) dL_lossWith_9 (fun H2 locs2 hP2 _ hS2 => ?_)
    refine lv_goto (tgt := 17) hx hb dL_lossWith_10 (by decide) ?_
    refine lv_iconst (v := 0) hx hb dL_lossWith_17 (by decide) ?_
    subst hQ
    refine W.widen (k := 4) (n := 40) (by omega) (by omega) ?_
    have hP3 : va_P D vwCl ((ou, lgC cJ (vp_updL w 0 y9)) :: va_pl L9 f9) H2 := hP2
    exact W.iret hx hb hr (fun t ht hW => ⟨⟨0, vp_updL w 0 y9, rfl, ⟨rfl, fun _ => (show vp_updL w 0 y9 0 = y9 from if_pos rfl).trans ey⟩, (show CX D cI cO A x0 e0 F ik kp tu n t.heap ∧ va_P D vwCl [(ou, lgC cJ (vp_updL w 0 y9))] t.heap from by rw [ht]; exact ⟨⟨he9, gv9, gp9, gb9, ob9, nm9, lo9, L9, f9, tg9, AD9, mc9, hL9, hA9, hx9, he90, va_P_in hP3 (fun q hq => List.mem_cons_of_mem _ hq), hR9⟩, va_P_in hP3 (fun q hq => by rw [List.mem_singleton] at hq; rw [hq]; exact List.mem_cons_self)⟩)⟩, hS2.F ht⟩) hS2.2.2 dL_lossWith_18
  refine lv_i2l (v := v.toInt64) hx hb dL_lossWith_8 rfl ?_
  exact STO _ rfl
set_option maxHeartbeats 800000 in
set_option maxRecDepth 100000 in
theorem hb_lossWith_1 (l : Launch) (D : va_G) (cI cZ cO cJ : ClassId) {A : Nat → Prop} {L : List Nat} {f : Nat → va_E} {e0 z mi ou x0 : Nat} {w : Nat → Int64} {fs : List Value} (a1 : Int32) (a2 : Int32) {F : Nat → Nat → Int32} {ik kp tu : Nat → Int32} {n : Nat} {f9 n9 : Nat} {v : Int64} (hM : vx_Met l yX4_lossWith wsX4_lossWith (rmx f9 n9) (va_Pc [.ref x0, .int a1, .int a2] (CW D cI cZ cO A L f e0 z mi)) xQc (xXC "java/lang/IndexOutOfBoundsException") 1 6 (fun _ => False)) (hf9 : f9 ≤ 8) (hn9 : n9 ≤ 255) (hrec : Hs L f x0 (.inr (5, fs))) (hou : ¬ A ou) (hL : L.Nodup) (hA : ∀ a, a ∈ L → A a) (hC0 : ∀ H : Heap, va_P D vwCl (va_pl L f) H → CX D cI cO A x0 e0 F ik kp tu n H) : HC l yL_lossWith wsL_lossWith D cI cZ cO cJ A L f x0 e0 z mi ou w [.ref x0, .int a1, .int a2, .ref ou] 1 v F ik kp tu n := by
  unfold HC
  refine hc_ofWH (cc := cL_lossWith) (maxL := 5) (ret := (some .int)) (hh := [(0, 10, 13, 13)]) (by decide) rfl ?_
  intro p e s m args below meth c s₁ B hml hv
  obtain ⟨hargs, hC, hPo, hKJ, hNc⟩ := hv
  obtain ⟨⟨hP, hK, hN⟩, hX, hY⟩ := id hC
  have hx := B.exec
  have hb := B.bytes
  have hr := B.returns
  have hts := atoms_spec (ws := wsL_lossWith) B.pre
  have hown : s.vm.findClass RL = some m.cls := findClass_of_methodNamed B.named
  have hlocks := B.notSynchronized
  have hen : entryFrame m args 5 = entryFrame m ([.ref x0, .int a1, .int a2, .ref ou] : List Value).toArray 5 := by rw [hargs]
  rw [hen]
  have hl := lv_entry ([.ref x0, .int a1, .int a2, .ref ou]) (n := 5) (Nat.le_of_ble_eq_true rfl)
  rw [lg_entry_eq]
  generalize (lg_sl ([.ref x0, .int a1, .int a2, .ref ou]) ++ List.replicate (5 - (lg_sl ([.ref x0, .int a1, .int a2, .ref ou])).length) Slot.unset).toArray = ls at hl ⊢
  have hl : lv_has ls 5 [(0, .ref x0), (1, .int a1), (2, .int a2), (3, .ref ou)] := hl
  generalize hQ : MQ below (va_Qi (fun (r : Int32) (w' : Nat → Int64) => r = 1 ∧ ((1 : Int32) = 0 → w' 0 = v)) (fun w' t => CX D cI cO A x0 e0 F ik kp tu n t.heap ∧ va_P D vwCl [(ou, lgC cJ w')] t.heap) (fun q => A q ∨ q = ou)) args s 4 40 (fun q => A q ∨ q = ou) = Q
  obtain ⟨k5, e5⟩ := hrec.at
  refine lv_aload_n hx hb dL_lossWith_0 rfl (lv_at hl 3 rfl) ?_
  refine lv_iconst (v := 0) hx hb dL_lossWith_1 (by decide) ?_
  refine top_eq (y := nI 0) rfl ?_
  refine lv_aload_n hx hb dL_lossWith_2 rfl (lv_at hl 0 rfl) ?_
  refine lv_iload_n hx hb dL_lossWith_3 rfl (lv_at hl 1 rfl) ?_
  refine lv_iload_n hx hb dL_lossWith_4 rfl (lv_at hl 2 rfl) ?_
  have hct := vx_table (x := yL_lossWith) B (hts _ List.mem_cons_self)
  refine xx_call (vx_runV (As := [.int a1, .int a2]) (rest := [.int (nI 0), .ref ou]) ⟨hx, hb, hml, hown, hts⟩ hM (cwV 2 hts gL_lossWith_X4_lossWith rfl rfl rfl (by decide +kernel) ⟨(show f9 + 1 ≤ 9 by omega), (show 8 + (4 + 11) + n9 ≤ 300 by omega)⟩) ⟨CW.blind, va_recv hK hP (ci := 5) (q0 := k5) rfl e5, fun U hU hW => ⟨rfl, CW.move hU hW hC⟩⟩ rfl rfl hl.1 rfl (lv_room (Nat.le_of_ble_eq_true rfl)) dL_lossWith_5 ⟨Nat.le_of_ble_eq_true rfl, Nat.le_of_ble_eq_true rfl⟩) (fun q9 ce H1 hz1 hk1 hcell hvn hcl => ?_)
  refine vx_catch (own := RL) (name := "java/lang/IndexOutOfBoundsException") hown [] ⟨0, 10, 13, 13⟩ [] (hct.trans rfl) (fun _ h9 => absurd h9 List.not_mem_nil) (by decide) (by decide) (hts _ (List.mem_of_getElem? (i := 1) rfl)) (va_Nw.use rfl (hX.2.2.1 "java/lang/IndexOutOfBoundsException" (by decide))) hcell hvn hcl ?_
  refine lv_astore (lv' := [(4, .ref q9), (0, .ref x0), (1, .int a1), (2, .int a2), (3, .ref ou)]) hx hb dL_lossWith_13 hl (by decide) rfl (fun ls hl => ?_)
  refine lv_iconst (v := 1) hx hb dL_lossWith_15 (by decide) ?_
  have hS : va_S (fun q => A q ∨ q = ou) s.heap H1 [] := ⟨hz1, fun q h _ => hk1 q h, fun _ h => nomatch h⟩
  have hPo1 : va_P D vwCl [(ou, lgC cJ w)] H1 := hPo.kept (fun k x hk => hk1 x.1 (va_at.lt (hPo k x hk)))
  have hP1 : va_P D vwCl (va_pl L f) H1 := hP.kept (fun k x hk => hk1 x.1 (va_at.lt (hP k x hk)))
  subst hQ
  refine W.widen (k := 4) (n := 40) (Nat.le_of_ble_eq_true rfl) (Nat.le_of_ble_eq_true rfl) ?_
  exact W.iret hx hb hr (fun t ht hW => ⟨⟨1, w, rfl, ⟨rfl, fun h => absurd h (by decide)⟩, (show CX D cI cO A x0 e0 F ik kp tu n t.heap ∧ va_P D vwCl [(ou, lgC cJ w)] t.heap from by rw [ht]; exact ⟨hC0 _ hP1, hPo1⟩)⟩, hS.F ht⟩) hS.2.2 dL_lossWith_16
set_option maxHeartbeats 800000 in
set_option maxRecDepth 100000 in
theorem hg_isFresh (l : Launch) (D : va_G) (cI cZ cO cJ : ClassId) {A : Nat → Prop} {L : List Nat} {f : Nat → va_E} {e0 z mi ou x0 : Nat} {w : Nat → Int64} {fs : List Value} (a1 : Int32) {F : Nat → Nat → Int32} {ik kp tu : Nat → Int32} {n : Nat} {rm0 : Room} {mc ms : Nat} {v : Int32} (hM : Met l yX4_isFresh wsX4_isFresh rm0 (va_Pc [.ref x0, .int a1] (CW D cI cZ cO A L f e0 z mi)) (va_Qi (fun (r : Int32) (_ : Unit) => r = v) (fun _ t => CX D cI cO A x0 e0 F ik kp tu n t.heap) A) mc ms A) (hrm : hRM rm0 mc ms) (hrec : Hs L f x0 (.inr (5, fs))) (hou : ¬ A ou) : HC l yL_isFresh wsL_isFresh D cI cZ cO cJ A L f x0 e0 z mi ou w [.ref x0, .int a1, .ref ou] 0 (if v = 0 then 0 else 1) F ik kp tu n := by
  obtain ⟨hr1, hr2, hr3, hr4, hr5, hr6⟩ := hrm
  unfold HC
  refine hc_ofWH (cc := cL_isFresh) (maxL := 4) (ret := (some .int)) (hh := [(0, 16, 19, 13)]) (by decide) rfl ?_
  intro p e s m args below meth c s₁ B hml hv
  obtain ⟨hargs, hC, hPo, hKJ, hNc⟩ := hv
  obtain ⟨⟨hP, hK, hN⟩, hX, hY⟩ := id hC
  have hx := B.exec
  have hb := B.bytes
  have hr := B.returns
  have hts := atoms_spec (ws := wsL_isFresh) B.pre
  have hown : s.vm.findClass RL = some m.cls := findClass_of_methodNamed B.named
  have hlocks := B.notSynchronized
  have hen : entryFrame m args 4 = entryFrame m ([.ref x0, .int a1, .ref ou] : List Value).toArray 4 := by rw [hargs]
  rw [hen]
  have hl := lv_entry ([.ref x0, .int a1, .ref ou]) (n := 4) (Nat.le_of_ble_eq_true rfl)
  rw [lg_entry_eq]
  generalize (lg_sl ([.ref x0, .int a1, .ref ou]) ++ List.replicate (4 - (lg_sl ([.ref x0, .int a1, .ref ou])).length) Slot.unset).toArray = ls at hl ⊢
  have hl : lv_has ls 4 [(0, .ref x0), (1, .int a1), (2, .ref ou)] := hl
  generalize hQ : MQ below (va_Qi (fun (r : Int32) (w' : Nat → Int64) => r = 0 ∧ ((0 : Int32) = 0 → w' 0 = (if v = 0 then 0 else 1))) (fun w' t => CX D cI cO A x0 e0 F ik kp tu n t.heap ∧ va_P D vwCl [(ou, lgC cJ w')] t.heap) (fun q => A q ∨ q = ou)) args s 4 40 (fun q => A q ∨ q = ou) = Q
  obtain ⟨k5, e5⟩ := hrec.at
  refine lv_aload_n hx hb dL_isFresh_0 rfl (lv_at hl 2 rfl) ?_
  refine lv_iconst (v := 0) hx hb dL_isFresh_1 (by decide) ?_
  refine top_eq (y := nI 0) rfl ?_
  refine lv_aload_n hx hb dL_isFresh_2 rfl (lv_at hl 0 rfl) ?_
  refine lv_iload_n hx hb dL_isFresh_3 rfl (lv_at hl 1 rfl) ?_
  have hS : va_S (fun q => A q ∨ q = ou) s.heap s.heap [] := va_S.rf
  refine va_calli (va_runV (As := [.int a1]) (rest := [.int (nI 0), .ref ou]) ⟨hx, hb, hml, hown, hts⟩ hM (cwV 1 hts gL_isFresh_X4_isFresh rfl hr1 hr2 (by decide +kernel) ⟨(show rm0.frames + 1 ≤ 9 by omega), (show 8 + (3 + 11) + rm0.locals ≤ 300 by omega)⟩) ⟨CW.blind, va_recv hK hP (ci := 5) (q0 := k5) rfl e5, fun U hU hW => ⟨rfl, CW.move hU hW hC⟩⟩ rfl rfl hl.1 rfl (lv_room (Nat.le_of_ble_eq_true rfl)) dL_isFresh_4 ⟨(show 0 + mc ≤ 4 by omega), (show 0 + ms ≤ 40 by omega)⟩) hS (fun q _ h => Or.inl h) (fun q h => Or.inl h) (fun r u9 t H1 locs1 ht hvm hw hB hz1 hk1 hS => ?_)
  rw [hw]
  rw [ht] at hB
  have hPo1 : va_P D vwCl [(ou, lgC cJ w)] H1 := hPo.kept (fun k x hk => hk1 x.1 (va_at.lt (hPo k x hk)) (by have hm := List.mem_of_getElem? hk; rw [List.mem_singleton] at hm; rw [hm]; exact hou))
  obtain ⟨he9, gv9, gp9, gb9, ob9, nm9, lo9, L9, f9, tg9, AD9, mc9, hL9, hA9, hx9, he90, hP9, hR9⟩ := hB
  have STO : ∀ y9 : Int64, y9 = (if v = 0 then 0 else 1) → W p l e (headSpec wsL_isFresh rmh).room s m args below meth c H1 locs1 (0 + mc) (0 + ms) Q (F0 m 15 ls [.long y9, .int (nI 0), .ref ou]) := by
    intro y9 ey
    refine st_l (k := 0) hx hb hKJ (ws := (ou, lgC cJ w) :: va_pl L9 f9) (va_P.app (w1 := [(ou, lgC cJ w)]) hPo1 hP9) (od_D hL9 hA9 hou) hS 0 0 rfl rfl (by decide) (by decide) dL_isFresh_15 (fun H2 locs2 hP2 _ hS2 => ?_)
    refine lv_goto (tgt := 22) hx hb dL_isFresh_16 (by decide) ?_
    refine lv_iconst (v := 0) hx hb dL_isFresh_22 (by decide) ?_
    subst hQ
    refine W.widen (k := 4) (n := 40) (by omega) (by omega) ?_
    have hP3 : va_P D vwCl ((ou, lgC cJ (vp_updL w 0 y9)) :: va_pl L9 f9) H2 := hP2
    exact W.iret hx hb hr (fun t ht hW => ⟨⟨0, vp_updL w 0 y9, rfl, ⟨rfl, fun _ => (show vp_updL w 0 y9 0 = y9 from if_pos rfl).trans ey⟩, (show CX D cI cO A x0 e0 F ik kp tu n t.heap ∧ va_P D vwCl [(ou, lgC cJ (vp_updL w 0 y9))] t.heap from by rw [ht]; exact ⟨⟨he9, gv9, gp9, gb9, ob9, nm9, lo9, L9, f9, tg9, AD9, mc9, hL9, hA9, hx9, he90, va_P_in hP3 (fun q hq => List.mem_cons_of_mem _ hq), hR9⟩, va_P_in hP3 (fun q hq => by rw [List.mem_singleton] at hq; rw [hq]; exact List.mem_cons_self)⟩)⟩, hS2.F ht⟩) hS2.2.2 dL_isFresh_23
  refine lv_if_eq (tgt := 14) hx hb dL_isFresh_7 (by decide) (fun c0 => ?_) (fun c0 => ?_)
  · refine lv_lconst (v := 0) hx hb dL_isFresh_14 (by decide) ?_
    exact STO _ (if_pos c0).symm
  · refine lv_lconst (v := 1) hx hb dL_isFresh_10 (by decide) ?_
    refine lv_goto (tgt := 15) hx hb dL_isFresh_11 (by decide) ?_
    exact STO _ (if_neg c0).symm
set_option maxHeartbeats 800000 in
set_option maxRecDepth 100000 in
theorem hb_isFresh_1 (l : Launch) (D : va_G) (cI cZ cO cJ : ClassId) {A : Nat → Prop} {L : List Nat} {f : Nat → va_E} {e0 z mi ou x0 : Nat} {w : Nat → Int64} {fs : List Value} (a1 : Int32) {F : Nat → Nat → Int32} {ik kp tu : Nat → Int32} {n : Nat} {f9 n9 : Nat} {v : Int64} (hM : vx_Met l yX4_isFresh wsX4_isFresh (rmx f9 n9) (va_Pc [.ref x0, .int a1] (CW D cI cZ cO A L f e0 z mi)) xQc (xXC "java/lang/IndexOutOfBoundsException") 1 6 (fun _ => False)) (hf9 : f9 ≤ 8) (hn9 : n9 ≤ 255) (hrec : Hs L f x0 (.inr (5, fs))) (hou : ¬ A ou) (hL : L.Nodup) (hA : ∀ a, a ∈ L → A a) (hC0 : ∀ H : Heap, va_P D vwCl (va_pl L f) H → CX D cI cO A x0 e0 F ik kp tu n H) : HC l yL_isFresh wsL_isFresh D cI cZ cO cJ A L f x0 e0 z mi ou w [.ref x0, .int a1, .ref ou] 1 v F ik kp tu n := by
  unfold HC
  refine hc_ofWH (cc := cL_isFresh) (maxL := 4) (ret := (some .int)) (hh := [(0, 16, 19, 13)]) (by decide) rfl ?_
  intro p e s m args below meth c s₁ B hml hv
  obtain ⟨hargs, hC, hPo, hKJ, hNc⟩ := hv
  obtain ⟨⟨hP, hK, hN⟩, hX, hY⟩ := id hC
  have hx := B.exec
  have hb := B.bytes
  have hr := B.returns
  have hts := atoms_spec (ws := wsL_isFresh) B.pre
  have hown : s.vm.findClass RL = some m.cls := findClass_of_methodNamed B.named
  have hlocks := B.notSynchronized
  have hen : entryFrame m args 4 = entryFrame m ([.ref x0, .int a1, .ref ou] : List Value).toArray 4 := by rw [hargs]
  rw [hen]
  have hl := lv_entry ([.ref x0, .int a1, .ref ou]) (n := 4) (Nat.le_of_ble_eq_true rfl)
  rw [lg_entry_eq]
  generalize (lg_sl ([.ref x0, .int a1, .ref ou]) ++ List.replicate (4 - (lg_sl ([.ref x0, .int a1, .ref ou])).length) Slot.unset).toArray = ls at hl ⊢
  have hl : lv_has ls 4 [(0, .ref x0), (1, .int a1), (2, .ref ou)] := hl
  generalize hQ : MQ below (va_Qi (fun (r : Int32) (w' : Nat → Int64) => r = 1 ∧ ((1 : Int32) = 0 → w' 0 = v)) (fun w' t => CX D cI cO A x0 e0 F ik kp tu n t.heap ∧ va_P D vwCl [(ou, lgC cJ w')] t.heap) (fun q => A q ∨ q = ou)) args s 4 40 (fun q => A q ∨ q = ou) = Q
  obtain ⟨k5, e5⟩ := hrec.at
  refine lv_aload_n hx hb dL_isFresh_0 rfl (lv_at hl 2 rfl) ?_
  refine lv_iconst (v := 0) hx hb dL_isFresh_1 (by decide) ?_
  refine top_eq (y := nI 0) rfl ?_
  refine lv_aload_n hx hb dL_isFresh_2 rfl (lv_at hl 0 rfl) ?_
  refine lv_iload_n hx hb dL_isFresh_3 rfl (lv_at hl 1 rfl) ?_
  have hct := vx_table (x := yL_isFresh) B (hts _ List.mem_cons_self)
  refine xx_call (vx_runV (As := [.int a1]) (rest := [.int (nI 0), .ref ou]) ⟨hx, hb, hml, hown, hts⟩ hM (cwV 1 hts gL_isFresh_X4_isFresh rfl rfl rfl (by decide +kernel) ⟨(show f9 + 1 ≤ 9 by omega), (show 8 + (3 + 11) + n9 ≤ 300 by omega)⟩) ⟨CW.blind, va_recv hK hP (ci := 5) (q0 := k5) rfl e5, fun U hU hW => ⟨rfl, CW.move hU hW hC⟩⟩ rfl rfl hl.1 rfl (lv_room (Nat.le_of_ble_eq_true rfl)) dL_isFresh_4 ⟨Nat.le_of_ble_eq_true rfl, Nat.le_of_ble_eq_true rfl⟩) (fun q9 ce H1 hz1 hk1 hcell hvn hcl => ?_)
  refine vx_catch (own := RL) (name := "java/lang/IndexOutOfBoundsException") hown [] ⟨0, 16, 19, 13⟩ [] (hct.trans rfl) (fun _ h9 => absurd h9 List.not_mem_nil) (by decide) (by decide) (hts _ (List.mem_of_getElem? (i := 1) rfl)) (va_Nw.use rfl (hX.2.2.1 "java/lang/IndexOutOfBoundsException" (by decide))) hcell hvn hcl ?_
  refine lv_astore_n (lv' := [(3, .ref q9), (0, .ref x0), (1, .int a1), (2, .ref ou)]) hx hb dL_isFresh_19 rfl hl (by decide) rfl (fun ls hl => ?_)
  refine lv_iconst (v := 1) hx hb dL_isFresh_20 (by decide) ?_
  have hS : va_S (fun q => A q ∨ q = ou) s.heap H1 [] := ⟨hz1, fun q h _ => hk1 q h, fun _ h => nomatch h⟩
  have hPo1 : va_P D vwCl [(ou, lgC cJ w)] H1 := hPo.kept (fun k x hk => hk1 x.1 (va_at.lt (hPo k x hk)))
  have hP1 : va_P D vwCl (va_pl L f) H1 := hP.kept (fun k x hk => hk1 x.1 (va_at.lt (hP k x hk)))
  subst hQ
  refine W.widen (k := 4) (n := 40) (Nat.le_of_ble_eq_true rfl) (Nat.le_of_ble_eq_true rfl) ?_
  exact W.iret hx hb hr (fun t ht hW => ⟨⟨1, w, rfl, ⟨rfl, fun h => absurd h (by decide)⟩, (show CX D cI cO A x0 e0 F ik kp tu n t.heap ∧ va_P D vwCl [(ou, lgC cJ w)] t.heap from by rw [ht]; exact ⟨hC0 _ hP1, hPo1⟩)⟩, hS.F ht⟩) hS.2.2 dL_isFresh_21
set_option maxHeartbeats 800000 in
set_option maxRecDepth 100000 in
theorem hg_turn (l : Launch) (D : va_G) (cI cZ cO cJ : ClassId) {A : Nat → Prop} {L : List Nat} {f : Nat → va_E} {e0 z mi ou x0 : Nat} {w : Nat → Int64} {fs : List Value} (a1 : Int32) {F : Nat → Nat → Int32} {ik kp tu : Nat → Int32} {n : Nat} {rm0 : Room} {mc ms : Nat} {v : Int32} (hM : Met l yX4_turn wsX4_turn rm0 (va_Pc [.ref x0, .int a1] (CW D cI cZ cO A L f e0 z mi)) (va_Qi (fun (r : Int32) (_ : Unit) => r = v) (fun _ t => CX D cI cO A x0 e0 F ik kp tu n t.heap) A) mc ms A) (hrm : hRM rm0 mc ms) (hrec : Hs L f x0 (.inr (5, fs))) (hou : ¬ A ou) : HC l yL_turn wsL_turn D cI cZ cO cJ A L f x0 e0 z mi ou w [.ref x0, .int a1, .ref ou] 0 (if v = 0 then 0 else 1) F ik kp tu n := by
  obtain ⟨hr1, hr2, hr3, hr4, hr5, hr6⟩ := hrm
  unfold HC
  refine hc_ofWH (cc := cL_turn) (maxL := 4) (ret := (some .int)) (hh := [(0, 16, 19, 13), (0, 16, 22, 19)]) (by decide) rfl ?_
  intro p e s m args below meth c s₁ B hml hv
  obtain ⟨hargs, hC, hPo, hKJ, hNc⟩ := hv
  obtain ⟨⟨hP, hK, hN⟩, hX, hY⟩ := id hC
  have hx := B.exec
  have hb := B.bytes
  have hr := B.returns
  have hts := atoms_spec (ws := wsL_turn) B.pre
  have hown : s.vm.findClass RL = some m.cls := findClass_of_methodNamed B.named
  have hlocks := B.notSynchronized
  have hen : entryFrame m args 4 = entryFrame m ([.ref x0, .int a1, .ref ou] : List Value).toArray 4 := by rw [hargs]
  rw [hen]
  have hl := lv_entry ([.ref x0, .int a1, .ref ou]) (n := 4) (Nat.le_of_ble_eq_true rfl)
  rw [lg_entry_eq]
  generalize (lg_sl ([.ref x0, .int a1, .ref ou]) ++ List.replicate (4 - (lg_sl ([.ref x0, .int a1, .ref ou])).length) Slot.unset).toArray = ls at hl ⊢
  have hl : lv_has ls 4 [(0, .ref x0), (1, .int a1), (2, .ref ou)] := hl
  generalize hQ : MQ below (va_Qi (fun (r : Int32) (w' : Nat → Int64) => r = 0 ∧ ((0 : Int32) = 0 → w' 0 = (if v = 0 then 0 else 1))) (fun w' t => CX D cI cO A x0 e0 F ik kp tu n t.heap ∧ va_P D vwCl [(ou, lgC cJ w')] t.heap) (fun q => A q ∨ q = ou)) args s 4 40 (fun q => A q ∨ q = ou) = Q
  obtain ⟨k5, e5⟩ := hrec.at
  refine lv_aload_n hx hb dL_turn_0 rfl (lv_at hl 2 rfl) ?_
  refine lv_iconst (v := 0) hx hb dL_turn_1 (by decide) ?_
  refine top_eq (y := nI 0) rfl ?_
  refine lv_aload_n hx hb dL_turn_2 rfl (lv_at hl 0 rfl) ?_
  refine lv_iload_n hx hb dL_turn_3 rfl (lv_at hl 1 rfl) ?_
  have hS : va_S (fun q => A q ∨ q = ou) s.heap s.heap [] := va_S.rf
  refine va_calli (va_runV (As := [.int a1]) (rest := [.int (nI 0), .ref ou]) ⟨hx, hb, hml, hown, hts⟩ hM (cwV 1 hts gL_turn_X4_turn rfl hr1 hr2 (by decide +kernel) ⟨(show rm0.frames + 1 ≤ 9 by omega), (show 8 + (3 + 11) + rm0.locals ≤ 300 by omega)⟩) ⟨CW.blind, va_recv hK hP (ci := 5) (q0 := k5) rfl e5, fun U hU hW => ⟨rfl, CW.move hU hW hC⟩⟩ rfl rfl hl.1 rfl (lv_room (Nat.le_of_ble_eq_true rfl)) dL_turn_4 ⟨(show 0 + mc ≤ 4 by omega), (show 0 + ms ≤ 40 by omega)⟩) hS (fun q _ h => Or.inl h) (fun q h => Or.inl h) (fun r u9 t H1 locs1 ht hvm hw hB hz1 hk1 hS => ?_)
  rw [hw]
  rw [ht] at hB
  have hPo1 : va_P D vwCl [(ou, lgC cJ w)] H1 := hPo.kept (fun k x hk => hk1 x.1 (va_at.lt (hPo k x hk)) (by have hm := List.mem_of_getElem? hk; rw [List.mem_singleton] at hm; rw [hm]; exact hou))
  obtain ⟨he9, gv9, gp9, gb9, ob9, nm9, lo9, L9, f9, tg9, AD9, mc9, hL9, hA9, hx9, he90, hP9, hR9⟩ := hB
  have STO : ∀ y9 : Int64, y9 = (if v = 0 then 0 else 1) → W p l e (headSpec wsL_turn rmh).room s m args below meth c H1 locs1 (0 + mc) (0 + ms) Q (F0 m 15 ls [.long y9, .int (nI 0), .ref ou]) := by
    intro y9 ey
    refine st_l (k := 0) hx hb hKJ (ws := (ou, lgC cJ w) :: va_pl L9 f9) (va_P.app (w1 := [(ou, lgC cJ w)]) hPo1 hP9) (od_D hL9 hA9 hou) hS 0 0 rfl rfl (by decide) (by decide) dL_turn_15 (fun H2 locs2 hP2 _ hS2 => ?_)
    refine lv_goto (tgt := 25) hx hb dL_turn_16 (by decide) ?_
    refine lv_iconst (v := 0) hx hb dL_turn_25 (by decide) ?_
    subst hQ
    refine W.widen (k := 4) (n := 40) (by omega) (by omega) ?_
    have hP3 : va_P D vwCl ((ou, lgC cJ (vp_updL w 0 y9)) :: va_pl L9 f9) H2 := hP2
    exact W.iret hx hb hr (fun t ht hW => ⟨⟨0, vp_updL w 0 y9, rfl, ⟨rfl, fun _ => (show vp_updL w 0 y9 0 = y9 from if_pos rfl).trans ey⟩, (show CX D cI cO A x0 e0 F ik kp tu n t.heap ∧ va_P D vwCl [(ou, lgC cJ (vp_updL w 0 y9))] t.heap from by rw [ht]; exact ⟨⟨he9, gv9, gp9, gb9, ob9, nm9, lo9, L9, f9, tg9, AD9, mc9, hL9, hA9, hx9, he90, va_P_in hP3 (fun q hq => List.mem_cons_of_mem _ hq), hR9⟩, va_P_in hP3 (fun q hq => by rw [List.mem_singleton] at hq; rw [hq]; exact List.mem_cons_self)⟩)⟩, hS2.F ht⟩) hS2.2.2 dL_turn_26
  refine lv_if_eq (tgt := 14) hx hb dL_turn_7 (by decide) (fun c0 => ?_) (fun c0 => ?_)
  · refine lv_lconst (v := 0) hx hb dL_turn_14 (by decide) ?_
    exact STO _ (if_pos c0).symm
  · refine lv_lconst (v := 1) hx hb dL_turn_10 (by decide) ?_
    refine lv_goto (tgt := 15) hx hb dL_turn_11 (by decide) ?_
    exact STO _ (if_neg c0).symm
set_option maxHeartbeats 800000 in
set_option maxRecDepth 100000 in
theorem hb_turn_1 (l : Launch) (D : va_G) (cI cZ cO cJ : ClassId) {A : Nat → Prop} {L : List Nat} {f : Nat → va_E} {e0 z mi ou x0 : Nat} {w : Nat → Int64} {fs : List Value} (a1 : Int32) {F : Nat → Nat → Int32} {ik kp tu : Nat → Int32} {n : Nat} {f9 n9 : Nat} {v : Int64} (hM : vx_Met l yX4_turn wsX4_turn (rmx f9 n9) (va_Pc [.ref x0, .int a1] (CW D cI cZ cO A L f e0 z mi)) xQc (xXC "java/lang/IndexOutOfBoundsException") 1 6 (fun _ => False)) (hf9 : f9 ≤ 8) (hn9 : n9 ≤ 255) (hrec : Hs L f x0 (.inr (5, fs))) (hou : ¬ A ou) (hL : L.Nodup) (hA : ∀ a, a ∈ L → A a) (hC0 : ∀ H : Heap, va_P D vwCl (va_pl L f) H → CX D cI cO A x0 e0 F ik kp tu n H) : HC l yL_turn wsL_turn D cI cZ cO cJ A L f x0 e0 z mi ou w [.ref x0, .int a1, .ref ou] 1 v F ik kp tu n := by
  unfold HC
  refine hc_ofWH (cc := cL_turn) (maxL := 4) (ret := (some .int)) (hh := [(0, 16, 19, 13), (0, 16, 22, 19)]) (by decide) rfl ?_
  intro p e s m args below meth c s₁ B hml hv
  obtain ⟨hargs, hC, hPo, hKJ, hNc⟩ := hv
  obtain ⟨⟨hP, hK, hN⟩, hX, hY⟩ := id hC
  have hx := B.exec
  have hb := B.bytes
  have hr := B.returns
  have hts := atoms_spec (ws := wsL_turn) B.pre
  have hown : s.vm.findClass RL = some m.cls := findClass_of_methodNamed B.named
  have hlocks := B.notSynchronized
  have hen : entryFrame m args 4 = entryFrame m ([.ref x0, .int a1, .ref ou] : List Value).toArray 4 := by rw [hargs]
  rw [hen]
  have hl := lv_entry ([.ref x0, .int a1, .ref ou]) (n := 4) (Nat.le_of_ble_eq_true rfl)
  rw [lg_entry_eq]
  generalize (lg_sl ([.ref x0, .int a1, .ref ou]) ++ List.replicate (4 - (lg_sl ([.ref x0, .int a1, .ref ou])).length) Slot.unset).toArray = ls at hl ⊢
  have hl : lv_has ls 4 [(0, .ref x0), (1, .int a1), (2, .ref ou)] := hl
  generalize hQ : MQ below (va_Qi (fun (r : Int32) (w' : Nat → Int64) => r = 1 ∧ ((1 : Int32) = 0 → w' 0 = v)) (fun w' t => CX D cI cO A x0 e0 F ik kp tu n t.heap ∧ va_P D vwCl [(ou, lgC cJ w')] t.heap) (fun q => A q ∨ q = ou)) args s 4 40 (fun q => A q ∨ q = ou) = Q
  obtain ⟨k5, e5⟩ := hrec.at
  refine lv_aload_n hx hb dL_turn_0 rfl (lv_at hl 2 rfl) ?_
  refine lv_iconst (v := 0) hx hb dL_turn_1 (by decide) ?_
  refine top_eq (y := nI 0) rfl ?_
  refine lv_aload_n hx hb dL_turn_2 rfl (lv_at hl 0 rfl) ?_
  refine lv_iload_n hx hb dL_turn_3 rfl (lv_at hl 1 rfl) ?_
  have hct := vx_table (x := yL_turn) B (hts _ List.mem_cons_self)
  refine xx_call (vx_runV (As := [.int a1]) (rest := [.int (nI 0), .ref ou]) ⟨hx, hb, hml, hown, hts⟩ hM (cwV 1 hts gL_turn_X4_turn rfl rfl rfl (by decide +kernel) ⟨(show f9 + 1 ≤ 9 by omega), (show 8 + (3 + 11) + n9 ≤ 300 by omega)⟩) ⟨CW.blind, va_recv hK hP (ci := 5) (q0 := k5) rfl e5, fun U hU hW => ⟨rfl, CW.move hU hW hC⟩⟩ rfl rfl hl.1 rfl (lv_room (Nat.le_of_ble_eq_true rfl)) dL_turn_4 ⟨Nat.le_of_ble_eq_true rfl, Nat.le_of_ble_eq_true rfl⟩) (fun q9 ce H1 hz1 hk1 hcell hvn hcl => ?_)
  refine vx_catch (own := RL) (name := "java/lang/IndexOutOfBoundsException") hown [] ⟨0, 16, 19, 13⟩ [⟨0, 16, 22, 19⟩] (hct.trans rfl) (fun _ h9 => absurd h9 List.not_mem_nil) (by decide) (by decide) (hts _ (List.mem_of_getElem? (i := 1) rfl)) (va_Nw.use rfl (hX.2.2.1 "java/lang/IndexOutOfBoundsException" (by decide))) hcell hvn hcl ?_
  refine lv_astore_n (lv' := [(3, .ref q9), (0, .ref x0), (1, .int a1), (2, .ref ou)]) hx hb dL_turn_19 rfl hl (by decide) rfl (fun ls hl => ?_)
  refine lv_iconst (v := 1) hx hb dL_turn_20 (by decide) ?_
  have hS : va_S (fun q => A q ∨ q = ou) s.heap H1 [] := ⟨hz1, fun q h _ => hk1 q h, fun _ h => nomatch h⟩
  have hPo1 : va_P D vwCl [(ou, lgC cJ w)] H1 := hPo.kept (fun k x hk => hk1 x.1 (va_at.lt (hPo k x hk)))
  have hP1 : va_P D vwCl (va_pl L f) H1 := hP.kept (fun k x hk => hk1 x.1 (va_at.lt (hP k x hk)))
  subst hQ
  refine W.widen (k := 4) (n := 40) (Nat.le_of_ble_eq_true rfl) (Nat.le_of_ble_eq_true rfl) ?_
  exact W.iret hx hb hr (fun t ht hW => ⟨⟨1, w, rfl, ⟨rfl, fun h => absurd h (by decide)⟩, (show CX D cI cO A x0 e0 F ik kp tu n t.heap ∧ va_P D vwCl [(ou, lgC cJ w)] t.heap from by rw [ht]; exact ⟨hC0 _ hP1, hPo1⟩)⟩, hS.F ht⟩) hS.2.2 dL_turn_21
set_option maxHeartbeats 800000 in
set_option maxRecDepth 100000 in
theorem hb_turn_2 (l : Launch) (D : va_G) (cI cZ cO cJ : ClassId) {A : Nat → Prop} {L : List Nat} {f : Nat → va_E} {e0 z mi ou x0 : Nat} {w : Nat → Int64} {fs : List Value} (a1 : Int32) {F : Nat → Nat → Int32} {ik kp tu : Nat → Int32} {n : Nat} {f9 n9 : Nat} {v : Int64} (hM : vx_Met l yX4_turn wsX4_turn (rmx f9 n9) (va_Pc [.ref x0, .int a1] (CW D cI cZ cO A L f e0 z mi)) xQc (xXC "java/lang/IllegalStateException") 1 6 (fun _ => False)) (hf9 : f9 ≤ 8) (hn9 : n9 ≤ 255) (hrec : Hs L f x0 (.inr (5, fs))) (hou : ¬ A ou) (hL : L.Nodup) (hA : ∀ a, a ∈ L → A a) (hC0 : ∀ H : Heap, va_P D vwCl (va_pl L f) H → CX D cI cO A x0 e0 F ik kp tu n H) : HC l yL_turn wsL_turn D cI cZ cO cJ A L f x0 e0 z mi ou w [.ref x0, .int a1, .ref ou] 2 v F ik kp tu n := by
  unfold HC
  refine hc_ofWH (cc := cL_turn) (maxL := 4) (ret := (some .int)) (hh := [(0, 16, 19, 13), (0, 16, 22, 19)]) (by decide) rfl ?_
  intro p e s m args below meth c s₁ B hml hv
  obtain ⟨hargs, hC, hPo, hKJ, hNc⟩ := hv
  obtain ⟨⟨hP, hK, hN⟩, hX, hY⟩ := id hC
  have hx := B.exec
  have hb := B.bytes
  have hr := B.returns
  have hts := atoms_spec (ws := wsL_turn) B.pre
  have hown : s.vm.findClass RL = some m.cls := findClass_of_methodNamed B.named
  have hlocks := B.notSynchronized
  have hen : entryFrame m args 4 = entryFrame m ([.ref x0, .int a1, .ref ou] : List Value).toArray 4 := by rw [hargs]
  rw [hen]
  have hl := lv_entry ([.ref x0, .int a1, .ref ou]) (n := 4) (Nat.le_of_ble_eq_true rfl)
  rw [lg_entry_eq]
  generalize (lg_sl ([.ref x0, .int a1, .ref ou]) ++ List.replicate (4 - (lg_sl ([.ref x0, .int a1, .ref ou])).length) Slot.unset).toArray = ls at hl ⊢
  have hl : lv_has ls 4 [(0, .ref x0), (1, .int a1), (2, .ref ou)] := hl
  generalize hQ : MQ below (va_Qi (fun (r : Int32) (w' : Nat → Int64) => r = 2 ∧ ((2 : Int32) = 0 → w' 0 = v)) (fun w' t => CX D cI cO A x0 e0 F ik kp tu n t.heap ∧ va_P D vwCl [(ou, lgC cJ w')] t.heap) (fun q => A q ∨ q = ou)) args s 4 40 (fun q => A q ∨ q = ou) = Q
  obtain ⟨k5, e5⟩ := hrec.at
  refine lv_aload_n hx hb dL_turn_0 rfl (lv_at hl 2 rfl) ?_
  refine lv_iconst (v := 0) hx hb dL_turn_1 (by decide) ?_
  refine top_eq (y := nI 0) rfl ?_
  refine lv_aload_n hx hb dL_turn_2 rfl (lv_at hl 0 rfl) ?_
  refine lv_iload_n hx hb dL_turn_3 rfl (lv_at hl 1 rfl) ?_
  have hct := vx_table (x := yL_turn) B (hts _ List.mem_cons_self)
  refine xx_call (vx_runV (As := [.int a1]) (rest := [.int (nI 0), .ref ou]) ⟨hx, hb, hml, hown, hts⟩ hM (cwV 1 hts gL_turn_X4_turn rfl rfl rfl (by decide +kernel) ⟨(show f9 + 1 ≤ 9 by omega), (show 8 + (3 + 11) + n9 ≤ 300 by omega)⟩) ⟨CW.blind, va_recv hK hP (ci := 5) (q0 := k5) rfl e5, fun U hU hW => ⟨rfl, CW.move hU hW hC⟩⟩ rfl rfl hl.1 rfl (lv_room (Nat.le_of_ble_eq_true rfl)) dL_turn_4 ⟨Nat.le_of_ble_eq_true rfl, Nat.le_of_ble_eq_true rfl⟩) (fun q9 ce H1 hz1 hk1 hcell hvn hcl => ?_)
  refine vx_catch (own := RL) (name := "java/lang/IllegalStateException") hown [⟨0, 16, 19, 13⟩] ⟨0, 16, 22, 19⟩ [] (hct.trans rfl) (List.forall_mem_cons.mpr ⟨Or.inr ⟨by decide, _, (hts _ (List.mem_of_getElem? (i := 1) rfl)), hNc.1⟩, (fun _ h9 => absurd h9 List.not_mem_nil)⟩) (by decide) (by decide) (hts _ (List.mem_of_getElem? (i := 2) rfl)) (va_Nw.use rfl (hX.2.2.1 "java/lang/IllegalStateException" (by decide))) hcell hvn hcl ?_
  refine lv_astore_n (lv' := [(3, .ref q9), (0, .ref x0), (1, .int a1), (2, .ref ou)]) hx hb dL_turn_22 rfl hl (by decide) rfl (fun ls hl => ?_)
  refine lv_iconst (v := 2) hx hb dL_turn_23 (by decide) ?_
  have hS : va_S (fun q => A q ∨ q = ou) s.heap H1 [] := ⟨hz1, fun q h _ => hk1 q h, fun _ h => nomatch h⟩
  have hPo1 : va_P D vwCl [(ou, lgC cJ w)] H1 := hPo.kept (fun k x hk => hk1 x.1 (va_at.lt (hPo k x hk)))
  have hP1 : va_P D vwCl (va_pl L f) H1 := hP.kept (fun k x hk => hk1 x.1 (va_at.lt (hP k x hk)))
  subst hQ
  refine W.widen (k := 4) (n := 40) (Nat.le_of_ble_eq_true rfl) (Nat.le_of_ble_eq_true rfl) ?_
  exact W.iret hx hb hr (fun t ht hW => ⟨⟨2, w, rfl, ⟨rfl, fun h => absurd h (by decide)⟩, (show CX D cI cO A x0 e0 F ik kp tu n t.heap ∧ va_P D vwCl [(ou, lgC cJ w)] t.heap from by rw [ht]; exact ⟨hC0 _ hP1, hPo1⟩)⟩, hS.F ht⟩) hS.2.2 dL_turn_24
set_option maxHeartbeats 800000 in
set_option maxRecDepth 100000 in
theorem hg_rightsNow (l : Launch) (D : va_G) (cI cZ cO cJ : ClassId) {A : Nat → Prop} {L : List Nat} {f : Nat → va_E} {e0 z mi ou x0 : Nat} {w : Nat → Int64} {fs : List Value} (a1 : Int32) (a2 : Int32) {F : Nat → Nat → Int32} {ik kp tu : Nat → Int32} {n : Nat} {rm0 : Room} {mc ms : Nat} {v : Int32} (hM : Met l yX4_rightsNow wsX4_rightsNow rm0 (va_Pc [.ref x0, .int a1, .int a2] (CW D cI cZ cO A L f e0 z mi)) (va_Qi (fun (r : Int32) (_ : Unit) => r = v) (fun _ t => CX D cI cO A x0 e0 F ik kp tu n t.heap) A) mc ms A) (hrm : hRM rm0 mc ms) (hrec : Hs L f x0 (.inr (5, fs))) (hou : ¬ A ou) : HC l yL_rightsNow wsL_rightsNow D cI cZ cO cJ A L f x0 e0 z mi ou w [.ref x0, .int a1, .int a2, .ref ou] 0 v.toInt64 F ik kp tu n := by
  obtain ⟨hr1, hr2, hr3, hr4, hr5, hr6⟩ := hrm
  unfold HC
  refine hc_ofWH (cc := cL_rightsNow) (maxL := 5) (ret := (some .int)) (hh := [(0, 10, 13, 13)]) (by decide) rfl ?_
  intro p e s m args below meth c s₁ B hml hv
  obtain ⟨hargs, hC, hPo, hKJ, hNc⟩ := hv
  obtain ⟨⟨hP, hK, hN⟩, hX, hY⟩ := id hC
  have hx := B.exec
  have hb := B.bytes
  have hr := B.returns
  have hts := atoms_spec (ws := wsL_rightsNow) B.pre
  have hown : s.vm.findClass RL = some m.cls := findClass_of_methodNamed B.named
  have hlocks := B.notSynchronized
  have hen : entryFrame m args 5 = entryFrame m ([.ref x0, .int a1, .int a2, .ref ou] : List Value).toArray 5 := by rw [hargs]
  rw [hen]
  have hl := lv_entry ([.ref x0, .int a1, .int a2, .ref ou]) (n := 5) (Nat.le_of_ble_eq_true rfl)
  rw [lg_entry_eq]
  generalize (lg_sl ([.ref x0, .int a1, .int a2, .ref ou]) ++ List.replicate (5 - (lg_sl ([.ref x0, .int a1, .int a2, .ref ou])).length) Slot.unset).toArray = ls at hl ⊢
  have hl : lv_has ls 5 [(0, .ref x0), (1, .int a1), (2, .int a2), (3, .ref ou)] := hl
  generalize hQ : MQ below (va_Qi (fun (r : Int32) (w' : Nat → Int64) => r = 0 ∧ ((0 : Int32) = 0 → w' 0 = v.toInt64)) (fun w' t => CX D cI cO A x0 e0 F ik kp tu n t.heap ∧ va_P D vwCl [(ou, lgC cJ w')] t.heap) (fun q => A q ∨ q = ou)) args s 4 40 (fun q => A q ∨ q = ou) = Q
  obtain ⟨k5, e5⟩ := hrec.at
  refine lv_aload_n hx hb dL_rightsNow_0 rfl (lv_at hl 3 rfl) ?_
  refine lv_iconst (v := 0) hx hb dL_rightsNow_1 (by decide) ?_
  refine top_eq (y := nI 0) rfl ?_
  refine lv_aload_n hx hb dL_rightsNow_2 rfl (lv_at hl 0 rfl) ?_
  refine lv_iload_n hx hb dL_rightsNow_3 rfl (lv_at hl 1 rfl) ?_
  refine lv_iload_n hx hb dL_rightsNow_4 rfl (lv_at hl 2 rfl) ?_
  have hS : va_S (fun q => A q ∨ q = ou) s.heap s.heap [] := va_S.rf
  refine va_calli (va_runV (As := [.int a1, .int a2]) (rest := [.int (nI 0), .ref ou]) ⟨hx, hb, hml, hown, hts⟩ hM (cwV 2 hts gL_rightsNow_X4_rightsNow rfl hr1 hr2 (by decide +kernel) ⟨(show rm0.frames + 1 ≤ 9 by omega), (show 8 + (3 + 11) + rm0.locals ≤ 300 by omega)⟩) ⟨CW.blind, va_recv hK hP (ci := 5) (q0 := k5) rfl e5, fun U hU hW => ⟨rfl, CW.move hU hW hC⟩⟩ rfl rfl hl.1 rfl (lv_room (Nat.le_of_ble_eq_true rfl)) dL_rightsNow_5 ⟨(show 0 + mc ≤ 4 by omega), (show 0 + ms ≤ 40 by omega)⟩) hS (fun q _ h => Or.inl h) (fun q h => Or.inl h) (fun r u9 t H1 locs1 ht hvm hw hB hz1 hk1 hS => ?_)
  rw [hw]
  rw [ht] at hB
  have hPo1 : va_P D vwCl [(ou, lgC cJ w)] H1 := hPo.kept (fun k x hk => hk1 x.1 (va_at.lt (hPo k x hk)) (by have hm := List.mem_of_getElem? hk; rw [List.mem_singleton] at hm; rw [hm]; exact hou))
  obtain ⟨he9, gv9, gp9, gb9, ob9, nm9, lo9, L9, f9, tg9, AD9, mc9, hL9, hA9, hx9, he90, hP9, hR9⟩ := hB
  have STO : ∀ y9 : Int64, y9 = v.toInt64 → W p l e (headSpec wsL_rightsNow rmh).room s m args below meth c H1 locs1 (0 + mc) (0 + ms) Q (F0 m 9 ls [.long y9, .int (nI 0), .ref ou]) := by
    intro y9 ey
    refine st_l (k := 0) hx hb hKJ (ws := (ou, lgC cJ w) :: va_pl L9 f9) (va_P.app (w1 := [(ou, lgC cJ w)]) hPo1 hP9) (od_D hL9 hA9 hou) hS 0 0 rfl rfl (by decide) (by decide) dL_rightsNow_9 (fun H2 locs2 hP2 _ hS2 => ?_)
    refine lv_goto (tgt := 17) hx hb dL_rightsNow_10 (by decide) ?_
    refine lv_iconst (v := 0) hx hb dL_rightsNow_17 (by decide) ?_
    subst hQ
    refine W.widen (k := 4) (n := 40) (by omega) (by omega) ?_
    have hP3 : va_P D vwCl ((ou, lgC cJ (vp_updL w 0 y9)) :: va_pl L9 f9) H2 := hP2
    exact W.iret hx hb hr (fun t ht hW => ⟨⟨0, vp_updL w 0 y9, rfl, ⟨rfl, fun _ => (show vp_updL w 0 y9 0 = y9 from if_pos rfl).trans ey⟩, (show CX D cI cO A x0 e0 F ik kp tu n t.heap ∧ va_P D vwCl [(ou, lgC cJ (vp_updL w 0 y9))] t.heap from by rw [ht]; exact ⟨⟨he9, gv9, gp9, gb9, ob9, nm9, lo9, L9, f9, tg9, AD9, mc9, hL9, hA9, hx9, he90, va_P_in hP3 (fun q hq => List.mem_cons_of_mem _ hq), hR9⟩, va_P_in hP3 (fun q hq => by rw [List.mem_singleton] at hq; rw [hq]; exact List.mem_cons_self)⟩)⟩, hS2.F ht⟩) hS2.2.2 dL_rightsNow_18
  refine lv_i2l (v := v.toInt64) hx hb dL_rightsNow_8 rfl ?_
  exact STO _ rfl
set_option maxHeartbeats 800000 in
set_option maxRecDepth 100000 in
theorem hb_rightsNow_1 (l : Launch) (D : va_G) (cI cZ cO cJ : ClassId) {A : Nat → Prop} {L : List Nat} {f : Nat → va_E} {e0 z mi ou x0 : Nat} {w : Nat → Int64} {fs : List Value} (a1 : Int32) (a2 : Int32) {F : Nat → Nat → Int32} {ik kp tu : Nat → Int32} {n : Nat} {f9 n9 : Nat} {v : Int64} (hM : vx_Met l yX4_rightsNow wsX4_rightsNow (rmx f9 n9) (va_Pc [.ref x0, .int a1, .int a2] (CW D cI cZ cO A L f e0 z mi)) xQc (xXC "java/lang/IndexOutOfBoundsException") 1 6 (fun _ => False)) (hf9 : f9 ≤ 8) (hn9 : n9 ≤ 255) (hrec : Hs L f x0 (.inr (5, fs))) (hou : ¬ A ou) (hL : L.Nodup) (hA : ∀ a, a ∈ L → A a) (hC0 : ∀ H : Heap, va_P D vwCl (va_pl L f) H → CX D cI cO A x0 e0 F ik kp tu n H) : HC l yL_rightsNow wsL_rightsNow D cI cZ cO cJ A L f x0 e0 z mi ou w [.ref x0, .int a1, .int a2, .ref ou] 1 v F ik kp tu n := by
  unfold HC
  refine hc_ofWH (cc := cL_rightsNow) (maxL := 5) (ret := (some .int)) (hh := [(0, 10, 13, 13)]) (by decide) rfl ?_
  intro p e s m args below meth c s₁ B hml hv
  obtain ⟨hargs, hC, hPo, hKJ, hNc⟩ := hv
  obtain ⟨⟨hP, hK, hN⟩, hX, hY⟩ := id hC
  have hx := B.exec
  have hb := B.bytes
  have hr := B.returns
  have hts := atoms_spec (ws := wsL_rightsNow) B.pre
  have hown : s.vm.findClass RL = some m.cls := findClass_of_methodNamed B.named
  have hlocks := B.notSynchronized
  have hen : entryFrame m args 5 = entryFrame m ([.ref x0, .int a1, .int a2, .ref ou] : List Value).toArray 5 := by rw [hargs]
  rw [hen]
  have hl := lv_entry ([.ref x0, .int a1, .int a2, .ref ou]) (n := 5) (Nat.le_of_ble_eq_true rfl)
  rw [lg_entry_eq]
  generalize (lg_sl ([.ref x0, .int a1, .int a2, .ref ou]) ++ List.replicate (5 - (lg_sl ([.ref x0, .int a1, .int a2, .ref ou])).length) Slot.unset).toArray = ls at hl ⊢
  have hl : lv_has ls 5 [(0, .ref x0), (1, .int a1), (2, .int a2), (3, .ref ou)] := hl
  generalize hQ : MQ below (va_Qi (fun (r : Int32) (w' : Nat → Int64) => r = 1 ∧ ((1 : Int32) = 0 → w' 0 = v)) (fun w' t => CX D cI cO A x0 e0 F ik kp tu n t.heap ∧ va_P D vwCl [(ou, lgC cJ w')] t.heap) (fun q => A q ∨ q = ou)) args s 4 40 (fun q => A q ∨ q = ou) = Q
  obtain ⟨k5, e5⟩ := hrec.at
  refine lv_aload_n hx hb dL_rightsNow_0 rfl (lv_at hl 3 rfl) ?_
  refine lv_iconst (v := 0) hx hb dL_rightsNow_1 (by decide) ?_
  refine top_eq (y := nI 0) rfl ?_
  refine lv_aload_n hx hb dL_rightsNow_2 rfl (lv_at hl 0 rfl) ?_
  refine lv_iload_n hx hb dL_rightsNow_3 rfl (lv_at hl 1 rfl) ?_
  refine lv_iload_n hx hb dL_rightsNow_4 rfl (lv_at hl 2 rfl) ?_
  have hct := vx_table (x := yL_rightsNow) B (hts _ List.mem_cons_self)
  refine xx_call (vx_runV (As := [.int a1, .int a2]) (rest := [.int (nI 0), .ref ou]) ⟨hx, hb, hml, hown, hts⟩ hM (cwV 2 hts gL_rightsNow_X4_rightsNow rfl rfl rfl (by decide +kernel) ⟨(show f9 + 1 ≤ 9 by omega), (show 8 + (3 + 11) + n9 ≤ 300 by omega)⟩) ⟨CW.blind, va_recv hK hP (ci := 5) (q0 := k5) rfl e5, fun U hU hW => ⟨rfl, CW.move hU hW hC⟩⟩ rfl rfl hl.1 rfl (lv_room (Nat.le_of_ble_eq_true rfl)) dL_rightsNow_5 ⟨Nat.le_of_ble_eq_true rfl, Nat.le_of_ble_eq_true rfl⟩) (fun q9 ce H1 hz1 hk1 hcell hvn hcl => ?_)
  refine vx_catch (own := RL) (name := "java/lang/IndexOutOfBoundsException") hown [] ⟨0, 10, 13, 13⟩ [] (hct.trans rfl) (fun _ h9 => absurd h9 List.not_mem_nil) (by decide) (by decide) (hts _ (List.mem_of_getElem? (i := 1) rfl)) (va_Nw.use rfl (hX.2.2.1 "java/lang/IndexOutOfBoundsException" (by decide))) hcell hvn hcl ?_
  refine lv_astore (lv' := [(4, .ref q9), (0, .ref x0), (1, .int a1), (2, .int a2), (3, .ref ou)]) hx hb dL_rightsNow_13 hl (by decide) rfl (fun ls hl => ?_)
  refine lv_iconst (v := 1) hx hb dL_rightsNow_15 (by decide) ?_
  have hS : va_S (fun q => A q ∨ q = ou) s.heap H1 [] := ⟨hz1, fun q h _ => hk1 q h, fun _ h => nomatch h⟩
  have hPo1 : va_P D vwCl [(ou, lgC cJ w)] H1 := hPo.kept (fun k x hk => hk1 x.1 (va_at.lt (hPo k x hk)))
  have hP1 : va_P D vwCl (va_pl L f) H1 := hP.kept (fun k x hk => hk1 x.1 (va_at.lt (hP k x hk)))
  subst hQ
  refine W.widen (k := 4) (n := 40) (Nat.le_of_ble_eq_true rfl) (Nat.le_of_ble_eq_true rfl) ?_
  exact W.iret hx hb hr (fun t ht hW => ⟨⟨1, w, rfl, ⟨rfl, fun h => absurd h (by decide)⟩, (show CX D cI cO A x0 e0 F ik kp tu n t.heap ∧ va_P D vwCl [(ou, lgC cJ w)] t.heap from by rw [ht]; exact ⟨hC0 _ hP1, hPo1⟩)⟩, hS.F ht⟩) hS.2.2 dL_rightsNow_16
set_option maxHeartbeats 800000 in
set_option maxRecDepth 100000 in
theorem hg_gainers (l : Launch) (D : va_G) (cI cZ cO cJ : ClassId) {A : Nat → Prop} {L : List Nat} {f : Nat → va_E} {e0 z mi ou x0 : Nat} {w : Nat → Int64} {fs : List Value} (a1 : Int32) {F : Nat → Nat → Int32} {ik kp tu : Nat → Int32} {n : Nat} {rm0 : Room} {mc ms : Nat} {v : Int32} (hM : Met l yX4_gainers wsX4_gainers rm0 (va_Pc [.ref x0, .int a1] (CW D cI cZ cO A L f e0 z mi)) (va_Qi (fun (r : Int32) (_ : Unit) => r = v) (fun _ t => CX D cI cO A x0 e0 F ik kp tu n t.heap) A) mc ms A) (hrm : hRM rm0 mc ms) (hrec : Hs L f x0 (.inr (5, fs))) (hou : ¬ A ou) : HC l yL_gainers wsL_gainers D cI cZ cO cJ A L f x0 e0 z mi ou w [.ref x0, .int a1, .ref ou] 0 v.toInt64 F ik kp tu n := by
  obtain ⟨hr1, hr2, hr3, hr4, hr5, hr6⟩ := hrm
  unfold HC
  refine hc_ofWH (cc := cL_gainers) (maxL := 4) (ret := (some .int)) (hh := [(0, 9, 12, 13)]) (by decide) rfl ?_
  intro p e s m args below meth c s₁ B hml hv
  obtain ⟨hargs, hC, hPo, hKJ, hNc⟩ := hv
  obtain ⟨⟨hP, hK, hN⟩, hX, hY⟩ := id hC
  have hx := B.exec
  have hb := B.bytes
  have hr := B.returns
  have hts := atoms_spec (ws := wsL_gainers) B.pre
  have hown : s.vm.findClass RL = some m.cls := findClass_of_methodNamed B.named
  have hlocks := B.notSynchronized
  have hen : entryFrame m args 4 = entryFrame m ([.ref x0, .int a1, .ref ou] : List Value).toArray 4 := by rw [hargs]
  rw [hen]
  have hl := lv_entry ([.ref x0, .int a1, .ref ou]) (n := 4) (Nat.le_of_ble_eq_true rfl)
  rw [lg_entry_eq]
  generalize (lg_sl ([.ref x0, .int a1, .ref ou]) ++ List.replicate (4 - (lg_sl ([.ref x0, .int a1, .ref ou])).length) Slot.unset).toArray = ls at hl ⊢
  have hl : lv_has ls 4 [(0, .ref x0), (1, .int a1), (2, .ref ou)] := hl
  generalize hQ : MQ below (va_Qi (fun (r : Int32) (w' : Nat → Int64) => r = 0 ∧ ((0 : Int32) = 0 → w' 0 = v.toInt64)) (fun w' t => CX D cI cO A x0 e0 F ik kp tu n t.heap ∧ va_P D vwCl [(ou, lgC cJ w')] t.heap) (fun q => A q ∨ q = ou)) args s 4 40 (fun q => A q ∨ q = ou) = Q
  obtain ⟨k5, e5⟩ := hrec.at
  refine lv_aload_n hx hb dL_gainers_0 rfl (lv_at hl 2 rfl) ?_
  refine lv_iconst (v := 0) hx hb dL_gainers_1 (by decide) ?_
  refine top_eq (y := nI 0) rfl ?_
  refine lv_aload_n hx hb dL_gainers_2 rfl (lv_at hl 0 rfl) ?_
  refine lv_iload_n hx hb dL_gainers_3 rfl (lv_at hl 1 rfl) ?_
  have hS : va_S (fun q => A q ∨ q = ou) s.heap s.heap [] := va_S.rf
  refine va_calli (va_runV (As := [.int a1]) (rest := [.int (nI 0), .ref ou]) ⟨hx, hb, hml, hown, hts⟩ hM (cwV 1 hts gL_gainers_X4_gainers rfl hr1 hr2 (by decide +kernel) ⟨(show rm0.frames + 1 ≤ 9 by omega), (show 8 + (5 + 11) + rm0.locals ≤ 300 by omega)⟩) ⟨CW.blind, va_recv hK hP (ci := 5) (q0 := k5) rfl e5, fun U hU hW => ⟨rfl, CW.move hU hW hC⟩⟩ rfl rfl hl.1 rfl (lv_room (Nat.le_of_ble_eq_true rfl)) dL_gainers_4 ⟨(show 0 + mc ≤ 4 by omega), (show 0 + ms ≤ 40 by omega)⟩) hS (fun q _ h => Or.inl h) (fun q h => Or.inl h) (fun r u9 t H1 locs1 ht hvm hw hB hz1 hk1 hS => ?_)
  rw [hw]
  rw [ht] at hB
  have hPo1 : va_P D vwCl [(ou, lgC cJ w)] H1 := hPo.kept (fun k x hk => hk1 x.1 (va_at.lt (hPo k x hk)) (by have hm := List.mem_of_getElem? hk; rw [List.mem_singleton] at hm; rw [hm]; exact hou))
  obtain ⟨he9, gv9, gp9, gb9, ob9, nm9, lo9, L9, f9, tg9, AD9, mc9, hL9, hA9, hx9, he90, hP9, hR9⟩ := hB
  have STO : ∀ y9 : Int64, y9 = v.toInt64 → W p l e (headSpec wsL_gainers rmh).room s m args below meth c H1 locs1 (0 + mc) (0 + ms) Q (F0 m 8 ls [.long y9, .int (nI 0), .ref ou]) := by
    intro y9 ey
    refine st_l (k := 0) hx hb hKJ (ws := (ou, lgC cJ w) :: va_pl L9 f9) (va_P.app (w1 := [(ou, lgC cJ w)]) hPo1 hP9) (od_D hL9 hA9 hou) hS 0 0 rfl rfl (by decide) (by decide) dL_gainers_8 (fun H2 locs2 hP2 _ hS2 => ?_)
    refine lv_goto (tgt := 15) hx hb dL_gainers_9 (by decide) ?_
    refine lv_iconst (v := 0) hx hb dL_gainers_15 (by decide) ?_
    subst hQ
    refine W.widen (k := 4) (n := 40) (by omega) (by omega) ?_
    have hP3 : va_P D vwCl ((ou, lgC cJ (vp_updL w 0 y9)) :: va_pl L9 f9) H2 := hP2
    exact W.iret hx hb hr (fun t ht hW => ⟨⟨0, vp_updL w 0 y9, rfl, ⟨rfl, fun _ => (show vp_updL w 0 y9 0 = y9 from if_pos rfl).trans ey⟩, (show CX D cI cO A x0 e0 F ik kp tu n t.heap ∧ va_P D vwCl [(ou, lgC cJ (vp_updL w 0 y9))] t.heap from by rw [ht]; exact ⟨⟨he9, gv9, gp9, gb9, ob9, nm9, lo9, L9, f9, tg9, AD9, mc9, hL9, hA9, hx9, he90, va_P_in hP3 (fun q hq => List.mem_cons_of_mem _ hq), hR9⟩, va_P_in hP3 (fun q hq => by rw [List.mem_singleton] at hq; rw [hq]; exact List.mem_cons_self)⟩)⟩, hS2.F ht⟩) hS2.2.2 dL_gainers_16
  refine lv_i2l (v := v.toInt64) hx hb dL_gainers_7 rfl ?_
  exact STO _ rfl
set_option maxHeartbeats 800000 in
set_option maxRecDepth 100000 in
theorem hb_gainers_1 (l : Launch) (D : va_G) (cI cZ cO cJ : ClassId) {A : Nat → Prop} {L : List Nat} {f : Nat → va_E} {e0 z mi ou x0 : Nat} {w : Nat → Int64} {fs : List Value} (a1 : Int32) {F : Nat → Nat → Int32} {ik kp tu : Nat → Int32} {n : Nat} {f9 n9 : Nat} {v : Int64} (hM : vx_Met l yX4_gainers wsX4_gainers (rmx f9 n9) (va_Pc [.ref x0, .int a1] (CW D cI cZ cO A L f e0 z mi)) xQc (xXC "java/lang/IndexOutOfBoundsException") 1 6 (fun _ => False)) (hf9 : f9 ≤ 8) (hn9 : n9 ≤ 255) (hrec : Hs L f x0 (.inr (5, fs))) (hou : ¬ A ou) (hL : L.Nodup) (hA : ∀ a, a ∈ L → A a) (hC0 : ∀ H : Heap, va_P D vwCl (va_pl L f) H → CX D cI cO A x0 e0 F ik kp tu n H) : HC l yL_gainers wsL_gainers D cI cZ cO cJ A L f x0 e0 z mi ou w [.ref x0, .int a1, .ref ou] 1 v F ik kp tu n := by
  unfold HC
  refine hc_ofWH (cc := cL_gainers) (maxL := 4) (ret := (some .int)) (hh := [(0, 9, 12, 13)]) (by decide) rfl ?_
  intro p e s m args below meth c s₁ B hml hv
  obtain ⟨hargs, hC, hPo, hKJ, hNc⟩ := hv
  obtain ⟨⟨hP, hK, hN⟩, hX, hY⟩ := id hC
  have hx := B.exec
  have hb := B.bytes
  have hr := B.returns
  have hts := atoms_spec (ws := wsL_gainers) B.pre
  have hown : s.vm.findClass RL = some m.cls := findClass_of_methodNamed B.named
  have hlocks := B.notSynchronized
  have hen : entryFrame m args 4 = entryFrame m ([.ref x0, .int a1, .ref ou] : List Value).toArray 4 := by rw [hargs]
  rw [hen]
  have hl := lv_entry ([.ref x0, .int a1, .ref ou]) (n := 4) (Nat.le_of_ble_eq_true rfl)
  rw [lg_entry_eq]
  generalize (lg_sl ([.ref x0, .int a1, .ref ou]) ++ List.replicate (4 - (lg_sl ([.ref x0, .int a1, .ref ou])).length) Slot.unset).toArray = ls at hl ⊢
  have hl : lv_has ls 4 [(0, .ref x0), (1, .int a1), (2, .ref ou)] := hl
  generalize hQ : MQ below (va_Qi (fun (r : Int32) (w' : Nat → Int64) => r = 1 ∧ ((1 : Int32) = 0 → w' 0 = v)) (fun w' t => CX D cI cO A x0 e0 F ik kp tu n t.heap ∧ va_P D vwCl [(ou, lgC cJ w')] t.heap) (fun q => A q ∨ q = ou)) args s 4 40 (fun q => A q ∨ q = ou) = Q
  obtain ⟨k5, e5⟩ := hrec.at
  refine lv_aload_n hx hb dL_gainers_0 rfl (lv_at hl 2 rfl) ?_
  refine lv_iconst (v := 0) hx hb dL_gainers_1 (by decide) ?_
  refine top_eq (y := nI 0) rfl ?_
  refine lv_aload_n hx hb dL_gainers_2 rfl (lv_at hl 0 rfl) ?_
  refine lv_iload_n hx hb dL_gainers_3 rfl (lv_at hl 1 rfl) ?_
  have hct := vx_table (x := yL_gainers) B (hts _ List.mem_cons_self)
  refine xx_call (vx_runV (As := [.int a1]) (rest := [.int (nI 0), .ref ou]) ⟨hx, hb, hml, hown, hts⟩ hM (cwV 1 hts gL_gainers_X4_gainers rfl rfl rfl (by decide +kernel) ⟨(show f9 + 1 ≤ 9 by omega), (show 8 + (5 + 11) + n9 ≤ 300 by omega)⟩) ⟨CW.blind, va_recv hK hP (ci := 5) (q0 := k5) rfl e5, fun U hU hW => ⟨rfl, CW.move hU hW hC⟩⟩ rfl rfl hl.1 rfl (lv_room (Nat.le_of_ble_eq_true rfl)) dL_gainers_4 ⟨Nat.le_of_ble_eq_true rfl, Nat.le_of_ble_eq_true rfl⟩) (fun q9 ce H1 hz1 hk1 hcell hvn hcl => ?_)
  refine vx_catch (own := RL) (name := "java/lang/IndexOutOfBoundsException") hown [] ⟨0, 9, 12, 13⟩ [] (hct.trans rfl) (fun _ h9 => absurd h9 List.not_mem_nil) (by decide) (by decide) (hts _ (List.mem_of_getElem? (i := 1) rfl)) (va_Nw.use rfl (hX.2.2.1 "java/lang/IndexOutOfBoundsException" (by decide))) hcell hvn hcl ?_
  refine lv_astore_n (lv' := [(3, .ref q9), (0, .ref x0), (1, .int a1), (2, .ref ou)]) hx hb dL_gainers_12 rfl hl (by decide) rfl (fun ls hl => ?_)
  refine lv_iconst (v := 1) hx hb dL_gainers_13 (by decide) ?_
  have hS : va_S (fun q => A q ∨ q = ou) s.heap H1 [] := ⟨hz1, fun q h _ => hk1 q h, fun _ h => nomatch h⟩
  have hPo1 : va_P D vwCl [(ou, lgC cJ w)] H1 := hPo.kept (fun k x hk => hk1 x.1 (va_at.lt (hPo k x hk)))
  have hP1 : va_P D vwCl (va_pl L f) H1 := hP.kept (fun k x hk => hk1 x.1 (va_at.lt (hP k x hk)))
  subst hQ
  refine W.widen (k := 4) (n := 40) (Nat.le_of_ble_eq_true rfl) (Nat.le_of_ble_eq_true rfl) ?_
  exact W.iret hx hb hr (fun t ht hW => ⟨⟨1, w, rfl, ⟨rfl, fun h => absurd h (by decide)⟩, (show CX D cI cO A x0 e0 F ik kp tu n t.heap ∧ va_P D vwCl [(ou, lgC cJ w)] t.heap from by rw [ht]; exact ⟨hC0 _ hP1, hPo1⟩)⟩, hS.F ht⟩) hS.2.2 dL_gainers_14
