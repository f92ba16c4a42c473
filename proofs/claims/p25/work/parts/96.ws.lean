/-! the start -/
theorem okL_0 : okL F0i (fun _ => 0) (fun _ => 0) (fun _ => 0) 1 := by
  refine ⟨⟨⟨rfl, ⟨by decide, by decide⟩, fun f hf => ⟨0, by omega, rfl⟩, fun f hf => ⟨0, by omega, rfl⟩, fun f hf => Or.inl ?_, fun f k hf hk => absurd hk (Nat.not_lt_zero _)⟩, fun f k hf hk => absurd hk (Nat.not_lt_zero _), ⟨fun k => upd_bool (f := fun _ => 0) (fun _ => ⟨false, rfl⟩) 0 true k, fun k => ⟨false, rfl⟩, fun k => ⟨false, rfl⟩, fun k => ⟨false, rfl⟩⟩, fun k hk i h1 h2 => b_0 i, fun j hj => ⟨rfl, rfl, rfl, fun p hp => rfl⟩⟩, fun k hk i hi => b_0 i, fun f k hf hk => absurd hk (Nat.not_lt_zero _), fun f hf => Nat.zero_le _⟩
  rw [show f = 0 by omega]; rfl
theorem aY.move {D : va_G} {cO : ClassId} {A : Nat → Prop} {e0 zA : Nat} {s U : State} (hh : U.heap = s.heap) (hW : s.WarmedH U.vm) (h : aY D cO A e0 zA s) : aY D cO A e0 zA U := by
  obtain ⟨h1, h2, h3, h4, h5⟩ := h
  exact ⟨h1.move hW, va_AO.moved hW.alike h2, by rw [hh]; exact va_T.moved hW.alike h3, by rw [hh]; exact va_Z.moved hW.alike h4, by rw [hh]; exact h5⟩
theorem rdA_blind {D : va_G} {tys : List (ClassId × FieldType)} {ws : va_W} {cO : ClassId} {A : Nat → Prop} {e0 zA : Nat} {av : List Value} : FrameBlind (va_Pc av (rdY D tys ws (aY D cO A e0 zA))) := by
  intro a U g mk h
  obtain ⟨e, hP, hX⟩ := h
  exact ⟨e, (rd_blind a U g mk ⟨e, hP⟩).2, aY.move (s := U) (U := U.calling g mk a) rfl (State.WarmedH.refl U) hX⟩
theorem aY.at {D : va_G} {cO : ClassId} {A A1 : Nat → Prop} {e0 z z1 : Nat} {s U : State} {H : Heap} {locs : List Loc} (h : aY D cO A e0 z s) (hS : va_S A s.heap H locs) (hA : ∀ q, A1 q → A q) (hz : z1 ≤ H.size) (hU : U.heap = H) (hW : s.WarmedH U.vm) : aY D cO A1 e0 z1 U := by
  obtain ⟨h1, h2, h3, h4, -⟩ := h
  exact ⟨h1.move hW, va_AO.moved hW.alike h2, by rw [hU]; exact va_T.moved hW.alike (va_T.narrow (va_T.kept h3 hS.2.1) hA), by rw [hU]; exact va_Z.moved hW.alike ((va_Z.kept h4 hS.2.1).narrow hA), by rw [hU]; exact hz⟩
set_option maxHeartbeats 4000000 in
set_option maxRecDepth 100000 in
theorem whole_start {p : Program} {e : Env} {s : State} {m : MethodId} {below : List Frame} {meth : Method} {c : Code} (l : Launch) (hflags : l.flags = flags0) {b L : Nat} {xs : Nat → Int32} (hL : L ≤ 260) (C0 : lw_At p s m meth c b L xs) : W p l e room_1 s m #[Value.ref b] below meth c s.heap [] 0 0 (lw_Z below #[Value.ref b] s) (entryFrame m ([Value.ref b] : List Value).toArray 5) := by
  obtain ⟨hx, hb, hr, hml, hown, hts0, hX, hbl, hlocks, hgv⟩ := C0
  obtain ⟨D, cI, cZ, cO, e0, mi, hE⟩ := le_at hts0 hgv
  have hw : ∀ w ∈ wsL_law, w.before #[Value.ref b] s = true := fun w h => hts0 w (lin_all w h)
  obtain ⟨hK, hN, hY⟩ := id hE
  have hown : s.vm.findClass RL = some m.cls := hown
  have he0s := hY.elt
  have hA0 : ∀ q : Nat, s.heap.size ≤ q → Zs s q := fun _ h => h
  have hS : va_S (Zs s) s.heap s.heap [] := va_S.rf
  have hP0 : va_P D vwCl [] s.heap := fun k q h => by simp at h
  have hD0 : va_D (Zs s) [] := ⟨fun i j p q h => by simp at h, fun k q h => by simp at h⟩
  have hl := lv_entry ([.ref b]) (n := 5) (Nat.le_of_ble_eq_true rfl)
  rw [lg_entry_eq]
  generalize (lg_sl ([.ref b]) ++ List.replicate (5 - (lg_sl ([.ref b])).length) Slot.unset).toArray = ls at hl ⊢
  have hl : lv_has ls 5 [(0, .ref b)] := hl
  refine va_new (ci := 5) (fs := [.null, .null, .null]) (C := RX4) (T := TX4) (N := 3) hx hb hts0 lin_X4 tyX4 tyX4_ok hown (hw _ (List.mem_of_getElem? (i := 0) (by decide +kernel))) (hw _ (List.mem_of_getElem? (i := 1) (by decide +kernel))) (hw _ (List.mem_of_getElem? (i := 2) (by decide +kernel))) hK hP0 hD0 hS hA0 rfl (fun j hj => by rcases (show j = 0 ∨ j = 1 ∨ j = 2 by omega) with rfl | rfl | rfl <;> rfl) (Nat.le_of_ble_eq_true rfl) (Nat.le_of_ble_eq_true rfl) dL_law_0 (fun x0 H hP hD hS => ?_)
  have hP : va_P D vwCl [(x0, .inr (5, [.null, .null, .null]))] H := hP
  have hx0z : Zs s x0 := hD.2 0 _ rfl
  have hx0H : x0 < H.size := va_at.lt (hP 0 _ rfl)
  have hs0 : s.heap.size ≤ H.size := hS.1
  refine lv_dup hx hb dL_law_3 rfl ?_
  have hne : ¬ alZ x0 H.size e0 := fun hh => hh.elim (fun e => by rw [e] at he0s; exact absurd hx0z (Nat.not_le.mpr he0s)) (fun h => by omega)
  have hAs : ∀ q, alZ x0 H.size q → Zs s q := fun q h => h.elim (fun e => by rw [e]; exact hx0z) (fun h => Nat.le_trans hs0 h)
  refine va_callv (va_runI (As := []) (rest := [.ref x0]) ⟨hx, hb, hml, hown, hw⟩ (k_X4i l D cI cZ cO x0 H.size e0 hne) (cwI 0 hw gL_law_X4_init rfl rfl rfl (hw _ (List.mem_of_getElem? (i := 2) (by decide +kernel))) (hw _ (List.mem_of_getElem? (i := 3) (by decide +kernel))) (hw _ (List.mem_of_getElem? (i := 4) (by decide +kernel))) rfl (by decide +kernel) ⟨Nat.le_of_ble_eq_true rfl, Nat.le_of_ble_eq_true rfl⟩) ⟨rdA_blind, fun U hU hW => ⟨rfl, (rd_pre (av := [.ref x0]) hP hK hN U hU hW).2, hY.1.at hS hAs (Nat.le_refl _) hU hW⟩⟩ rfl rfl hl.1 rfl (lv_room (Nat.le_of_ble_eq_true rfl)) dL_law_4 ⟨Nat.le_of_ble_eq_true rfl, Nat.le_of_ble_eq_true rfl⟩) hS (fun q _ h => hAs q h) hAs (fun u0 t H1 locs1 ht hvm hw0 hB hz1 hk1 hS => ?_)
  obtain ⟨Lp, tg, AD, mc, hLn, hLA, hx0, he0, f, hPL, hR⟩ := hB
  rw [ht] at hPL
  have hLz : ∀ a, a ∈ Lp → Zs s a := fun a ha => hAs a (hLA a ha)
  have hC : CX D cI cO (Zs s) x0 e0 F0i (fun _ => 0) (fun _ => 0) (fun _ => 0) 1 H1 := ⟨_, _, _, _, _, _, _, Lp, f, tg, AD, mc, hLn, hLz, hx0, he0, hPL, hR⟩
  have hts := hw
  refine lv_astore_n (lv' := [(1, .ref x0), (0, .ref b)]) hx hb dL_law_7 rfl hl (by decide) rfl (fun ls hl => ?_)
  refine lv_aload_n hx hb dL_law_8 rfl (lv_at hl 0 rfl) ?_
  refine va_calli (va_runV (As := []) (rest := []) ⟨hx, hb, hml, hown, hts⟩ (xc_folders l D cI cZ cO (F := F0i) (ik := (fun _ => 0)) (kp := (fun _ => 0)) (tu := (fun _ => 0)) (n := 1) (A := (Zs s)) (x0 := x0) (e0 := e0) (z := s.heap.size) (mi := mi) okL_0.1  ) (cwV 0 hts gL_law_X4_folders rfl rfl rfl (by decide +kernel) ⟨Nat.le_of_ble_eq_true rfl, Nat.le_of_ble_eq_true rfl⟩) ⟨LW.blind, hC.recv hE.1, fun U hU hW => ⟨rfl, LW.mk2 hE hS hC U hU hW⟩⟩ rfl rfl hl.1 rfl (lv_room (Nat.le_of_ble_eq_true rfl)) dL_law_9 ⟨Nat.le_of_ble_eq_true rfl, Nat.le_of_ble_eq_true rfl⟩) hS (fun q _ h => h) (fun q h => h) (fun r u t H locs ht hvm hw hC hz1 hk1 hS => ?_)
  rw [ht] at hC
  subst hw
  refine lv_iconst (v := 1) hx hb dL_law_12 (by decide) ?_
  refine lv_icmp_ne (tgt := 20) hx hb dL_law_13 (by decide) (fun c_13 => absurd (rfl) c_13) (fun c_13 => ?_)
  refine lv_iconst (v := 1) hx hb dL_law_16 (by decide) ?_
  refine lv_goto (tgt := 21) hx hb dL_law_17 (by decide) ?_
  refine lv_istore_n (lv' := [(2, .int 1), (1, .ref x0), (0, .ref b)]) hx hb dL_law_21 rfl hl (by decide) rfl (fun ls hl => ?_)
  refine lv_iconst (v := 0) hx hb dL_law_22 (by decide) ?_
  refine top_eq (y := nI 0) (rfl) ?_
  refine lv_istore_n (lv' := [(3, .int (nI 0)), (2, .int 1), (1, .ref x0), (0, .ref b)]) hx hb dL_law_23 rfl hl (by decide) rfl (fun ls hl => ?_)
  refine W.widen (k := 20 + 4 * 0) (n := 120 + 40 * 0) (by decide) (by decide) ?_
  exact law_loop hx hb hr hml hown hw hX hbl hL hlocks hE 55 0 rfl _ _ ls ⟨_, _, _, _, _, okL_0, hC⟩ hS (lv_sub hl [3, 2, 1, 0] rfl)
