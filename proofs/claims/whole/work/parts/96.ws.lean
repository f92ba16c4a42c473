/-! the start -/
theorem okS_0 : okS F0i (fun _ => 0) (fun _ => 0) (fun _ => 0) 1 := by
  refine ⟨⟨rfl, ⟨by decide, by decide⟩, fun f hf => ⟨0, by omega, rfl⟩, fun f hf => ⟨0, by omega, rfl⟩, fun f hf => Or.inl ?_, fun f k hf hk => absurd hk (Nat.not_lt_zero _)⟩, fun f k hf hk => absurd hk (Nat.not_lt_zero _), ⟨fun k => upd_bool (f := fun _ => 0) (fun _ => ⟨false, rfl⟩) 0 true k, fun k => ⟨false, rfl⟩, fun k => ⟨false, rfl⟩, fun k => ⟨false, rfl⟩⟩, fun k hk i h1 h2 => b_0 i, fun j hj => ⟨rfl, rfl, rfl, fun p hp => rfl⟩⟩
  rw [show f = 0 by omega]; rfl
theorem wd_to {A : Nat → Prop} {ad : Nat → Nat} {n : Nat} {ws : va_W} (h : ws.map Prod.fst = (List.range n).map ad) (hD : va_D A ws) : apD n A ad := by
  have key : ∀ i, i < n → ∃ q : Nat × va_E, ws[i]? = some q ∧ q.1 = ad i := by
    intro i hi
    have e : (ws.map Prod.fst)[i]? = some (ad i) := by rw [h, List.getElem?_map, List.getElem?_range hi]; rfl
    rw [List.getElem?_map] at e
    cases hq : ws[i]? with
    | none => rw [hq] at e; cases e
    | some q => rw [hq] at e; exact ⟨q, rfl, Option.some.inj e⟩
  refine ⟨fun i j hi hj e => ?_, fun j hj => ?_⟩
  · obtain ⟨q, h1, h2⟩ := key i hi
    obtain ⟨r, h3, h4⟩ := key j hj
    exact hD.1 i j q r h1 h3 (by rw [h2, h4, e])
  · obtain ⟨q, h1, h2⟩ := key j hj
    rw [← h2]; exact hD.2 j q h1
theorem aY.move {D : va_G} {cO : ClassId} {A : Nat → Prop} {e0 zA : Nat} {s U : State} (hh : U.heap = s.heap) (hW : s.WarmedH U.vm) (h : aY D cO A e0 zA s) : aY D cO A e0 zA U := by
  obtain ⟨h1, h2, h3, h4, h5⟩ := h
  exact ⟨h1.move hW, va_AO.moved hW.alike h2, by rw [hh]; exact va_T.moved hW.alike h3, by rw [hh]; exact va_Z.moved hW.alike h4, by rw [hh]; exact h5⟩
theorem rdA_blind {D : va_G} {tys : List (ClassId × FieldType)} {ws : va_W} {cO : ClassId} {A : Nat → Prop} {e0 zA : Nat} {av : List Value} : FrameBlind (va_Pc av (rdY D tys ws (aY D cO A e0 zA))) := by
  intro a U g mk h
  obtain ⟨e, hP, hX⟩ := h
  exact ⟨e, (rd_blind a U g mk ⟨e, hP⟩).2, aY.move (s := U) (U := U.calling g mk a) rfl (State.WarmedH.refl U) hX⟩
theorem idJ {D : va_G} {cl : List vw_C} {t1 t2 : List (ClassId × FieldType)} {s : State} {c1 c2 : ClassId} {u v : Nat} (h1 : va_K D cl t1 s) (h2 : va_K D cl t2 s) (e1 : t1[u]? = some (c1, .long)) (e2 : t2[v]? = some (c2, .long)) : c1 = c2 :=
  Option.some.inj (((h1.2 u _ e1).2 : s.vm.findClass _ = some c1).symm.trans ((h2.2 v _ e2).2 : s.vm.findClass _ = some c2))
set_option maxHeartbeats 4000000 in
set_option maxRecDepth 100000 in
theorem whole_start {p : Program} {e : Env} {s : State} {m : MethodId} {below : List Frame} {meth : Method} {c : Code} (l : Launch) (hflags : l.flags = flags0) {b L : Nat} {xs : Nat → Int32} (hL : L ≤ 3072) (C0 : lw_At p s m meth c b L xs) : W p l e room_1 s m #[Value.ref b] below meth c s.heap [] 0 0 (lw_Z below #[Value.ref b] s) (entryFrame m ([Value.ref b] : List Value).toArray 7) := by
  obtain ⟨hx, hb, hr, hml, hown, hts0, hX, hbl, hlocks, hgv⟩ := C0
  obtain ⟨D, cI, cZ, cO, cJ, e0, mi, hC⟩ := lx_at (meth := meth) hflags hL hx hb hml hown hts0 hX hbl hgv
  obtain ⟨⟨-, -, -, -, hw⟩, -, ⟨hl0, hK, hKJ⟩, hWF⟩ := id hC
  have hown : s.vm.findClass RL = some m.cls := hown
  have hN := hWF.1.1
  have he0s := hWF.elt
  have hA0 : ∀ q : Nat, s.heap.size ≤ q → Zs s q := fun _ h => h
  have hS : va_S (Zs s) s.heap s.heap [] := va_S.rf
  have hP0 : va_P D vwCl [] s.heap := fun k q h => by simp at h
  have hD0 : va_D (Zs s) [] := ⟨fun i j p q h => by simp at h, fun k q h => by simp at h⟩
  have hl := lv_entry ([.ref b]) (n := 7) (Nat.le_of_ble_eq_true rfl)
  rw [lg_entry_eq]
  generalize (lg_sl ([.ref b]) ++ List.replicate (7 - (lg_sl ([.ref b])).length) Slot.unset).toArray = ls at hl ⊢
  have hl : lv_has ls 7 [(0, .ref b)] := hl
  refine va_new (ci := 5) (fs := [.null, .null, .null]) (C := RX4) (T := TX4) (N := 3) hx hb hts0 lin_X4 tyX4 tyX4_ok hown (hw _ (List.mem_of_getElem? (i := 0) (by decide +kernel))) (hw _ (List.mem_of_getElem? (i := 1) (by decide +kernel))) (hw _ (List.mem_of_getElem? (i := 2) (by decide +kernel))) hK hP0 hD0 hS hA0 rfl (fun j hj => by rcases (show j = 0 ∨ j = 1 ∨ j = 2 by omega) with rfl | rfl | rfl <;> rfl) (Nat.le_of_ble_eq_true rfl) (Nat.le_of_ble_eq_true rfl) dL_law_0 (fun x0 H hP hD hS => ?_)
  have hP : va_P D vwCl [(x0, .inr (5, [.null, .null, .null]))] H := hP
  have hx0z : Zs s x0 := hD.2 0 _ rfl
  have hx0H : x0 < H.size := va_at.lt (hP 0 _ rfl)
  have hs0 : s.heap.size ≤ H.size := hS.1
  refine lv_dup hx hb dL_law_3 rfl ?_
  have hne : ¬ alZ x0 H.size e0 := fun hh => hh.elim (fun e => by rw [e] at he0s; exact absurd hx0z (Nat.not_le.mpr he0s)) (fun h => by omega)
  have hAs : ∀ q, alZ x0 H.size q → Zs s q := fun q h => h.elim (fun e => by rw [e]; exact hx0z) (fun h => Nat.le_trans hs0 h)
  refine va_callv (va_runI (As := []) (rest := [.ref x0]) ⟨hx, hb, hml, hown, hw⟩ (k_X4i l D cI cZ cO x0 H.size e0 hne) (cwI 0 hw gL_law_X4_init rfl rfl rfl (hw _ (List.mem_of_getElem? (i := 2) (by decide +kernel))) (hw _ (List.mem_of_getElem? (i := 7) (by decide +kernel))) (hw _ (List.mem_of_getElem? (i := 8) (by decide +kernel))) rfl (by decide +kernel) ⟨Nat.le_of_ble_eq_true rfl, Nat.le_of_ble_eq_true rfl⟩) ⟨rdA_blind, fun U hU hW => ⟨rfl, (rd_pre (av := [.ref x0]) hP hK hN U hU hW).2, hWF.ay hS hAs (Nat.le_refl _) hU hW⟩⟩ rfl rfl hl.1 rfl (lv_room (Nat.le_of_ble_eq_true rfl)) dL_law_4 ⟨Nat.le_of_ble_eq_true rfl, Nat.le_of_ble_eq_true rfl⟩) hS (fun q _ h => hAs q h) hAs (fun u0 t H1 locs1 ht hvm hw0 hB hz1 hk1 hS => ?_)
  obtain ⟨Lp, tg, AD, mc, hLn, hLA, hx0, he0, f, hPL, hR⟩ := hB
  rw [ht] at hPL
  have hLz : ∀ a, a ∈ Lp → Zs s a := fun a ha => hAs a (hLA a ha)
  refine lv_astore_n (lv' := [(1, .ref x0), (0, .ref b)]) hx hb dL_law_7 rfl hl (by decide) rfl (fun ls hl => ?_)
  refine va_new (ci := 6) (fs := [.null, .null, .null, .null, .null, .null, .int 0, .null, .null, .null, .null, .null, .null, .int 0, .int 0, .int 0, .null, .null, .null, .int 0]) (C := RX5) (T := TX5) (N := 20) hx hb hts0 lin_X5 tyX5 tyX5_ok hown (hw _ (List.mem_of_getElem? (i := 3) (by decide +kernel))) (hw _ (List.mem_of_getElem? (i := 4) (by decide +kernel))) (hw _ (List.mem_of_getElem? (i := 5) (by decide +kernel))) hK hPL (pl_D hLn hLz) hS hA0 rfl (fun j hj => by rcases (show j = 0 ∨ j = 1 ∨ j = 2 ∨ j = 3 ∨ j = 4 ∨ j = 5 ∨ j = 6 ∨ j = 7 ∨ j = 8 ∨ j = 9 ∨ j = 10 ∨ j = 11 ∨ j = 12 ∨ j = 13 ∨ j = 14 ∨ j = 15 ∨ j = 16 ∨ j = 17 ∨ j = 18 ∨ j = 19 by omega) with rfl | rfl | rfl | rfl | rfl | rfl | rfl | rfl | rfl | rfl | rfl | rfl | rfl | rfl | rfl | rfl | rfl | rfl | rfl | rfl <;> rfl) (Nat.le_of_ble_eq_true rfl) (Nat.le_of_ble_eq_true rfl) dL_law_8 (fun m0 H2 hP2 hD2 hS => ?_)
  obtain ⟨hm0L, -, -, -, -, -, -⟩ := pl_new (tg := tg) (t := 0) hLn hLz hP2 hD2
  have hPL2 : va_P D vwCl (va_pl Lp f) H2 := va_P_in hP2 (fun q hq => List.mem_append_left _ hq)
  have hPb : va_P D vwCl [(m0, .inr (6, [.null, .null, .null, .null, .null, .null, .int 0, .null, .null, .null, .null, .null, .null, .int 0, .int 0, .int 0, .null, .null, .null, .int 0]))] H2 := va_P_in hP2 (fun q hq => List.mem_append_right _ hq)
  have hm0z : Zs s m0 := hD2.2 Lp.length (m0, .inr (6, [.null, .null, .null, .null, .null, .null, .int 0, .null, .null, .null, .null, .null, .null, .int 0, .int 0, .int 0, .null, .null, .null, .int 0])) (by have hlen : (va_pl Lp f).length = Lp.length := by { unfold va_pl; rw [List.length_map] }; rw [List.getElem?_append_right (by omega), hlen, Nat.sub_self]; rfl)
  have hs2 : s.heap.size ≤ H2.size := hS.1
  refine lv_dup hx hb dL_law_11 rfl ?_
  have hAs2 : ∀ q, alZ m0 H2.size q → Zs s q := fun q h => h.elim (fun e => by rw [e]; exact hm0z) (fun h => Nat.le_trans hs2 h)
  refine va_callv (va_runI (As := []) (rest := [.ref m0]) ⟨hx, hb, hml, hown, hw⟩ (k_X5i l D cI cZ cO m0 H2.size) (cwI 0 hw gL_law_X5_init rfl rfl rfl (hw _ (List.mem_of_getElem? (i := 5) (by decide +kernel))) (hw _ (List.mem_of_getElem? (i := 126) (by decide +kernel))) (hw _ (List.mem_of_getElem? (i := 127) (by decide +kernel))) rfl (by decide +kernel) ⟨Nat.le_of_ble_eq_true rfl, Nat.le_of_ble_eq_true rfl⟩) ⟨rdS_blind, rdS_pre hPb hK hN (Nat.le_refl _)⟩ rfl rfl hl.1 rfl (lv_room (Nat.le_of_ble_eq_true rfl)) dL_law_12 ⟨Nat.le_of_ble_eq_true rfl, Nat.le_of_ble_eq_true rfl⟩) hS (fun q _ h => hAs2 q h) hAs2 (fun u t2 H3 locs3 ht2 hvm2 hw2 hB hz3 hk3 hS => ?_)
  obtain ⟨hPm, hDm⟩ := hB
  rw [ht2] at hPm
  have hLH2 : ∀ a, a ∈ Lp → a < H2.size := fun a ha => va_pl_lt (X := []) hPL2 ha
  have hLm : ∀ a, a ∈ Lp → ¬ alZ m0 H2.size a := fun a ha hh => hh.elim (fun e => hm0L (by rw [← e]; exact ha)) (fun h => by have := hLH2 a ha; omega)
  have hPL3 : va_P D vwCl (va_pl Lp f) H3 := hPL2.kept (fun k q hq => hk3 q.1 (va_at.lt (hPL2 k q hq)) (hLm _ (pl_mem hq)))
  refine lv_astore_n (lv' := [(2, .ref m0), (1, .ref x0), (0, .ref b)]) hx hb dL_law_15 rfl hl (by decide) rfl (fun ls hl => ?_)
  refine lv_iconst (v := 1) hx hb dL_law_16 (by decide) ?_
  have hPA : va_P D vwCl (va_pl Lp f ++ [(m0, .inr (6, [.ref (u 1), .ref (u 2), .ref (u 3), .ref (u 4), .ref (u 5), .ref (u 6), .int 1, .ref (u 7), .ref (u 8), .ref (u 9), .ref (u 10), .ref (u 11), .ref (u 12), .int 0, .int 0, .int 0, .ref (u 13), .ref (u 14), .ref (u 15), .int 0])), ((u 1), i0 cI 6), ((u 2), i0 cI 6), ((u 3), .inl (cI, 20, .inl (upd (fun _ => 0) 0 (-1)))), ((u 4), i0 cI 20), ((u 5), .inl (cZ, 20, .inl (upd (fun _ => 0) 0 1))), ((u 6), i0 cI 20), ((u 7), i0 cI 120), ((u 8), i0 cZ 120), ((u 9), i0 cI 120), ((u 10), i0 cI 120), ((u 11), i0 cI 8), ((u 12), i0 cI 8), ((u 13), i0 cZ 20), ((u 14), i0 cI 160), ((u 15), i0 cZ 20)]) H3 := va_P.app hPL3 hPm
  have hDA : va_D (Zs s) (va_pl Lp f ++ [(m0, .inr (6, [.ref (u 1), .ref (u 2), .ref (u 3), .ref (u 4), .ref (u 5), .ref (u 6), .int 1, .ref (u 7), .ref (u 8), .ref (u 9), .ref (u 10), .ref (u 11), .ref (u 12), .int 0, .int 0, .int 0, .ref (u 13), .ref (u 14), .ref (u 15), .int 0])), ((u 1), i0 cI 6), ((u 2), i0 cI 6), ((u 3), .inl (cI, 20, .inl (upd (fun _ => 0) 0 (-1)))), ((u 4), i0 cI 20), ((u 5), .inl (cZ, 20, .inl (upd (fun _ => 0) 0 1))), ((u 6), i0 cI 20), ((u 7), i0 cI 120), ((u 8), i0 cZ 120), ((u 9), i0 cI 120), ((u 10), i0 cI 120), ((u 11), i0 cI 8), ((u 12), i0 cI 8), ((u 13), i0 cZ 20), ((u 14), i0 cI 160), ((u 15), i0 cZ 20)]) := va_D.app (pl_D hLn hLz) (hDm.weaken (fun k q _ h => hAs2 _ h)) (fun i j x y hxi hyj hxy => hLm _ (pl_mem hxi) (by rw [hxy]; exact hDm.2 j y hyj))
  refine va_newa (N' := 1) (atype := .long) (a0 := (1, .inr (.inl (fun _ => 0)))) (ty := .long) hx hb (hw _ (List.mem_of_getElem? (i := 6) (by decide +kernel))) rfl hK hPA hDA hS hA0 (fun _ => rfl) (by decide) (by decide) (by decide) (Nat.le_of_ble_eq_true rfl) (Nat.le_of_ble_eq_true rfl) dL_law_17 (fun ou cA H4 hK4 hP4 hD4 hS => ?_)
  have hcA : cJ = cA := idJ (u := 0) (v := 3) hKJ hK4 rfl rfl
  subst hcA
  have hPL4 : va_P D vwCl (va_pl Lp f) H4 := va_P_in hP4 (fun q hq => List.mem_append_left _ (List.mem_append_left _ hq))
  have hPm4 : va_P D vwCl [(m0, .inr (6, [.ref (u 1), .ref (u 2), .ref (u 3), .ref (u 4), .ref (u 5), .ref (u 6), .int 1, .ref (u 7), .ref (u 8), .ref (u 9), .ref (u 10), .ref (u 11), .ref (u 12), .int 0, .int 0, .int 0, .ref (u 13), .ref (u 14), .ref (u 15), .int 0])), ((u 1), i0 cI 6), ((u 2), i0 cI 6), ((u 3), .inl (cI, 20, .inl (upd (fun _ => 0) 0 (-1)))), ((u 4), i0 cI 20), ((u 5), .inl (cZ, 20, .inl (upd (fun _ => 0) 0 1))), ((u 6), i0 cI 20), ((u 7), i0 cI 120), ((u 8), i0 cZ 120), ((u 9), i0 cI 120), ((u 10), i0 cI 120), ((u 11), i0 cI 8), ((u 12), i0 cI 8), ((u 13), i0 cZ 20), ((u 14), i0 cI 160), ((u 15), i0 cZ 20)] H4 := va_P_in hP4 (fun q hq => List.mem_append_left _ (List.mem_append_right _ hq))
  have hPo4 : va_P D vwCl [(ou, lgC cJ (fun _ => 0))] H4 := va_P_in hP4 (fun q hq => List.mem_append_right _ hq)
  have hin : (va_pl Lp f ++ [(m0, .inr (6, [.ref (u 1), .ref (u 2), .ref (u 3), .ref (u 4), .ref (u 5), .ref (u 6), .int 1, .ref (u 7), .ref (u 8), .ref (u 9), .ref (u 10), .ref (u 11), .ref (u 12), .int 0, .int 0, .int 0, .ref (u 13), .ref (u 14), .ref (u 15), .int 0])), ((u 1), i0 cI 6), ((u 2), i0 cI 6), ((u 3), .inl (cI, 20, .inl (upd (fun _ => 0) 0 (-1)))), ((u 4), i0 cI 20), ((u 5), .inl (cZ, 20, .inl (upd (fun _ => 0) 0 1))), ((u 6), i0 cI 20), ((u 7), i0 cI 120), ((u 8), i0 cZ 120), ((u 9), i0 cI 120), ((u 10), i0 cI 120), ((u 11), i0 cI 8), ((u 12), i0 cI 8), ((u 13), i0 cZ 20), ((u 14), i0 cI 160), ((u 15), i0 cZ 20)] ++ [(ou, lgC cJ (fun _ => 0))])[(va_pl Lp f ++ [(m0, .inr (6, [.ref (u 1), .ref (u 2), .ref (u 3), .ref (u 4), .ref (u 5), .ref (u 6), .int 1, .ref (u 7), .ref (u 8), .ref (u 9), .ref (u 10), .ref (u 11), .ref (u 12), .int 0, .int 0, .int 0, .ref (u 13), .ref (u 14), .ref (u 15), .int 0])), ((u 1), i0 cI 6), ((u 2), i0 cI 6), ((u 3), .inl (cI, 20, .inl (upd (fun _ => 0) 0 (-1)))), ((u 4), i0 cI 20), ((u 5), .inl (cZ, 20, .inl (upd (fun _ => 0) 0 1))), ((u 6), i0 cI 20), ((u 7), i0 cI 120), ((u 8), i0 cZ 120), ((u 9), i0 cI 120), ((u 10), i0 cI 120), ((u 11), i0 cI 8), ((u 12), i0 cI 8), ((u 13), i0 cZ 20), ((u 14), i0 cI 160), ((u 15), i0 cZ 20)]).length]? = some (ou, lgC cJ (fun _ => 0)) := by rw [List.getElem?_append_right (Nat.le_refl _), Nat.sub_self]; rfl
  have houz : Zs s ou := hD4.2 _ _ hin
  have hoa : ∀ q ∈ va_pl Lp f ++ [(m0, .inr (6, [.ref (u 1), .ref (u 2), .ref (u 3), .ref (u 4), .ref (u 5), .ref (u 6), .int 1, .ref (u 7), .ref (u 8), .ref (u 9), .ref (u 10), .ref (u 11), .ref (u 12), .int 0, .int 0, .int 0, .ref (u 13), .ref (u 14), .ref (u 15), .int 0])), ((u 1), i0 cI 6), ((u 2), i0 cI 6), ((u 3), .inl (cI, 20, .inl (upd (fun _ => 0) 0 (-1)))), ((u 4), i0 cI 20), ((u 5), .inl (cZ, 20, .inl (upd (fun _ => 0) 0 1))), ((u 6), i0 cI 20), ((u 7), i0 cI 120), ((u 8), i0 cZ 120), ((u 9), i0 cI 120), ((u 10), i0 cI 120), ((u 11), i0 cI 8), ((u 12), i0 cI 8), ((u 13), i0 cZ 20), ((u 14), i0 cI 160), ((u 15), i0 cZ 20)], q.1 ≠ ou := fun q hq e9 => by
    obtain ⟨k9, hk9⟩ := List.getElem?_of_mem hq
    have hlt := (List.getElem?_eq_some_iff.mp hk9).1
    have h9 := hD4.1 k9 _ q _ (by rw [List.getElem?_append_left hlt]; exact hk9) hin e9
    omega
  have houL : ou ∉ Lp := fun hh => hoa (ou, f ou) (List.mem_append_left _ (List.mem_map.mpr ⟨ou, hh, rfl⟩)) rfl
  refine lv_astore_n (lv' := [(3, .ref ou), (2, .ref m0), (1, .ref x0), (0, .ref b)]) hx hb dL_law_19 rfl hl (by decide) rfl (fun ls hl => ?_)
  refine lv_iconst (v := 0) hx hb dL_law_20 (by decide) ?_
  refine top_eq (y := nI (6 * 0)) rfl ?_
  refine lv_istore (lv' := [(4, .int (nI (6 * 0))), (3, .ref ou), (2, .ref m0), (1, .ref x0), (0, .ref b)]) hx hb dL_law_21 hl (by decide) rfl (fun ls hl => ?_)
  have had0 : apD 16 (alZ m0 H2.size) (fun j => if j = 0 then m0 else u j) := wd_to (ws := [(m0, .inr (6, [.ref (u 1), .ref (u 2), .ref (u 3), .ref (u 4), .ref (u 5), .ref (u 6), .int 1, .ref (u 7), .ref (u 8), .ref (u 9), .ref (u 10), .ref (u 11), .ref (u 12), .int 0, .int 0, .int 0, .ref (u 13), .ref (u 14), .ref (u 15), .int 0])), ((u 1), i0 cI 6), ((u 2), i0 cI 6), ((u 3), .inl (cI, 20, .inl (upd (fun _ => 0) 0 (-1)))), ((u 4), i0 cI 20), ((u 5), .inl (cZ, 20, .inl (upd (fun _ => 0) 0 1))), ((u 6), i0 cI 20), ((u 7), i0 cI 120), ((u 8), i0 cZ 120), ((u 9), i0 cI 120), ((u 10), i0 cI 120), ((u 11), i0 cI 8), ((u 12), i0 cI 8), ((u 13), i0 cZ 20), ((u 14), i0 cI 160), ((u 15), i0 cZ 20)]) rfl hDm
  have had1 : ∀ j, j < 16 → ∃ x, ((if j = 0 then m0 else u j), x) ∈ [(m0, .inr (6, [.ref (u 1), .ref (u 2), .ref (u 3), .ref (u 4), .ref (u 5), .ref (u 6), .int 1, .ref (u 7), .ref (u 8), .ref (u 9), .ref (u 10), .ref (u 11), .ref (u 12), .int 0, .int 0, .int 0, .ref (u 13), .ref (u 14), .ref (u 15), .int 0])), ((u 1), i0 cI 6), ((u 2), i0 cI 6), ((u 3), .inl (cI, 20, .inl (upd (fun _ => 0) 0 (-1)))), ((u 4), i0 cI 20), ((u 5), .inl (cZ, 20, .inl (upd (fun _ => 0) 0 1))), ((u 6), i0 cI 20), ((u 7), i0 cI 120), ((u 8), i0 cZ 120), ((u 9), i0 cI 120), ((u 10), i0 cI 120), ((u 11), i0 cI 8), ((u 12), i0 cI 8), ((u 13), i0 cZ 20), ((u 14), i0 cI 160), ((u 15), i0 cZ 20)] := fun j hj => by
    have e : ([(m0, .inr (6, [.ref (u 1), .ref (u 2), .ref (u 3), .ref (u 4), .ref (u 5), .ref (u 6), .int 1, .ref (u 7), .ref (u 8), .ref (u 9), .ref (u 10), .ref (u 11), .ref (u 12), .int 0, .int 0, .int 0, .ref (u 13), .ref (u 14), .ref (u 15), .int 0])), ((u 1), i0 cI 6), ((u 2), i0 cI 6), ((u 3), .inl (cI, 20, .inl (upd (fun _ => 0) 0 (-1)))), ((u 4), i0 cI 20), ((u 5), .inl (cZ, 20, .inl (upd (fun _ => 0) 0 1))), ((u 6), i0 cI 20), ((u 7), i0 cI 120), ((u 8), i0 cZ 120), ((u 9), i0 cI 120), ((u 10), i0 cI 120), ((u 11), i0 cI 8), ((u 12), i0 cI 8), ((u 13), i0 cZ 20), ((u 14), i0 cI 160), ((u 15), i0 cZ 20)] : va_W).map Prod.fst = (List.range 16).map (fun j => if j = 0 then m0 else u j) := rfl
    have hm : (if j = 0 then m0 else u j) ∈ (List.range 16).map (fun j => if j = 0 then m0 else u j) := List.mem_map.mpr ⟨j, List.mem_range.mpr hj, rfl⟩
    rw [← e] at hm
    obtain ⟨q, hq, eq⟩ := List.mem_map.mp hm
    exact ⟨q.2, by rw [← eq]; exact hq⟩
  have hI : LI D cI cZ cO cJ s.heap.size e0 x0 m0 ou H4 := ⟨F0i, fun _ => 0, fun _ => 0, fun _ => 0, 1, 0, (fun j => if j = 0 then m0 else u j), fun _ => 0, fun _ => 0, fun _ => 0, -1, 0, 0, 0, 0, Lp, f, tg, AD, mc, okS_0, ⟨hLn, hLz, hx0, he0, hPL4, hR⟩, ⟨⟨had0.1, fun j hj => ⟨hAs2 _ (had0.2 j hj), fun hh => hLm _ hh (had0.2 j hj), fun e9 => by obtain ⟨x9, hx9⟩ := had1 j hj; exact hoa _ (List.mem_append_right _ hx9) e9⟩⟩, rfl, ⟨fun _ => 0, fun _ => 0, 0, 0, 0, (fun j => if j = 6 then 1 else 0), rfl, rfl, hPm4⟩⟩, houL, houz, hPo4⟩
  refine W.widen (k := 30 + 4 * 0) (n := 899 + 40 * 0) (by decide) (by decide) ?_
  exact law_loop hC hr hlocks (L + 1) 0 H4 _ ls (by omega) (by omega) hI hS (lv_sub hl [4, 3, 2, 1, 0] rfl)
