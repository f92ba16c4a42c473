set_option maxHeartbeats 1600000 in
set_option maxRecDepth 100000 in
theorem law_loop {p : Program} {l : Launch} {e : Env} {s : State} {m : MethodId} {below : List Frame} {meth : Method} {c : Code} {b Lx : Nat} {xs : Nat → Int32} {D : va_G} {cI cZ cO : ClassId} {e0 mi x0 : Nat} (hx : p.tables.exec = Jvm.exec) (hb : c.code = cL_law) (hr : meth.sig.returnType = ret) (hml : c.maxLocals = 5) (hown : s.vm.findClass RL = some m.cls) (hts : ∀ w ∈ wsL_law, w.before #[Value.ref b] s = true) (hX : va_X b Lx xs s s.heap) (hbl : b < s.heap.size) (hLx : Lx ≤ 260) (hlocks : meth.locks = false) (hE : LE D cI cZ cO (Zs s) e0 s.heap.size mi s) : ∀ dd t : Nat, t + dd = 55 → ∀ (H : Heap) (locs : List Loc) (ls : Array Slot), OX D cI cO (Zs s) x0 e0 H → va_S (Zs s) s.heap H locs → lv_has ls 5 [(0, .ref b), (1, .ref x0), (2, .int 1), (3, .int (nI t))] → W p l e room_1 s m #[Value.ref b] below meth c H locs (20 + 4 * t) (120 + 40 * t) (lw_Z below #[Value.ref b] s) (F0 m 24 ls []) := by
  have hbA : ¬ Zs s b := Nat.not_le.mpr hbl
  have he0s := hE.2.2.elt
  have hne : ¬ Zs s e0 := Nat.not_le.mpr he0s
  have hAz : ∀ q, s.heap.size ≤ q → Zs s q := fun _ h => h
  intro dd
  induction dd with
  | zero =>
    intro t ht5 H locs ls hO hS hl
    obtain rfl : t = 55 := by omega
    refine lv_iload_n hx hb dL_law_24 rfl (lv_at hl 3 rfl) ?_
    refine lv_bipush (v := 55) hx hb dL_law_25 (by decide) ?_
    refine lv_icmp_ge (tgt := 104) hx hb dL_law_27 (by decide) (fun c_27 => ?_) (fun c_27 => absurd (by decide) c_27)
    refine lv_iload_n hx hb dL_law_104 rfl (lv_at hl 2 rfl) ?_
    refine va_forget (fun q hq => hS.2.2 q hq) ?_
    refine W.widen (k := 600086) (n := 7301442) (by decide) (by decide) ?_
    exact lw_ret hx hb hr hlocks dL_law_105
  | succ dd ih =>
    intro t ht5 H locs ls hO hS hl
    have ht55 : t < 55 := by omega
    refine lv_iload_n hx hb dL_law_24 rfl (lv_at hl 3 rfl) ?_
    refine lv_bipush (v := 55) hx hb dL_law_25 (by decide) ?_
    refine lv_icmp_ge (tgt := 104) hx hb dL_law_27 (by decide) (fun c_27 => absurd c_27 (lt_no (N := 55) ht55 (by decide))) (fun c_27 => ?_)
    refine lv_iload_n hx hb dL_law_30 rfl (lv_at hl 2 rfl) ?_
    refine lv_if_eq (tgt := 104) hx hb dL_law_31 (by decide) (fun c_31 => absurd c_31 (by decide)) (fun c_31 => ?_)
    refine lv_aload_n hx hb dL_law_34 rfl (lv_at hl 0 rfl) ?_
    refine lv_iload_n hx hb dL_law_35 rfl (lv_at hl 3 rfl) ?_
    refine vp_callSi (W.runS (As := [.ref b, .int (nI t)]) (rest := []) ⟨hx, hb, hml, hown, hts⟩ (kl_told l b Lx xs t (by omega) hLx) (va_cwS 2 hts gL_law_L_told rfl rfl rfl (by decide +kernel) ⟨Nat.le_of_ble_eq_true rfl, Nat.le_of_ble_eq_true rfl⟩) ⟨to_blind, fun U hU hW => ⟨rfl, by unfold toP; rw [hU]; exact ⟨va_X.moved hW.alike (va_X.kept hX (hS.2.1 b hbl hbA)), Nat.lt_of_lt_of_le hbl hS.1⟩⟩⟩ rfl rfl hl.1 rfl (lv_room (Nat.le_of_ble_eq_true rfl)) dL_law_36 ⟨(show 20 + 4 * t + 0 ≤ 600086 by omega), (show 120 + 40 * t + 0 ≤ 7301442 by omega)⟩) (fun r er => ?_)
    obtain ⟨v, hv, rfl⟩ := er
    refine lv_istore (lv' := [(4, .int (nI v)), (0, .ref b), (1, .ref x0), (2, .int 1), (3, .int (nI t))]) hx hb dL_law_39 hl (by decide) rfl (fun ls hl => ?_)
    refine lv_aload_n hx hb dL_law_41 rfl (lv_at hl 2 rfl) ?_
    refine lv_iload hx hb dL_law_42 (lv_at hl 0 rfl) ?_
    refine lv_aload_n hx hb dL_law_44 rfl (lv_at hl 1 rfl) ?_
    refine lv_iload_n hx hb dL_law_45 rfl (lv_at hl 4 rfl) ?_
    refine lv_iconst (v := 2) hx hb dL_law_46 (by decide) ?_
    refine top_eq (y := nI 2) (rfl) ?_
    refine iadd_n (x := t) (y := 2) hx hb dL_law_47 ?_
    refine vp_callSi (W.runS (As := [.ref b, .int (nI (t + 2))]) (rest := [.int (nI v), .ref x0]) ⟨hx, hb, hml, hown, hts⟩ (kl_told l b Lx xs (t + 2) (by omega) hLx) (va_cwS 2 hts gL_law_L_told rfl rfl rfl (by decide +kernel) ⟨Nat.le_of_ble_eq_true rfl, Nat.le_of_ble_eq_true rfl⟩) ⟨to_blind, fun U hU hW => ⟨rfl, by unfold toP; rw [hU]; exact ⟨va_X.moved hW.alike (va_X.kept hX (hS.2.1 b hbl hbA)), Nat.lt_of_lt_of_le hbl hS.1⟩⟩⟩ rfl rfl hl.1 rfl (lv_room (Nat.le_of_ble_eq_true rfl)) dL_law_48 ⟨(show 20 + 4 * t + 0 ≤ 600086 by omega), (show 120 + 40 * t + 0 ≤ 7301442 by omega)⟩) (fun r er => ?_)
    obtain ⟨w, hw, rfl⟩ := er
    refine lv_iload_n hx hb dL_law_51 rfl (lv_at hl 4 rfl) ?_
    obtain ⟨F, ik, kp, tu, n, hokL, hC⟩ := hO
    refine va_calli (va_runS (As := [.ref x0, .int (nI v), .int (nI w), .int (nI t)]) (rest := []) ⟨hx, hb, hml, hown, hts⟩ (kl_does l D cI cZ cO (A := Zs s) (x0 := x0) (e0 := e0) (z := s.heap.size) (mi := mi) hokL hAz hne v w t hv hw ht55) (va_cwS 4 hts gL_law_L_does rfl rfl rfl (by decide +kernel) ⟨Nat.le_of_ble_eq_true rfl, Nat.le_of_ble_eq_true rfl⟩) ⟨LW.blind, fun U hU hW => ⟨rfl, LW.mk2 hE hS hC U hU hW⟩⟩ rfl rfl hl.1 rfl (lv_room (Nat.le_of_ble_eq_true rfl)) dL_law_52 ⟨(show 20 + 4 * t + 4 ≤ 600086 by omega), (show 120 + 40 * t + 40 ≤ 7301442 by omega)⟩) hS (fun q _ h => h) (fun q h => h) (fun r u t9 H locs ht hvm hw9 hO hz1 hk1 hS => ?_)
    rw [ht] at hO
    subst hw9
    refine lv_if_eq (tgt := 96) hx hb dL_law_55 (by decide) (fun c_55 => absurd c_55 (by decide)) (fun c_55 => ?_)
    have J92 : ∀ (H : Heap) (locs : List Loc), OX D cI cO (Zs s) x0 e0 H → va_S (Zs s) s.heap H locs → W p l e room_1 s m #[Value.ref b] below meth c H locs (20 + 4 * t + 4) (120 + 40 * t + 40) (lw_Z below #[Value.ref b] s) (F0 m 92 ls []) := by
      intro H locs hO hS
      refine lv_iconst (v := 1) hx hb dL_law_92 (by decide) ?_
      refine lv_goto (tgt := 97) hx hb dL_law_93 (by decide) ?_
      refine lv_istore_n (lv' := [(2, .int 1), (4, .int (nI v)), (0, .ref b), (1, .ref x0), (3, .int (nI t))]) hx hb dL_law_97 rfl hl (by decide) rfl (fun ls hl => ?_)
      refine lv_iinc (v := nI (t + 1)) (lv' := [(3, .int (nI (t + 1))), (2, .int 1), (4, .int (nI v)), (0, .ref b), (1, .ref x0)]) hx hb dL_law_98 hl (k := 4) rfl (by exact iinc_n _) (by decide) rfl (fun ls hl => ?_)
      refine lv_goto (tgt := 24) hx hb dL_law_101 (by decide) ?_
      have h9 := ih (t + 1) (by omega) H locs ls hO hS (lv_sub hl [3, 4, 1, 0] rfl)
      rw [show 20 + 4 * (t + 1) = 20 + 4 * t + 4 by omega, show 120 + 40 * (t + 1) = 120 + 40 * t + 40 by omega] at h9
      exact h9
    refine lv_iload_n hx hb dL_law_58 rfl (lv_at hl 4 rfl) ?_
    refine lv_iconst (v := 2) hx hb dL_law_59 (by decide) ?_
    refine top_eq (y := nI 2) (rfl) ?_
    refine irem_n (x := t) (y := 2) (by omega) (by omega) (by omega) hx hb dL_law_60 ?_
    refine lv_iconst (v := 1) hx hb dL_law_61 (by decide) ?_
    refine lv_icmp_eq (tgt := 92) hx hb dL_law_62 (by decide) (fun _ => J92 _ _ hO hS) (fun _ => ?_)
    obtain ⟨F1, ik1, kp1, tu1, n1, hL1, hC⟩ := hO
    have hok1 := hL1.1
    have hn20 := hok1.1.2.1
    refine lv_aload_n hx hb dL_law_65 rfl (lv_at hl 2 rfl) ?_
    refine lv_iload hx hb dL_law_66 (lv_at hl 0 rfl) ?_
    refine lv_bipush (v := 7) hx hb dL_law_68 (by decide) ?_
    refine top_eq (y := nI 7) (rfl) ?_
    refine idiv_n (x := v) (y := 7) (by omega) (by omega) (by omega) hx hb dL_law_70 ?_
    refine lv_aload_n hx hb dL_law_71 rfl (lv_at hl 2 rfl) ?_
    refine va_calli (va_runV (As := []) (rest := [.int (nI (v / 7)), .ref x0]) ⟨hx, hb, hml, hown, hts⟩ (xc_folders l D cI cZ cO (F := F1) (ik := ik1) (kp := kp1) (tu := tu1) (n := n1) (A := (Zs s)) (x0 := x0) (e0 := e0) (z := s.heap.size) (mi := mi) hok1  ) (cwV 0 hts gL_law_X4_folders rfl rfl rfl (by decide +kernel) ⟨Nat.le_of_ble_eq_true rfl, Nat.le_of_ble_eq_true rfl⟩) ⟨LW.blind, hC.recv hE.1, fun U hU hW => ⟨rfl, LW.mk2 hE hS hC U hU hW⟩⟩ rfl rfl hl.1 rfl (lv_room (Nat.le_of_ble_eq_true rfl)) dL_law_72 ⟨(show 20 + 4 * t + 4 + 0 ≤ 600086 by omega), (show 120 + 40 * t + 40 + 0 ≤ 7301442 by omega)⟩) hS (fun q _ h => h) (fun q h => h) (fun r u t9 H locs ht hvm hw hC hz1 hk1 hS => ?_)
    rw [ht] at hC
    subst hw
    have hf : v / 7 % n1 < n1 := Nat.mod_lt _ (by omega)
    refine irem_n (x := v / 7) (y := n1) (by omega) (by omega) (by omega) hx hb dL_law_75 ?_
    refine lv_iload hx hb dL_law_76 (lv_at hl 0 rfl) ?_
    refine lv_bipush (v := 70) hx hb dL_law_78 (by decide) ?_
    refine top_eq (y := nI 70) (rfl) ?_
    refine idiv_n (x := v) (y := 70) (by omega) (by omega) (by omega) hx hb dL_law_80 ?_
    refine lv_bipush (v := 7) hx hb dL_law_81 (by decide) ?_
    refine top_eq (y := nI 7) (rfl) ?_
    refine irem_n (x := v / 70) (y := 7) (by omega) (by omega) (by omega) hx hb dL_law_83 ?_
    refine lv_iconst (v := 1) hx hb dL_law_84 (by decide) ?_
    refine top_eq (y := nI 1) (rfl) ?_
    refine lv_isub hx hb dL_law_85 ?_
    refine va_calli (va_runS (As := [.ref x0, .int (nI (v / 7 % n1)), .int (nI (v / 70 % 7) - nI 1)]) (rest := []) ⟨hx, hb, hml, hown, hts⟩ (kl_isSafe l D cI cZ cO (A := Zs s) (x0 := x0) (e0 := e0) (z := s.heap.size) (mi := mi) hok1 (v / 7 % n1) (nI (v / 70 % 7) - nI 1) hf (grp_arg (by omega))) (va_cwS 3 hts gL_law_L_isSafe rfl rfl rfl (by decide +kernel) ⟨Nat.le_of_ble_eq_true rfl, Nat.le_of_ble_eq_true rfl⟩) ⟨LW.blind, fun U hU hW => ⟨rfl, LW.mk2 hE hS hC U hU hW⟩⟩ rfl rfl hl.1 rfl (lv_room (Nat.le_of_ble_eq_true rfl)) dL_law_86 ⟨(show 20 + 4 * t + 4 + 0 + 0 ≤ 600086 by omega), (show 120 + 40 * t + 40 + 0 + 0 ≤ 7301442 by omega)⟩) hS (fun q _ h => h) (fun q h => h) (fun r u t9 H locs ht hvm hw9 hC hz1 hk1 hS => ?_)
    rw [ht] at hC
    subst hw9
    refine lv_if_eq (tgt := 96) hx hb dL_law_89 (by decide) (fun c_89 => absurd c_89 (by decide)) (fun c_89 => ?_)
    exact J92 _ _ ⟨_, _, _, _, _, hL1, hC⟩ hS
