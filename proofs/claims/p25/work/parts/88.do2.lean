set_option maxHeartbeats 1600000 in
set_option maxRecDepth 100000 in
theorem ld_7 {p : Program} {l : Launch} {e : Env} {s : State} {m : MethodId} {args : Array Value} {below : List Frame} {meth : Method} {c : Code} {D : va_G} {cI cZ cO : ClassId} {A : Nat → Prop} {x0 e0 z mi : Nat} (hx : p.tables.exec = Jvm.exec) (hb : c.code = cL_does) (hr : meth.sig.returnType = some .boolean) (hlocks : meth.locks = false) (hml : c.maxLocals = 8) (hown : s.vm.findClass RL = some m.cls) (hts : ∀ w ∈ wsL_does, w.before args s = true) (hE : LE D cI cZ cO A e0 z mi s) (hAz : ∀ q, z ≤ q → A q) (hne : ¬ A e0) {F : Nat → Nat → Int32} {ik kp tu : Nat → Int32} {n : Nat} (hokL : okL F ik kp tu n) {v w e9 f : Nat} (hv : v < 2 ^ 31) (hw : w < 2 ^ 31) (he9 : e9 < 55) (hf : f < n) {H : Heap} {locs : List Loc} (hC : CX D cI cO A x0 e0 F ik kp tu n H) (hS : va_S A s.heap H locs) {ls : Array Slot} (hl : lv_has ls 8 [(4, .int (nI f)), (0, .ref x0), (1, .int (nI v)), (2, .int (nI w)), (3, .int (nI e9))]) : W p l e (headSpec wsL_does ({ frames := 9, cells := 4, slots := 40, locals := 310 })).room s m args below meth c H locs (0) (0) (MQ below (va_Qi (fun (r : Int32) (_ : Unit) => r = 1) (fun _ t => OX D cI cO A x0 e0 t.heap) A) args s 4 40 A) (F0 m 374 ls []) := by
  have hok := hokL.1
  have hn20 := hok.1.2.1.2
  have hww := hw
  generalize hQ : MQ below (va_Qi (fun (r : Int32) (_ : Unit) => r = 1) (fun _ t => OX D cI cO A x0 e0 t.heap) A) args s 4 40 A = Q
  have hw14 : w % 14 < 14 := by omega
  have hr7 : 1 ≤ 1 + w / 42 % 7 ∧ 1 + w / 42 % 7 < 8 := by omega
  have hs2 : inB (nI (w / 294 % 3)) 0 2 = true := inB_t (N := 2) (by omega) (by decide)
  have hq5 := hokL.2.2.2 f hf
  have hy6 : w / 900 % 6 < 6 := by omega
  by_cases h0 : nI (w / 14 % 3) ≤ 0
  ·
    refine lv_aload_n hx hb dL_does_374 rfl (lv_at hl 1 rfl) ?_
    refine lv_iload hx hb dL_does_375 (lv_at hl 0 rfl) ?_
    refine lv_iload_n hx hb dL_does_377 rfl (lv_at hl 3 rfl) ?_
    refine lv_bipush (v := 14) hx hb dL_does_378 (by decide) ?_
    refine top_eq (y := nI 14) (rfl) ?_
    refine irem_n (x := w) (y := 14) (by omega) (by omega) (by omega) hx hb dL_does_380 ?_
    refine lv_iload_n hx hb dL_does_381 rfl (lv_at hl 3 rfl) ?_
    refine lv_bipush (v := 14) hx hb dL_does_382 (by decide) ?_
    refine top_eq (y := nI 14) (rfl) ?_
    refine idiv_n (x := w) (y := 14) (by omega) (by omega) (by omega) hx hb dL_does_384 ?_
    refine lv_iconst (v := 3) hx hb dL_does_385 (by decide) ?_
    refine top_eq (y := nI 3) (rfl) ?_
    refine irem_n (x := w / 14) (y := 3) (by omega) (by omega) (by omega) hx hb dL_does_386 ?_
    refine lv_if_le (tgt := 394) hx hb dL_does_387 (by decide) (fun c_387 => ?_) (fun c_387 => absurd (h0) c_387)
    refine lv_iconst (v := 0) hx hb dL_does_394 (by decide) ?_
    refine top_eq (y := b2i false) (rfl) ?_
    refine lv_iconst (v := 1) hx hb dL_does_395 (by decide) ?_
    refine top_eq (y := nI 1) (rfl) ?_
    refine lv_iload_n hx hb dL_does_396 rfl (lv_at hl 3 rfl) ?_
    refine lv_bipush (v := 42) hx hb dL_does_397 (by decide) ?_
    refine top_eq (y := nI 42) (rfl) ?_
    refine idiv_n (x := w) (y := 42) (by omega) (by omega) (by omega) hx hb dL_does_399 ?_
    refine lv_bipush (v := 7) hx hb dL_does_400 (by decide) ?_
    refine top_eq (y := nI 7) (rfl) ?_
    refine irem_n (x := w / 42) (y := 7) (by omega) (by omega) (by omega) hx hb dL_does_402 ?_
    refine iadd_n (x := 1) (y := (w / 42) % 7) hx hb dL_does_403 ?_
    refine lv_iload_n hx hb dL_does_404 rfl (lv_at hl 3 rfl) ?_
    refine lv_sipush (v := 294) hx hb dL_does_405 (by decide) ?_
    refine top_eq (y := nI 294) (rfl) ?_
    refine idiv_n (x := w) (y := 294) (by omega) (by omega) (by omega) hx hb dL_does_408 ?_
    refine lv_iconst (v := 3) hx hb dL_does_409 (by decide) ?_
    refine top_eq (y := nI 3) (rfl) ?_
    refine irem_n (x := w / 294) (y := 3) (by omega) (by omega) (by omega) hx hb dL_does_410 ?_
    refine va_calli (va_runV (As := [.int (nI f), .int (nI (w % 14)), .int (b2i false), .int (nI (1 + ((w / 42) % 7))), .int (nI ((w / 294) % 3))]) (rest := []) ⟨hx, hb, hml, hown, hts⟩ (xc_allow l D cI cZ cO (F := F) (ik := ik) (kp := kp) (tu := tu) (n := n) (A := A) (x0 := x0) (e0 := e0) (z := z) (mi := mi) hok f (w % 14) false (nI (1 + ((w / 42) % 7))) (nI ((w / 294) % 3)) hf hw14 (in17 hr7) hs2 (by omega) hAz hne) (cwV 5 hts gL_does_X4_allow rfl rfl rfl (by decide +kernel) ⟨Nat.le_of_ble_eq_true rfl, Nat.le_of_ble_eq_true rfl⟩) ⟨LW.blind, hC.recv hE.1, fun U hU hW => ⟨rfl, LW.mk2 hE hS hC U hU hW⟩⟩ rfl rfl hl.1 rfl (lv_room (Nat.le_of_ble_eq_true rfl)) dL_does_411 ⟨Nat.le_of_ble_eq_true rfl, Nat.le_of_ble_eq_true rfl⟩) hS (fun q _ h => h) (fun q h => h) (fun r u t H locs ht hvm hw hC hz1 hk1 hS => ?_)
    rw [ht] at hC
    subst hw
    have hC : CX D cI cO A x0 e0 (fAll F f (w % 14) false (nI (1 + w / 42 % 7)) (nI (w / 294 % 3))) ik kp tu n H := hC
    refine lv_istore (lv' := [(7, .int (nI (i2n (F 6 f) + 1))), (4, .int (nI f)), (0, .ref x0), (1, .int (nI v)), (2, .int (nI w)), (3, .int (nI e9))]) hx hb dL_does_414 hl (by decide) rfl (fun ls hl => ?_)
    refine lv_iload hx hb dL_does_416 (lv_at hl 0 rfl) ?_
    refine lv_bipush (v := 6) hx hb dL_does_418 (by decide) ?_
    refine lv_icmp_lt (tgt := 440) hx hb dL_does_420 (by decide) (fun c_420 => ?_) (fun c_420 => ?_)
    ·
      have h5 : i2n (F 6 f) + 1 ≤ 5 := by
        rcases Nat.lt_or_ge (i2n (F 6 f) + 1) 6 with h | h
        · omega
        · exact absurd c_420 (nI_nlt (b := 6) h (by omega))
      refine lv_iconst (v := 1) hx hb dL_does_440 (by decide) ?_
      refine lv_goto (tgt := 445) hx hb dL_does_441 (by decide) ?_
      subst hQ
      refine W.widen (k := 4) (n := 40) (Nat.le_of_ble_eq_true rfl) (Nat.le_of_ble_eq_true rfl) ?_
      exact W.zret (v := 1) hx hb hr (by exact nar_b2i true) (fun t ht hW => ⟨⟨_, (), rfl, rfl, (show OX D cI cO A x0 e0 t.heap from by rw [ht]; exact ⟨_, _, _, _, _, hokL.all hf hw14 hr7 h5, hC⟩)⟩, hS.F ht⟩) hS.2.2 dL_does_445
    ·
      have h6 : i2n (F 6 f) + 1 = 6 := by
        rcases Nat.lt_or_ge (i2n (F 6 f) + 1) 6 with h | h
        · exact absurd (nI_lt (b := 6) h (by decide)) c_420
        · omega
      have hok1 : okS (fAll F f (w % 14) false (nI (1 + w / 42 % 7)) (nI (w / 294 % 3))) ik kp tu n := hok.all hf hw14 hr7 (by omega)
      have hy : w / 900 % 6 < i2n ((fAll F f (w % 14) false (nI (1 + w / 42 % 7)) (nI (w / 294 % 3))) 6 f) := by rw [all_len (by omega)]; omega
      refine lv_aload_n hx hb dL_does_423 rfl (lv_at hl 2 rfl) ?_
      refine lv_iload hx hb dL_does_424 (lv_at hl 1 rfl) ?_
      refine lv_iload_n hx hb dL_does_426 rfl (lv_at hl 4 rfl) ?_
      refine lv_sipush (v := 900) hx hb dL_does_427 (by decide) ?_
      refine top_eq (y := nI 900) (rfl) ?_
      refine idiv_n (x := w) (y := 900) (by omega) (by omega) (by omega) hx hb dL_does_430 ?_
      refine lv_bipush (v := 6) hx hb dL_does_431 (by decide) ?_
      refine top_eq (y := nI 6) (rfl) ?_
      refine irem_n (x := w / 900) (y := 6) (by omega) (by omega) (by omega) hx hb dL_does_433 ?_
      refine va_calli (va_runV (As := [.int (nI f), .int (nI ((w / 900) % 6))]) (rest := []) ⟨hx, hb, hml, hown, hts⟩ (xc_drop l D cI cZ cO (F := (fAll F f (w % 14) false (nI (1 + w / 42 % 7)) (nI (w / 294 % 3)))) (ik := ik) (kp := kp) (tu := tu) (n := n) (A := A) (x0 := x0) (e0 := e0) (z := z) (mi := mi) hok1 f ((w / 900) % 6) hf hy) (cwV 2 hts gL_does_X4_drop rfl rfl rfl (by decide +kernel) ⟨Nat.le_of_ble_eq_true rfl, Nat.le_of_ble_eq_true rfl⟩) ⟨LW.blind, hC.recv hE.1, fun U hU hW => ⟨rfl, LW.mk2 hE hS hC U hU hW⟩⟩ rfl rfl hl.1 rfl (lv_room (Nat.le_of_ble_eq_true rfl)) dL_does_434 ⟨Nat.le_of_ble_eq_true rfl, Nat.le_of_ble_eq_true rfl⟩) hS (fun q _ h => h) (fun q h => h) (fun r u t H locs ht hvm hw hC hz1 hk1 hS => ?_)
      rw [ht] at hC
      subst hw
      have hC : CX D cI cO A x0 e0 (fDrp (fAll F f (w % 14) false (nI (1 + w / 42 % 7)) (nI (w / 294 % 3))) f (w / 900 % 6)) ik kp tu n H := hC
      refine lv_if_le (tgt := 444) hx hb dL_does_437 (by decide) (fun c_437 => absurd c_437 (drp_pos hokL hf hr7 h6 hy6)) (fun c_437 => ?_)
      refine lv_iconst (v := 1) hx hb dL_does_440 (by decide) ?_
      refine lv_goto (tgt := 445) hx hb dL_does_441 (by decide) ?_
      subst hQ
      refine W.widen (k := 4) (n := 40) (Nat.le_of_ble_eq_true rfl) (Nat.le_of_ble_eq_true rfl) ?_
      exact W.zret (v := 1) hx hb hr (by exact nar_b2i true) (fun t ht hW => ⟨⟨_, (), rfl, rfl, (show OX D cI cO A x0 e0 t.heap from by rw [ht]; exact ⟨_, _, _, _, _, hokL.two hf hw14 hr7 h6 hy6, hC⟩)⟩, hS.F ht⟩) hS.2.2 dL_does_445
  ·
    refine lv_aload_n hx hb dL_does_374 rfl (lv_at hl 1 rfl) ?_
    refine lv_iload hx hb dL_does_375 (lv_at hl 0 rfl) ?_
    refine lv_iload_n hx hb dL_does_377 rfl (lv_at hl 3 rfl) ?_
    refine lv_bipush (v := 14) hx hb dL_does_378 (by decide) ?_
    refine top_eq (y := nI 14) (rfl) ?_
    refine irem_n (x := w) (y := 14) (by omega) (by omega) (by omega) hx hb dL_does_380 ?_
    refine lv_iload_n hx hb dL_does_381 rfl (lv_at hl 3 rfl) ?_
    refine lv_bipush (v := 14) hx hb dL_does_382 (by decide) ?_
    refine top_eq (y := nI 14) (rfl) ?_
    refine idiv_n (x := w) (y := 14) (by omega) (by omega) (by omega) hx hb dL_does_384 ?_
    refine lv_iconst (v := 3) hx hb dL_does_385 (by decide) ?_
    refine top_eq (y := nI 3) (rfl) ?_
    refine irem_n (x := w / 14) (y := 3) (by omega) (by omega) (by omega) hx hb dL_does_386 ?_
    refine lv_if_le (tgt := 394) hx hb dL_does_387 (by decide) (fun c_387 => absurd c_387 (h0)) (fun c_387 => ?_)
    refine lv_iconst (v := 1) hx hb dL_does_390 (by decide) ?_
    refine top_eq (y := b2i true) (rfl) ?_
    refine lv_goto (tgt := 395) hx hb dL_does_391 (by decide) ?_
    refine lv_iconst (v := 1) hx hb dL_does_395 (by decide) ?_
    refine top_eq (y := nI 1) (rfl) ?_
    refine lv_iload_n hx hb dL_does_396 rfl (lv_at hl 3 rfl) ?_
    refine lv_bipush (v := 42) hx hb dL_does_397 (by decide) ?_
    refine top_eq (y := nI 42) (rfl) ?_
    refine idiv_n (x := w) (y := 42) (by omega) (by omega) (by omega) hx hb dL_does_399 ?_
    refine lv_bipush (v := 7) hx hb dL_does_400 (by decide) ?_
    refine top_eq (y := nI 7) (rfl) ?_
    refine irem_n (x := w / 42) (y := 7) (by omega) (by omega) (by omega) hx hb dL_does_402 ?_
    refine iadd_n (x := 1) (y := (w / 42) % 7) hx hb dL_does_403 ?_
    refine lv_iload_n hx hb dL_does_404 rfl (lv_at hl 3 rfl) ?_
    refine lv_sipush (v := 294) hx hb dL_does_405 (by decide) ?_
    refine top_eq (y := nI 294) (rfl) ?_
    refine idiv_n (x := w) (y := 294) (by omega) (by omega) (by omega) hx hb dL_does_408 ?_
    refine lv_iconst (v := 3) hx hb dL_does_409 (by decide) ?_
    refine top_eq (y := nI 3) (rfl) ?_
    refine irem_n (x := w / 294) (y := 3) (by omega) (by omega) (by omega) hx hb dL_does_410 ?_
    refine va_calli (va_runV (As := [.int (nI f), .int (nI (w % 14)), .int (b2i true), .int (nI (1 + ((w / 42) % 7))), .int (nI ((w / 294) % 3))]) (rest := []) ⟨hx, hb, hml, hown, hts⟩ (xc_allow l D cI cZ cO (F := F) (ik := ik) (kp := kp) (tu := tu) (n := n) (A := A) (x0 := x0) (e0 := e0) (z := z) (mi := mi) hok f (w % 14) true (nI (1 + ((w / 42) % 7))) (nI ((w / 294) % 3)) hf hw14 (in17 hr7) hs2 (by omega) hAz hne) (cwV 5 hts gL_does_X4_allow rfl rfl rfl (by decide +kernel) ⟨Nat.le_of_ble_eq_true rfl, Nat.le_of_ble_eq_true rfl⟩) ⟨LW.blind, hC.recv hE.1, fun U hU hW => ⟨rfl, LW.mk2 hE hS hC U hU hW⟩⟩ rfl rfl hl.1 rfl (lv_room (Nat.le_of_ble_eq_true rfl)) dL_does_411 ⟨Nat.le_of_ble_eq_true rfl, Nat.le_of_ble_eq_true rfl⟩) hS (fun q _ h => h) (fun q h => h) (fun r u t H locs ht hvm hw hC hz1 hk1 hS => ?_)
    rw [ht] at hC
    subst hw
    have hC : CX D cI cO A x0 e0 (fAll F f (w % 14) true (nI (1 + w / 42 % 7)) (nI (w / 294 % 3))) ik kp tu n H := hC
    refine lv_istore (lv' := [(7, .int (nI (i2n (F 6 f) + 1))), (4, .int (nI f)), (0, .ref x0), (1, .int (nI v)), (2, .int (nI w)), (3, .int (nI e9))]) hx hb dL_does_414 hl (by decide) rfl (fun ls hl => ?_)
    refine lv_iload hx hb dL_does_416 (lv_at hl 0 rfl) ?_
    refine lv_bipush (v := 6) hx hb dL_does_418 (by decide) ?_
    refine lv_icmp_lt (tgt := 440) hx hb dL_does_420 (by decide) (fun c_420 => ?_) (fun c_420 => ?_)
    ·
      have h5 : i2n (F 6 f) + 1 ≤ 5 := by
        rcases Nat.lt_or_ge (i2n (F 6 f) + 1) 6 with h | h
        · omega
        · exact absurd c_420 (nI_nlt (b := 6) h (by omega))
      refine lv_iconst (v := 1) hx hb dL_does_440 (by decide) ?_
      refine lv_goto (tgt := 445) hx hb dL_does_441 (by decide) ?_
      subst hQ
      refine W.widen (k := 4) (n := 40) (Nat.le_of_ble_eq_true rfl) (Nat.le_of_ble_eq_true rfl) ?_
      exact W.zret (v := 1) hx hb hr (by exact nar_b2i true) (fun t ht hW => ⟨⟨_, (), rfl, rfl, (show OX D cI cO A x0 e0 t.heap from by rw [ht]; exact ⟨_, _, _, _, _, hokL.all hf hw14 hr7 h5, hC⟩)⟩, hS.F ht⟩) hS.2.2 dL_does_445
    ·
      have h6 : i2n (F 6 f) + 1 = 6 := by
        rcases Nat.lt_or_ge (i2n (F 6 f) + 1) 6 with h | h
        · exact absurd (nI_lt (b := 6) h (by decide)) c_420
        · omega
      have hok1 : okS (fAll F f (w % 14) true (nI (1 + w / 42 % 7)) (nI (w / 294 % 3))) ik kp tu n := hok.all hf hw14 hr7 (by omega)
      have hy : w / 900 % 6 < i2n ((fAll F f (w % 14) true (nI (1 + w / 42 % 7)) (nI (w / 294 % 3))) 6 f) := by rw [all_len (by omega)]; omega
      refine lv_aload_n hx hb dL_does_423 rfl (lv_at hl 2 rfl) ?_
      refine lv_iload hx hb dL_does_424 (lv_at hl 1 rfl) ?_
      refine lv_iload_n hx hb dL_does_426 rfl (lv_at hl 4 rfl) ?_
      refine lv_sipush (v := 900) hx hb dL_does_427 (by decide) ?_
      refine top_eq (y := nI 900) (rfl) ?_
      refine idiv_n (x := w) (y := 900) (by omega) (by omega) (by omega) hx hb dL_does_430 ?_
      refine lv_bipush (v := 6) hx hb dL_does_431 (by decide) ?_
      refine top_eq (y := nI 6) (rfl) ?_
      refine irem_n (x := w / 900) (y := 6) (by omega) (by omega) (by omega) hx hb dL_does_433 ?_
      refine va_calli (va_runV (As := [.int (nI f), .int (nI ((w / 900) % 6))]) (rest := []) ⟨hx, hb, hml, hown, hts⟩ (xc_drop l D cI cZ cO (F := (fAll F f (w % 14) true (nI (1 + w / 42 % 7)) (nI (w / 294 % 3)))) (ik := ik) (kp := kp) (tu := tu) (n := n) (A := A) (x0 := x0) (e0 := e0) (z := z) (mi := mi) hok1 f ((w / 900) % 6) hf hy) (cwV 2 hts gL_does_X4_drop rfl rfl rfl (by decide +kernel) ⟨Nat.le_of_ble_eq_true rfl, Nat.le_of_ble_eq_true rfl⟩) ⟨LW.blind, hC.recv hE.1, fun U hU hW => ⟨rfl, LW.mk2 hE hS hC U hU hW⟩⟩ rfl rfl hl.1 rfl (lv_room (Nat.le_of_ble_eq_true rfl)) dL_does_434 ⟨Nat.le_of_ble_eq_true rfl, Nat.le_of_ble_eq_true rfl⟩) hS (fun q _ h => h) (fun q h => h) (fun r u t H locs ht hvm hw hC hz1 hk1 hS => ?_)
      rw [ht] at hC
      subst hw
      have hC : CX D cI cO A x0 e0 (fDrp (fAll F f (w % 14) true (nI (1 + w / 42 % 7)) (nI (w / 294 % 3))) f (w / 900 % 6)) ik kp tu n H := hC
      refine lv_if_le (tgt := 444) hx hb dL_does_437 (by decide) (fun c_437 => absurd c_437 (drp_pos hokL hf hr7 h6 hy6)) (fun c_437 => ?_)
      refine lv_iconst (v := 1) hx hb dL_does_440 (by decide) ?_
      refine lv_goto (tgt := 445) hx hb dL_does_441 (by decide) ?_
      subst hQ
      refine W.widen (k := 4) (n := 40) (Nat.le_of_ble_eq_true rfl) (Nat.le_of_ble_eq_true rfl) ?_
      exact W.zret (v := 1) hx hb hr (by exact nar_b2i true) (fun t ht hW => ⟨⟨_, (), rfl, rfl, (show OX D cI cO A x0 e0 t.heap from by rw [ht]; exact ⟨_, _, _, _, _, hokL.two hf hw14 hr7 h6 hy6, hC⟩)⟩, hS.F ht⟩) hS.2.2 dL_does_445
