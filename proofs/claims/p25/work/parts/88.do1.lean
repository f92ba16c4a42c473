set_option maxHeartbeats 1600000 in
set_option maxRecDepth 100000 in
theorem ld_4 {p : Program} {l : Launch} {e : Env} {s : State} {m : MethodId} {args : Array Value} {below : List Frame} {meth : Method} {c : Code} {D : va_G} {cI cZ cO : ClassId} {A : Nat → Prop} {x0 e0 z mi : Nat} (hx : p.tables.exec = Jvm.exec) (hb : c.code = cL_does) (hr : meth.sig.returnType = some .boolean) (hlocks : meth.locks = false) (hml : c.maxLocals = 8) (hown : s.vm.findClass RL = some m.cls) (hts : ∀ w ∈ wsL_does, w.before args s = true) (hE : LE D cI cZ cO A e0 z mi s) (hAz : ∀ q, z ≤ q → A q) (hne : ¬ A e0) {F : Nat → Nat → Int32} {ik kp tu : Nat → Int32} {n : Nat} (hokL : okL F ik kp tu n) {v w e9 f : Nat} (hv : v < 2 ^ 31) (hw : w < 2 ^ 31) (he9 : e9 < 55) (hf : f < n) {H : Heap} {locs : List Loc} (hC : CX D cI cO A x0 e0 F ik kp tu n H) (hS : va_S A s.heap H locs) {ls : Array Slot} (hl : lv_has ls 8 [(4, .int (nI f)), (0, .ref x0), (1, .int (nI v)), (2, .int (nI w)), (3, .int (nI e9))]) : W p l e (headSpec wsL_does ({ frames := 9, cells := 4, slots := 40, locals := 310 })).room s m args below meth c H locs (0) (0) (MQ below (va_Qi (fun (r : Int32) (_ : Unit) => r = 1) (fun _ t => OX D cI cO A x0 e0 t.heap) A) args s 4 40 A) (F0 m 243 ls []) := by
  have hok := hokL.1
  have hn20 := hok.1.2.1.2
  have hww := hw
  generalize hQ : MQ below (va_Qi (fun (r : Int32) (_ : Unit) => r = 1) (fun _ t => OX D cI cO A x0 e0 t.heap) A) args s 4 40 A = Q
  have hp8 : w % 8 < 8 := by omega
  refine lv_aload_n hx hb dL_does_243 rfl (lv_at hl 1 rfl) ?_
  refine lv_iload hx hb dL_does_244 (lv_at hl 0 rfl) ?_
  refine lv_iload_n hx hb dL_does_246 rfl (lv_at hl 3 rfl) ?_
  refine lv_bipush (v := 8) hx hb dL_does_247 (by decide) ?_
  refine top_eq (y := nI 8) (rfl) ?_
  refine irem_n (x := w) (y := 8) (by omega) (by omega) (by omega) hx hb dL_does_249 ?_
  refine va_calli (va_runV (As := [.int (nI f), .int (nI (w % 8))]) (rest := []) ⟨hx, hb, hml, hown, hts⟩ (xc_setOwner l D cI cZ cO (F := F) (ik := ik) (kp := kp) (tu := tu) (n := n) (A := A) (x0 := x0) (e0 := e0) (z := z) (mi := mi) hok f (w % 8) hf hp8) (cwV 2 hts gL_does_X4_setOwner rfl rfl rfl (by decide +kernel) ⟨Nat.le_of_ble_eq_true rfl, Nat.le_of_ble_eq_true rfl⟩) ⟨LW.blind, hC.recv hE.1, fun U hU hW => ⟨rfl, LW.mk2 hE hS hC U hU hW⟩⟩ rfl rfl hl.1 rfl (lv_room (Nat.le_of_ble_eq_true rfl)) dL_does_250 ⟨Nat.le_of_ble_eq_true rfl, Nat.le_of_ble_eq_true rfl⟩) hS (fun q _ h => h) (fun q h => h) (fun r u t H locs ht hvm hw hC hz1 hk1 hS => ?_)
  rw [ht] at hC
  subst hw
  have hC : CX D cI cO A x0 e0 (va_up F 4 (upd (F 4) (f) (nI (w % 8)))) ik kp tu n H := hC
  have hL1 : okL (va_up F 4 (upd (F 4) (f) (nI (w % 8)))) ik kp tu n := hokL.set4 hp8
  have hok1 := hL1.1
  refine lv_istore (lv' := [(6, .int (F 4 f)), (4, .int (nI f)), (0, .ref x0), (1, .int (nI v)), (2, .int (nI w)), (3, .int (nI e9))]) hx hb dL_does_253 hl (by decide) rfl (fun ls hl => ?_)
  refine lv_aload_n hx hb dL_does_255 rfl (lv_at hl 2 rfl) ?_
  refine lv_iload hx hb dL_does_256 (lv_at hl 1 rfl) ?_
  refine lv_iload_n hx hb dL_does_258 rfl (lv_at hl 4 rfl) ?_
  refine lv_bipush (v := 8) hx hb dL_does_259 (by decide) ?_
  refine top_eq (y := nI 8) (rfl) ?_
  refine irem_n (x := w) (y := 8) (by omega) (by omega) (by omega) hx hb dL_does_261 ?_
  refine va_calli (va_runV (As := [.int (nI f), .int (nI (w % 8))]) (rest := []) ⟨hx, hb, hml, hown, hts⟩ (xc_setOwner l D cI cZ cO (F := (va_up F 4 (upd (F 4) (f) (nI (w % 8))))) (ik := ik) (kp := kp) (tu := tu) (n := n) (A := A) (x0 := x0) (e0 := e0) (z := z) (mi := mi) hok1 f (w % 8) hf hp8) (cwV 2 hts gL_does_X4_setOwner rfl rfl rfl (by decide +kernel) ⟨Nat.le_of_ble_eq_true rfl, Nat.le_of_ble_eq_true rfl⟩) ⟨LW.blind, hC.recv hE.1, fun U hU hW => ⟨rfl, LW.mk2 hE hS hC U hU hW⟩⟩ rfl rfl hl.1 rfl (lv_room (Nat.le_of_ble_eq_true rfl)) dL_does_262 ⟨Nat.le_of_ble_eq_true rfl, Nat.le_of_ble_eq_true rfl⟩) hS (fun q _ h => h) (fun q h => h) (fun r u t H locs ht hvm hw hC hz1 hk1 hS => ?_)
  rw [ht] at hC
  subst hw
  have hC : CX D cI cO A x0 e0 (va_up (va_up F 4 (upd (F 4) (f) (nI (w % 8)))) 4 (upd ((va_up F 4 (upd (F 4) (f) (nI (w % 8)))) 4) (f) (nI (w % 8)))) ik kp tu n H := hC
  have hL2 : okL (va_up (va_up F 4 (upd (F 4) (f) (nI (w % 8)))) 4 (upd ((va_up F 4 (upd (F 4) (f) (nI (w % 8)))) 4) (f) (nI (w % 8)))) ik kp tu n := hL1.set4 hp8
  have hok2 := hL2.1
  refine top_eq (y := nI (w % 8)) (own_again) ?_
  refine lv_iload_n hx hb dL_does_265 rfl (lv_at hl 4 rfl) ?_
  refine lv_bipush (v := 8) hx hb dL_does_266 (by decide) ?_
  refine top_eq (y := nI 8) (rfl) ?_
  refine irem_n (x := w) (y := 8) (by omega) (by omega) (by omega) hx hb dL_does_268 ?_
  refine lv_icmp_ne (tgt := 296) hx hb dL_does_269 (by decide) (fun c_269 => absurd (rfl) c_269) (fun c_269 => ?_)
  refine lv_aload_n hx hb dL_does_272 rfl (lv_at hl 2 rfl) ?_
  refine lv_iload_n hx hb dL_does_273 rfl (lv_at hl 4 rfl) ?_
  refine lv_bipush (v := 8) hx hb dL_does_274 (by decide) ?_
  refine top_eq (y := nI 8) (rfl) ?_
  refine irem_n (x := w) (y := 8) (by omega) (by omega) (by omega) hx hb dL_does_276 ?_
  refine lv_iload hx hb dL_does_277 (lv_at hl 1 rfl) ?_
  refine va_calli (va_runV (As := [.int (nI (w % 8)), .int (nI f)]) (rest := []) ⟨hx, hb, hml, hown, hts⟩ (xc_rights l D cI cZ cO (F := (va_up (va_up F 4 (upd (F 4) (f) (nI (w % 8)))) 4 (upd ((va_up F 4 (upd (F 4) (f) (nI (w % 8)))) 4) (f) (nI (w % 8))))) (ik := ik) (kp := kp) (tu := tu) (n := n) (A := A) (x0 := x0) (e0 := e0) (z := z) (mi := mi) hok2 (w % 8) f hp8 hf) (cwV 2 hts gL_does_X4_rights rfl rfl rfl (by decide +kernel) ⟨Nat.le_of_ble_eq_true rfl, Nat.le_of_ble_eq_true rfl⟩) ⟨LW.blind, hC.recv hE.1, fun U hU hW => ⟨rfl, LW.mk2 hE hS hC U hU hW⟩⟩ rfl rfl hl.1 rfl (lv_room (Nat.le_of_ble_eq_true rfl)) dL_does_279 ⟨Nat.le_of_ble_eq_true rfl, Nat.le_of_ble_eq_true rfl⟩) hS (fun q _ h => h) (fun q h => h) (fun r u t H locs ht hvm hw hC hz1 hk1 hS => ?_)
  rw [ht] at hC
  subst hw
  refine lv_bipush (v := 7) hx hb dL_does_282 (by decide) ?_
  refine lv_icmp_ne (tgt := 296) hx hb dL_does_284 (by decide) (fun c_284 => absurd (rights_7 own_again) c_284) (fun c_284 => ?_)
  refine lv_iload hx hb dL_does_287 (lv_at hl 0 rfl) ?_
  refine lv_if_lt (tgt := 296) hx hb dL_does_289 (by decide) (fun c_289 => absurd c_289 (own_no hok hf)) (fun c_289 => ?_)
  refine lv_iconst (v := 1) hx hb dL_does_292 (by decide) ?_
  refine lv_goto (tgt := 297) hx hb dL_does_293 (by decide) ?_
  subst hQ
  refine W.widen (k := 4) (n := 40) (Nat.le_of_ble_eq_true rfl) (Nat.le_of_ble_eq_true rfl) ?_
  exact W.zret (v := 1) hx hb hr (by exact nar_b2i true) (fun t ht hW => ⟨⟨_, (), rfl, rfl, (show OX D cI cO A x0 e0 t.heap from by rw [ht]; exact ⟨_, _, _, _, _, hL2, hC⟩)⟩, hS.F ht⟩) hS.2.2 dL_does_297

set_option maxHeartbeats 1600000 in
set_option maxRecDepth 100000 in
theorem ld_5 {p : Program} {l : Launch} {e : Env} {s : State} {m : MethodId} {args : Array Value} {below : List Frame} {meth : Method} {c : Code} {D : va_G} {cI cZ cO : ClassId} {A : Nat → Prop} {x0 e0 z mi : Nat} (hx : p.tables.exec = Jvm.exec) (hb : c.code = cL_does) (hr : meth.sig.returnType = some .boolean) (hlocks : meth.locks = false) (hml : c.maxLocals = 8) (hown : s.vm.findClass RL = some m.cls) (hts : ∀ w ∈ wsL_does, w.before args s = true) (hE : LE D cI cZ cO A e0 z mi s) (hAz : ∀ q, z ≤ q → A q) (hne : ¬ A e0) {F : Nat → Nat → Int32} {ik kp tu : Nat → Int32} {n : Nat} (hokL : okL F ik kp tu n) {v w e9 f : Nat} (hv : v < 2 ^ 31) (hw : w < 2 ^ 31) (he9 : e9 < 55) (hf : f < n) {H : Heap} {locs : List Loc} (hC : CX D cI cO A x0 e0 F ik kp tu n H) (hS : va_S A s.heap H locs) {ls : Array Slot} (hl : lv_has ls 8 [(4, .int (nI f)), (0, .ref x0), (1, .int (nI v)), (2, .int (nI w)), (3, .int (nI e9))]) : W p l e (headSpec wsL_does ({ frames := 9, cells := 4, slots := 40, locals := 310 })).room s m args below meth c H locs (0) (0) (MQ below (va_Qi (fun (r : Int32) (_ : Unit) => r = 1) (fun _ t => OX D cI cO A x0 e0 t.heap) A) args s 4 40 A) (F0 m 298 ls []) := by
  have hok := hokL.1
  have hn20 := hok.1.2.1.2
  have hww := hw
  generalize hQ : MQ below (va_Qi (fun (r : Int32) (_ : Unit) => r = 1) (fun _ t => OX D cI cO A x0 e0 t.heap) A) args s 4 40 A = Q
  by_cases h0 : nI (w % 3) ≤ 0
  ·
    refine lv_aload_n hx hb dL_does_298 rfl (lv_at hl 1 rfl) ?_
    refine lv_iload hx hb dL_does_299 (lv_at hl 0 rfl) ?_
    refine lv_iload_n hx hb dL_does_301 rfl (lv_at hl 3 rfl) ?_
    refine lv_iconst (v := 3) hx hb dL_does_302 (by decide) ?_
    refine top_eq (y := nI 3) (rfl) ?_
    refine irem_n (x := w) (y := 3) (by omega) (by omega) (by omega) hx hb dL_does_303 ?_
    refine lv_if_le (tgt := 311) hx hb dL_does_304 (by decide) (fun c_304 => ?_) (fun c_304 => absurd (h0) c_304)
    refine lv_iconst (v := 0) hx hb dL_does_311 (by decide) ?_
    refine top_eq (y := b2i false) (rfl) ?_
    refine va_calli (va_runV (As := [.int (nI f), .int (b2i false)]) (rest := []) ⟨hx, hb, hml, hown, hts⟩ (xc_setInherits l D cI cZ cO (F := F) (ik := ik) (kp := kp) (tu := tu) (n := n) (A := A) (x0 := x0) (e0 := e0) (z := z) (mi := mi) hok f false hf) (cwV 2 hts gL_does_X4_setInherits rfl rfl rfl (by decide +kernel) ⟨Nat.le_of_ble_eq_true rfl, Nat.le_of_ble_eq_true rfl⟩) ⟨LW.blind, hC.recv hE.1, fun U hU hW => ⟨rfl, LW.mk2 hE hS hC U hU hW⟩⟩ rfl rfl hl.1 rfl (lv_room (Nat.le_of_ble_eq_true rfl)) dL_does_312 ⟨Nat.le_of_ble_eq_true rfl, Nat.le_of_ble_eq_true rfl⟩) hS (fun q _ h => h) (fun q h => h) (fun r u t H locs ht hvm hw hC hz1 hk1 hS => ?_)
    rw [ht] at hC
    subst hw
    have hC : CX D cI cO A x0 e0 (va_up F 5 (upd (F 5) (f) (b2i false))) ik kp tu n H := hC
    refine lv_pop hx hb dL_does_315 rfl ?_
    have hL1 : okL (va_up F 5 (upd (F 5) (f) (b2i false))) ik kp tu n := hokL.set5 _
    have hok1 := hL1.1
    refine lv_aload_n hx hb dL_does_316 rfl (lv_at hl 1 rfl) ?_
    refine lv_iload hx hb dL_does_317 (lv_at hl 0 rfl) ?_
    refine lv_iload_n hx hb dL_does_319 rfl (lv_at hl 3 rfl) ?_
    refine lv_iconst (v := 3) hx hb dL_does_320 (by decide) ?_
    refine top_eq (y := nI 3) (rfl) ?_
    refine irem_n (x := w) (y := 3) (by omega) (by omega) (by omega) hx hb dL_does_321 ?_
    refine lv_if_le (tgt := 329) hx hb dL_does_322 (by decide) (fun c_322 => ?_) (fun c_322 => absurd (h0) c_322)
    refine lv_iconst (v := 0) hx hb dL_does_329 (by decide) ?_
    refine top_eq (y := b2i false) (rfl) ?_
    refine va_calli (va_runV (As := [.int (nI f), .int (b2i false)]) (rest := []) ⟨hx, hb, hml, hown, hts⟩ (xc_setInherits l D cI cZ cO (F := (va_up F 5 (upd (F 5) (f) (b2i false)))) (ik := ik) (kp := kp) (tu := tu) (n := n) (A := A) (x0 := x0) (e0 := e0) (z := z) (mi := mi) hok1 f false hf) (cwV 2 hts gL_does_X4_setInherits rfl rfl rfl (by decide +kernel) ⟨Nat.le_of_ble_eq_true rfl, Nat.le_of_ble_eq_true rfl⟩) ⟨LW.blind, hC.recv hE.1, fun U hU hW => ⟨rfl, LW.mk2 hE hS hC U hU hW⟩⟩ rfl rfl hl.1 rfl (lv_room (Nat.le_of_ble_eq_true rfl)) dL_does_330 ⟨Nat.le_of_ble_eq_true rfl, Nat.le_of_ble_eq_true rfl⟩) hS (fun q _ h => h) (fun q h => h) (fun r u t H locs ht hvm hw hC hz1 hk1 hS => ?_)
    rw [ht] at hC
    subst hw
    have hC : CX D cI cO A x0 e0 (va_up (va_up F 5 (upd (F 5) (f) (b2i false))) 5 (upd ((va_up F 5 (upd (F 5) (f) (b2i false))) 5) (f) (b2i false))) ik kp tu n H := hC
    have hL2 : okL (va_up (va_up F 5 (upd (F 5) (f) (b2i false))) 5 (upd ((va_up F 5 (upd (F 5) (f) (b2i false))) 5) (f) (b2i false))) ik kp tu n := hL1.set5 _
    refine top_eq (y := b2i false) (by rw [inh_again]) ?_
    refine lv_iload_n hx hb dL_does_333 rfl (lv_at hl 3 rfl) ?_
    refine lv_iconst (v := 3) hx hb dL_does_334 (by decide) ?_
    refine top_eq (y := nI 3) (rfl) ?_
    refine irem_n (x := w) (y := 3) (by omega) (by omega) (by omega) hx hb dL_does_335 ?_
    refine lv_if_le (tgt := 343) hx hb dL_does_336 (by decide) (fun c_336 => ?_) (fun c_336 => absurd (h0) c_336)
    refine lv_iconst (v := 0) hx hb dL_does_343 (by decide) ?_
    refine top_eq (y := b2i false) (rfl) ?_
    refine lv_icmp_ne (tgt := 351) hx hb dL_does_344 (by decide) (fun c_344 => absurd (rfl) c_344) (fun c_344 => ?_)
    refine lv_iconst (v := 1) hx hb dL_does_347 (by decide) ?_
    refine lv_goto (tgt := 352) hx hb dL_does_348 (by decide) ?_
    subst hQ
    refine W.widen (k := 4) (n := 40) (Nat.le_of_ble_eq_true rfl) (Nat.le_of_ble_eq_true rfl) ?_
    exact W.zret (v := 1) hx hb hr (by exact nar_b2i true) (fun t ht hW => ⟨⟨_, (), rfl, rfl, (show OX D cI cO A x0 e0 t.heap from by rw [ht]; exact ⟨_, _, _, _, _, hL2, hC⟩)⟩, hS.F ht⟩) hS.2.2 dL_does_352
  ·
    refine lv_aload_n hx hb dL_does_298 rfl (lv_at hl 1 rfl) ?_
    refine lv_iload hx hb dL_does_299 (lv_at hl 0 rfl) ?_
    refine lv_iload_n hx hb dL_does_301 rfl (lv_at hl 3 rfl) ?_
    refine lv_iconst (v := 3) hx hb dL_does_302 (by decide) ?_
    refine top_eq (y := nI 3) (rfl) ?_
    refine irem_n (x := w) (y := 3) (by omega) (by omega) (by omega) hx hb dL_does_303 ?_
    refine lv_if_le (tgt := 311) hx hb dL_does_304 (by decide) (fun c_304 => absurd c_304 (h0)) (fun c_304 => ?_)
    refine lv_iconst (v := 1) hx hb dL_does_307 (by decide) ?_
    refine top_eq (y := b2i true) (rfl) ?_
    refine lv_goto (tgt := 312) hx hb dL_does_308 (by decide) ?_
    refine va_calli (va_runV (As := [.int (nI f), .int (b2i true)]) (rest := []) ⟨hx, hb, hml, hown, hts⟩ (xc_setInherits l D cI cZ cO (F := F) (ik := ik) (kp := kp) (tu := tu) (n := n) (A := A) (x0 := x0) (e0 := e0) (z := z) (mi := mi) hok f true hf) (cwV 2 hts gL_does_X4_setInherits rfl rfl rfl (by decide +kernel) ⟨Nat.le_of_ble_eq_true rfl, Nat.le_of_ble_eq_true rfl⟩) ⟨LW.blind, hC.recv hE.1, fun U hU hW => ⟨rfl, LW.mk2 hE hS hC U hU hW⟩⟩ rfl rfl hl.1 rfl (lv_room (Nat.le_of_ble_eq_true rfl)) dL_does_312 ⟨Nat.le_of_ble_eq_true rfl, Nat.le_of_ble_eq_true rfl⟩) hS (fun q _ h => h) (fun q h => h) (fun r u t H locs ht hvm hw hC hz1 hk1 hS => ?_)
    rw [ht] at hC
    subst hw
    have hC : CX D cI cO A x0 e0 (va_up F 5 (upd (F 5) (f) (b2i true))) ik kp tu n H := hC
    refine lv_pop hx hb dL_does_315 rfl ?_
    have hL1 : okL (va_up F 5 (upd (F 5) (f) (b2i true))) ik kp tu n := hokL.set5 _
    have hok1 := hL1.1
    refine lv_aload_n hx hb dL_does_316 rfl (lv_at hl 1 rfl) ?_
    refine lv_iload hx hb dL_does_317 (lv_at hl 0 rfl) ?_
    refine lv_iload_n hx hb dL_does_319 rfl (lv_at hl 3 rfl) ?_
    refine lv_iconst (v := 3) hx hb dL_does_320 (by decide) ?_
    refine top_eq (y := nI 3) (rfl) ?_
    refine irem_n (x := w) (y := 3) (by omega) (by omega) (by omega) hx hb dL_does_321 ?_
    refine lv_if_le (tgt := 329) hx hb dL_does_322 (by decide) (fun c_322 => absurd c_322 (h0)) (fun c_322 => ?_)
    refine lv_iconst (v := 1) hx hb dL_does_325 (by decide) ?_
    refine top_eq (y := b2i true) (rfl) ?_
    refine lv_goto (tgt := 330) hx hb dL_does_326 (by decide) ?_
    refine va_calli (va_runV (As := [.int (nI f), .int (b2i true)]) (rest := []) ⟨hx, hb, hml, hown, hts⟩ (xc_setInherits l D cI cZ cO (F := (va_up F 5 (upd (F 5) (f) (b2i true)))) (ik := ik) (kp := kp) (tu := tu) (n := n) (A := A) (x0 := x0) (e0 := e0) (z := z) (mi := mi) hok1 f true hf) (cwV 2 hts gL_does_X4_setInherits rfl rfl rfl (by decide +kernel) ⟨Nat.le_of_ble_eq_true rfl, Nat.le_of_ble_eq_true rfl⟩) ⟨LW.blind, hC.recv hE.1, fun U hU hW => ⟨rfl, LW.mk2 hE hS hC U hU hW⟩⟩ rfl rfl hl.1 rfl (lv_room (Nat.le_of_ble_eq_true rfl)) dL_does_330 ⟨Nat.le_of_ble_eq_true rfl, Nat.le_of_ble_eq_true rfl⟩) hS (fun q _ h => h) (fun q h => h) (fun r u t H locs ht hvm hw hC hz1 hk1 hS => ?_)
    rw [ht] at hC
    subst hw
    have hC : CX D cI cO A x0 e0 (va_up (va_up F 5 (upd (F 5) (f) (b2i true))) 5 (upd ((va_up F 5 (upd (F 5) (f) (b2i true))) 5) (f) (b2i true))) ik kp tu n H := hC
    have hL2 : okL (va_up (va_up F 5 (upd (F 5) (f) (b2i true))) 5 (upd ((va_up F 5 (upd (F 5) (f) (b2i true))) 5) (f) (b2i true))) ik kp tu n := hL1.set5 _
    refine top_eq (y := b2i true) (by rw [inh_again]) ?_
    refine lv_iload_n hx hb dL_does_333 rfl (lv_at hl 3 rfl) ?_
    refine lv_iconst (v := 3) hx hb dL_does_334 (by decide) ?_
    refine top_eq (y := nI 3) (rfl) ?_
    refine irem_n (x := w) (y := 3) (by omega) (by omega) (by omega) hx hb dL_does_335 ?_
    refine lv_if_le (tgt := 343) hx hb dL_does_336 (by decide) (fun c_336 => absurd c_336 (h0)) (fun c_336 => ?_)
    refine lv_iconst (v := 1) hx hb dL_does_339 (by decide) ?_
    refine top_eq (y := b2i true) (rfl) ?_
    refine lv_goto (tgt := 344) hx hb dL_does_340 (by decide) ?_
    refine lv_icmp_ne (tgt := 351) hx hb dL_does_344 (by decide) (fun c_344 => absurd (rfl) c_344) (fun c_344 => ?_)
    refine lv_iconst (v := 1) hx hb dL_does_347 (by decide) ?_
    refine lv_goto (tgt := 352) hx hb dL_does_348 (by decide) ?_
    subst hQ
    refine W.widen (k := 4) (n := 40) (Nat.le_of_ble_eq_true rfl) (Nat.le_of_ble_eq_true rfl) ?_
    exact W.zret (v := 1) hx hb hr (by exact nar_b2i true) (fun t ht hW => ⟨⟨_, (), rfl, rfl, (show OX D cI cO A x0 e0 t.heap from by rw [ht]; exact ⟨_, _, _, _, _, hL2, hC⟩)⟩, hS.F ht⟩) hS.2.2 dL_does_352

set_option maxHeartbeats 1600000 in
set_option maxRecDepth 100000 in
theorem ld_6 {p : Program} {l : Launch} {e : Env} {s : State} {m : MethodId} {args : Array Value} {below : List Frame} {meth : Method} {c : Code} {D : va_G} {cI cZ cO : ClassId} {A : Nat → Prop} {x0 e0 z mi : Nat} (hx : p.tables.exec = Jvm.exec) (hb : c.code = cL_does) (hr : meth.sig.returnType = some .boolean) (hlocks : meth.locks = false) (hml : c.maxLocals = 8) (hown : s.vm.findClass RL = some m.cls) (hts : ∀ w ∈ wsL_does, w.before args s = true) (hE : LE D cI cZ cO A e0 z mi s) (hAz : ∀ q, z ≤ q → A q) (hne : ¬ A e0) {F : Nat → Nat → Int32} {ik kp tu : Nat → Int32} {n : Nat} (hokL : okL F ik kp tu n) {v w e9 f : Nat} (hv : v < 2 ^ 31) (hw : w < 2 ^ 31) (he9 : e9 < 55) (hf : f < n) {H : Heap} {locs : List Loc} (hC : CX D cI cO A x0 e0 F ik kp tu n H) (hS : va_S A s.heap H locs) {ls : Array Slot} (hl : lv_has ls 8 [(4, .int (nI f)), (0, .ref x0), (1, .int (nI v)), (2, .int (nI w)), (3, .int (nI e9))]) : W p l e (headSpec wsL_does ({ frames := 9, cells := 4, slots := 40, locals := 310 })).room s m args below meth c H locs (0) (0) (MQ below (va_Qi (fun (r : Int32) (_ : Unit) => r = 1) (fun _ t => OX D cI cO A x0 e0 t.heap) A) args s 4 40 A) (F0 m 353 ls []) := by
  have hok := hokL.1
  have hn20 := hok.1.2.1.2
  have hww := hw
  generalize hQ : MQ below (va_Qi (fun (r : Int32) (_ : Unit) => r = 1) (fun _ t => OX D cI cO A x0 e0 t.heap) A) args s 4 40 A = Q
  refine lv_iload_n hx hb dL_does_353 rfl (lv_at hl 4 rfl) ?_
  refine lv_iconst (v := 5) hx hb dL_does_354 (by decide) ?_
  refine top_eq (y := nI 5) (rfl) ?_
  refine irem_n (x := e9) (y := 5) (by omega) (by omega) (by omega) hx hb dL_does_355 ?_
  refine lv_if_gt (tgt := 368) hx hb dL_does_356 (by decide) (fun _ => ?_) (fun _ => ?_)
  ·
    refine lv_iconst (v := 1) hx hb dL_does_368 (by decide) ?_
    refine lv_goto (tgt := 373) hx hb dL_does_369 (by decide) ?_
    subst hQ
    refine W.widen (k := 4) (n := 40) (Nat.le_of_ble_eq_true rfl) (Nat.le_of_ble_eq_true rfl) ?_
    exact W.zret (v := 1) hx hb hr (by exact nar_b2i true) (fun t ht hW => ⟨⟨_, (), rfl, rfl, (show OX D cI cO A x0 e0 t.heap from by rw [ht]; exact ⟨_, _, _, _, _, hokL, hC⟩)⟩, hS.F ht⟩) hS.2.2 dL_does_373
  ·
    refine lv_aload_n hx hb dL_does_359 rfl (lv_at hl 1 rfl) ?_
    refine lv_iload hx hb dL_does_360 (lv_at hl 0 rfl) ?_
    refine va_calli (va_runS (As := [.ref x0, .int (nI f)]) (rest := []) ⟨hx, hb, hml, hown, hts⟩ (kl_isPassed l D cI cZ cO (A := A) (x0 := x0) (e0 := e0) (z := z) (mi := mi) hokL f hf) (va_cwS 2 hts gL_does_L_isPassed rfl rfl rfl (by decide +kernel) ⟨Nat.le_of_ble_eq_true rfl, Nat.le_of_ble_eq_true rfl⟩) ⟨LW.blind, fun U hU hW => ⟨rfl, LW.mk2 hE hS hC U hU hW⟩⟩ rfl rfl hl.1 rfl (lv_room (Nat.le_of_ble_eq_true rfl)) dL_does_362 ⟨Nat.le_of_ble_eq_true rfl, Nat.le_of_ble_eq_true rfl⟩) hS (fun q _ h => h) (fun q h => h) (fun r u t H locs ht hvm hw hC hz1 hk1 hS => ?_)
    rw [ht] at hC
    subst hw
    obtain ⟨F1, ik1, kp1, tu1, n1, hL1, hC⟩ := hC
    refine lv_if_eq (tgt := 372) hx hb dL_does_365 (by decide) (fun c_365 => absurd c_365 (by decide)) (fun c_365 => ?_)
    refine lv_iconst (v := 1) hx hb dL_does_368 (by decide) ?_
    refine lv_goto (tgt := 373) hx hb dL_does_369 (by decide) ?_
    subst hQ
    refine W.widen (k := 4) (n := 40) (Nat.le_of_ble_eq_true rfl) (Nat.le_of_ble_eq_true rfl) ?_
    exact W.zret (v := 1) hx hb hr (by exact nar_b2i true) (fun t ht hW => ⟨⟨_, (), rfl, rfl, (show OX D cI cO A x0 e0 t.heap from by rw [ht]; exact ⟨_, _, _, _, _, hL1, hC⟩)⟩, hS.F ht⟩) hS.2.2 dL_does_373
