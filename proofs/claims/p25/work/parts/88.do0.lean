set_option maxHeartbeats 1600000 in
set_option maxRecDepth 100000 in
theorem ld_0 {p : Program} {l : Launch} {e : Env} {s : State} {m : MethodId} {args : Array Value} {below : List Frame} {meth : Method} {c : Code} {D : va_G} {cI cZ cO : ClassId} {A : Nat → Prop} {x0 e0 z mi : Nat} (hx : p.tables.exec = Jvm.exec) (hb : c.code = cL_does) (hr : meth.sig.returnType = some .boolean) (hlocks : meth.locks = false) (hml : c.maxLocals = 8) (hown : s.vm.findClass RL = some m.cls) (hts : ∀ w ∈ wsL_does, w.before args s = true) (hE : LE D cI cZ cO A e0 z mi s) (hAz : ∀ q, z ≤ q → A q) (hne : ¬ A e0) {F : Nat → Nat → Int32} {ik kp tu : Nat → Int32} {n : Nat} (hokL : okL F ik kp tu n) {v w e9 f : Nat} (hv : v < 2 ^ 31) (hw : w < 2 ^ 31) (he9 : e9 < 55) (hf : f < n) {H : Heap} {locs : List Loc} (hC : CX D cI cO A x0 e0 F ik kp tu n H) (hS : va_S A s.heap H locs) {ls : Array Slot} (hl : lv_has ls 8 [(4, .int (nI f)), (0, .ref x0), (1, .int (nI v)), (2, .int (nI w)), (3, .int (nI e9))]) : W p l e (headSpec wsL_does ({ frames := 9, cells := 4, slots := 40, locals := 310 })).room s m args below meth c H locs (0) (0) (MQ below (va_Qi (fun (r : Int32) (_ : Unit) => r = 1) (fun _ t => OX D cI cO A x0 e0 t.heap) A) args s 4 40 A) (F0 m 56 ls []) := by
  have hok := hokL.1
  have hn20 := hok.1.2.1.2
  have hww := hw
  generalize hQ : MQ below (va_Qi (fun (r : Int32) (_ : Unit) => r = 1) (fun _ t => OX D cI cO A x0 e0 t.heap) A) args s 4 40 A = Q
  refine lv_aload_n hx hb dL_does_56 rfl (lv_at hl 1 rfl) ?_
  refine va_calli (va_runV (As := []) (rest := []) ⟨hx, hb, hml, hown, hts⟩ (xc_folders l D cI cZ cO (F := F) (ik := ik) (kp := kp) (tu := tu) (n := n) (A := A) (x0 := x0) (e0 := e0) (z := z) (mi := mi) hok  ) (cwV 0 hts gL_does_X4_folders rfl rfl rfl (by decide +kernel) ⟨Nat.le_of_ble_eq_true rfl, Nat.le_of_ble_eq_true rfl⟩) ⟨LW.blind, hC.recv hE.1, fun U hU hW => ⟨rfl, LW.mk2 hE hS hC U hU hW⟩⟩ rfl rfl hl.1 rfl (lv_room (Nat.le_of_ble_eq_true rfl)) dL_does_57 ⟨Nat.le_of_ble_eq_true rfl, Nat.le_of_ble_eq_true rfl⟩) hS (fun q _ h => h) (fun q h => h) (fun r u t H locs ht hvm hw hC hz1 hk1 hS => ?_)
  rw [ht] at hC
  subst hw
  refine lv_bipush (v := 20) hx hb dL_does_60 (by decide) ?_
  refine lv_icmp_eq (tgt := 84) hx hb dL_does_62 (by decide) (fun _ => ?_) (fun c_62 => ?_)
  ·
    refine lv_iconst (v := 1) hx hb dL_does_84 (by decide) ?_
    refine lv_goto (tgt := 89) hx hb dL_does_85 (by decide) ?_
    subst hQ
    refine W.widen (k := 4) (n := 40) (Nat.le_of_ble_eq_true rfl) (Nat.le_of_ble_eq_true rfl) ?_
    exact W.zret (v := 1) hx hb hr (by exact nar_b2i true) (fun t ht hW => ⟨⟨_, (), rfl, rfl, (show OX D cI cO A x0 e0 t.heap from by rw [ht]; exact ⟨_, _, _, _, _, hokL, hC⟩)⟩, hS.F ht⟩) hS.2.2 dL_does_89
  ·
    have h20 : n < 20 := by
      rcases Nat.lt_or_ge n 20 with h | h
      · exact h
      · exact absurd (by rw [show n = 20 by omega]; rfl) c_62
    have hw8 : w % 8 < 8 := by omega
    refine lv_aload_n hx hb dL_does_65 rfl (lv_at hl 1 rfl) ?_
    refine lv_iload hx hb dL_does_66 (lv_at hl 0 rfl) ?_
    refine lv_iload_n hx hb dL_does_68 rfl (lv_at hl 3 rfl) ?_
    refine lv_bipush (v := 8) hx hb dL_does_69 (by decide) ?_
    refine top_eq (y := nI 8) (rfl) ?_
    refine irem_n (x := w) (y := 8) (by omega) (by omega) (by omega) hx hb dL_does_71 ?_
    refine va_calli (va_runV (As := [.int (nI f), .int (nI (w % 8))]) (rest := []) ⟨hx, hb, hml, hown, hts⟩ (xc_addFolder l D cI cZ cO (F := F) (ik := ik) (kp := kp) (tu := tu) (n := n) (A := A) (x0 := x0) (e0 := e0) (z := z) (mi := mi) hok f (w % 8) hf hw8 h20 hAz hne) (cwV 2 hts gL_does_X4_addFolder rfl rfl rfl (by decide +kernel) ⟨Nat.le_of_ble_eq_true rfl, Nat.le_of_ble_eq_true rfl⟩) ⟨LW.blind, hC.recv hE.1, fun U hU hW => ⟨rfl, LW.mk2 hE hS hC U hU hW⟩⟩ rfl rfl hl.1 rfl (lv_room (Nat.le_of_ble_eq_true rfl)) dL_does_72 ⟨Nat.le_of_ble_eq_true rfl, Nat.le_of_ble_eq_true rfl⟩) hS (fun q _ h => h) (fun q h => h) (fun r u t H locs ht hvm hw hC hz1 hk1 hS => ?_)
    rw [ht] at hC
    subst hw
    have hC : CX D cI cO A x0 e0 (va_up (va_up (va_up F 3 (upd (F 3) n (nI f))) 4 (upd (F 4) n (nI (w % 8)))) 5 (upd (F 5) n 1)) ik kp tu (n + 1) H := hC
    have hL1 := hokL.add hf hw8 h20
    have hok1 := hL1.1
    refine lv_aload_n hx hb dL_does_75 rfl (lv_at hl 1 rfl) ?_
    refine va_calli (va_runV (As := []) (rest := [.int (nI n)]) ⟨hx, hb, hml, hown, hts⟩ (xc_folders l D cI cZ cO (F := (va_up (va_up (va_up F 3 (upd (F 3) n (nI f))) 4 (upd (F 4) n (nI (w % 8)))) 5 (upd (F 5) n 1))) (ik := ik) (kp := kp) (tu := tu) (n := (n + 1)) (A := A) (x0 := x0) (e0 := e0) (z := z) (mi := mi) hok1  ) (cwV 0 hts gL_does_X4_folders rfl rfl rfl (by decide +kernel) ⟨Nat.le_of_ble_eq_true rfl, Nat.le_of_ble_eq_true rfl⟩) ⟨LW.blind, hC.recv hE.1, fun U hU hW => ⟨rfl, LW.mk2 hE hS hC U hU hW⟩⟩ rfl rfl hl.1 rfl (lv_room (Nat.le_of_ble_eq_true rfl)) dL_does_76 ⟨Nat.le_of_ble_eq_true rfl, Nat.le_of_ble_eq_true rfl⟩) hS (fun q _ h => h) (fun q h => h) (fun r u t H locs ht hvm hw hC hz1 hk1 hS => ?_)
    rw [ht] at hC
    subst hw
    refine lv_iconst (v := 1) hx hb dL_does_79 (by decide) ?_
    refine top_eq (y := nI 1) (rfl) ?_
    refine isub_n (x := n + 1) (y := 1) (by omega) hx hb dL_does_80 ?_
    refine top_eq (y := nI n) (by rw [Nat.add_sub_cancel]) ?_
    refine lv_icmp_ne (tgt := 88) hx hb dL_does_81 (by decide) (fun c_81 => absurd (rfl) c_81) (fun c_81 => ?_)
    refine lv_iconst (v := 1) hx hb dL_does_84 (by decide) ?_
    refine lv_goto (tgt := 89) hx hb dL_does_85 (by decide) ?_
    subst hQ
    refine W.widen (k := 4) (n := 40) (Nat.le_of_ble_eq_true rfl) (Nat.le_of_ble_eq_true rfl) ?_
    exact W.zret (v := 1) hx hb hr (by exact nar_b2i true) (fun t ht hW => ⟨⟨_, (), rfl, rfl, (show OX D cI cO A x0 e0 t.heap from by rw [ht]; exact ⟨_, _, _, _, _, hL1, hC⟩)⟩, hS.F ht⟩) hS.2.2 dL_does_89

set_option maxHeartbeats 1600000 in
set_option maxRecDepth 100000 in
theorem ld_1 {p : Program} {l : Launch} {e : Env} {s : State} {m : MethodId} {args : Array Value} {below : List Frame} {meth : Method} {c : Code} {D : va_G} {cI cZ cO : ClassId} {A : Nat → Prop} {x0 e0 z mi : Nat} (hx : p.tables.exec = Jvm.exec) (hb : c.code = cL_does) (hr : meth.sig.returnType = some .boolean) (hlocks : meth.locks = false) (hml : c.maxLocals = 8) (hown : s.vm.findClass RL = some m.cls) (hts : ∀ w ∈ wsL_does, w.before args s = true) (hE : LE D cI cZ cO A e0 z mi s) (hAz : ∀ q, z ≤ q → A q) (hne : ¬ A e0) {F : Nat → Nat → Int32} {ik kp tu : Nat → Int32} {n : Nat} (hokL : okL F ik kp tu n) {v w e9 f : Nat} (hv : v < 2 ^ 31) (hw : w < 2 ^ 31) (he9 : e9 < 55) (hf : f < n) {H : Heap} {locs : List Loc} (hC : CX D cI cO A x0 e0 F ik kp tu n H) (hS : va_S A s.heap H locs) {ls : Array Slot} (hl : lv_has ls 8 [(4, .int (nI f)), (0, .ref x0), (1, .int (nI v)), (2, .int (nI w)), (3, .int (nI e9))]) : W p l e (headSpec wsL_does ({ frames := 9, cells := 4, slots := 40, locals := 310 })).room s m args below meth c H locs (0) (0) (MQ below (va_Qi (fun (r : Int32) (_ : Unit) => r = 1) (fun _ t => OX D cI cO A x0 e0 t.heap) A) args s 4 40 A) (F0 m 90 ls []) := by
  have hok := hokL.1
  have hn20 := hok.1.2.1.2
  have hww := hw
  generalize hQ : MQ below (va_Qi (fun (r : Int32) (_ : Unit) => r = 1) (fun _ t => OX D cI cO A x0 e0 t.heap) A) args s 4 40 A = Q
  have hg6 : w % 6 < 6 := by omega
  have hp8 : w / 6 % 8 < 8 := by omega
  refine lv_iload_n hx hb dL_does_90 rfl (lv_at hl 3 rfl) ?_
  refine lv_bipush (v := 6) hx hb dL_does_91 (by decide) ?_
  refine top_eq (y := nI 6) (rfl) ?_
  refine irem_n (x := w) (y := 6) (by omega) (by omega) (by omega) hx hb dL_does_93 ?_
  refine lv_istore (lv' := [(5, .int (nI (w % 6))), (4, .int (nI f)), (0, .ref x0), (1, .int (nI v)), (2, .int (nI w)), (3, .int (nI e9))]) hx hb dL_does_94 hl (by decide) rfl (fun ls hl => ?_)
  by_cases h0 : nI (w / 48 % 4) ≤ 0
  ·
    refine lv_aload_n hx hb dL_does_96 rfl (lv_at hl 2 rfl) ?_
    refine lv_iload hx hb dL_does_97 (lv_at hl 0 rfl) ?_
    refine lv_iload_n hx hb dL_does_99 rfl (lv_at hl 4 rfl) ?_
    refine lv_bipush (v := 6) hx hb dL_does_100 (by decide) ?_
    refine top_eq (y := nI 6) (rfl) ?_
    refine idiv_n (x := w) (y := 6) (by omega) (by omega) (by omega) hx hb dL_does_102 ?_
    refine lv_bipush (v := 8) hx hb dL_does_103 (by decide) ?_
    refine top_eq (y := nI 8) (rfl) ?_
    refine irem_n (x := w / 6) (y := 8) (by omega) (by omega) (by omega) hx hb dL_does_105 ?_
    refine lv_iload_n hx hb dL_does_106 rfl (lv_at hl 4 rfl) ?_
    refine lv_bipush (v := 48) hx hb dL_does_107 (by decide) ?_
    refine top_eq (y := nI 48) (rfl) ?_
    refine idiv_n (x := w) (y := 48) (by omega) (by omega) (by omega) hx hb dL_does_109 ?_
    refine lv_iconst (v := 4) hx hb dL_does_110 (by decide) ?_
    refine top_eq (y := nI 4) (rfl) ?_
    refine irem_n (x := w / 48) (y := 4) (by omega) (by omega) (by omega) hx hb dL_does_111 ?_
    refine lv_if_le (tgt := 119) hx hb dL_does_112 (by decide) (fun c_112 => ?_) (fun c_112 => absurd (h0) c_112)
    refine lv_iconst (v := 0) hx hb dL_does_119 (by decide) ?_
    refine top_eq (y := b2i false) (rfl) ?_
    refine va_calli (va_runV (As := [.int (nI (w % 6)), .int (nI ((w / 6) % 8)), .int (b2i false)]) (rest := []) ⟨hx, hb, hml, hown, hts⟩ (xc_setMember l D cI cZ cO (F := F) (ik := ik) (kp := kp) (tu := tu) (n := n) (A := A) (x0 := x0) (e0 := e0) (z := z) (mi := mi) hok (w % 6) ((w / 6) % 8) false hg6 hp8) (cwV 3 hts gL_does_X4_setMember rfl rfl rfl (by decide +kernel) ⟨Nat.le_of_ble_eq_true rfl, Nat.le_of_ble_eq_true rfl⟩) ⟨LW.blind, hC.recv hE.1, fun U hU hW => ⟨rfl, LW.mk2 hE hS hC U hU hW⟩⟩ rfl rfl hl.1 rfl (lv_room (Nat.le_of_ble_eq_true rfl)) dL_does_120 ⟨Nat.le_of_ble_eq_true rfl, Nat.le_of_ble_eq_true rfl⟩) hS (fun q _ h => h) (fun q h => h) (fun r u t H locs ht hvm hw hC hz1 hk1 hS => ?_)
    rw [ht] at hC
    subst hw
    have hC : CX D cI cO A x0 e0 (va_up F 1 (upd (F 1) (w % 6) (if false = true then F 1 (w % 6) ||| ((1 : Int32) <<< (nI (w / 6 % 8) &&& 31)) else F 1 (w % 6) &&& (((1 : Int32) <<< (nI (w / 6 % 8) &&& 31)) ^^^ (-1))))) ik kp tu n H := hC
    refine lv_pop hx hb dL_does_123 rfl ?_
    have hL1 : okL (va_up F 1 (upd (F 1) (w % 6) (if false = true then F 1 (w % 6) ||| ((1 : Int32) <<< (nI (w / 6 % 8) &&& 31)) else F 1 (w % 6) &&& (((1 : Int32) <<< (nI (w / 6 % 8) &&& 31)) ^^^ (-1))))) ik kp tu n := hokL.set1 _
    have hok1 := hL1.1
    refine lv_aload_n hx hb dL_does_124 rfl (lv_at hl 2 rfl) ?_
    refine lv_iload hx hb dL_does_125 (lv_at hl 0 rfl) ?_
    refine lv_iload_n hx hb dL_does_127 rfl (lv_at hl 4 rfl) ?_
    refine lv_bipush (v := 6) hx hb dL_does_128 (by decide) ?_
    refine top_eq (y := nI 6) (rfl) ?_
    refine idiv_n (x := w) (y := 6) (by omega) (by omega) (by omega) hx hb dL_does_130 ?_
    refine lv_bipush (v := 8) hx hb dL_does_131 (by decide) ?_
    refine top_eq (y := nI 8) (rfl) ?_
    refine irem_n (x := w / 6) (y := 8) (by omega) (by omega) (by omega) hx hb dL_does_133 ?_
    refine lv_iload_n hx hb dL_does_134 rfl (lv_at hl 4 rfl) ?_
    refine lv_bipush (v := 48) hx hb dL_does_135 (by decide) ?_
    refine top_eq (y := nI 48) (rfl) ?_
    refine idiv_n (x := w) (y := 48) (by omega) (by omega) (by omega) hx hb dL_does_137 ?_
    refine lv_iconst (v := 4) hx hb dL_does_138 (by decide) ?_
    refine top_eq (y := nI 4) (rfl) ?_
    refine irem_n (x := w / 48) (y := 4) (by omega) (by omega) (by omega) hx hb dL_does_139 ?_
    refine lv_if_le (tgt := 147) hx hb dL_does_140 (by decide) (fun c_140 => ?_) (fun c_140 => absurd (h0) c_140)
    refine lv_iconst (v := 0) hx hb dL_does_147 (by decide) ?_
    refine top_eq (y := b2i false) (rfl) ?_
    refine va_calli (va_runV (As := [.int (nI (w % 6)), .int (nI ((w / 6) % 8)), .int (b2i false)]) (rest := []) ⟨hx, hb, hml, hown, hts⟩ (xc_setMember l D cI cZ cO (F := (va_up F 1 (upd (F 1) (w % 6) (if false = true then F 1 (w % 6) ||| ((1 : Int32) <<< (nI (w / 6 % 8) &&& 31)) else F 1 (w % 6) &&& (((1 : Int32) <<< (nI (w / 6 % 8) &&& 31)) ^^^ (-1)))))) (ik := ik) (kp := kp) (tu := tu) (n := n) (A := A) (x0 := x0) (e0 := e0) (z := z) (mi := mi) hok1 (w % 6) ((w / 6) % 8) false hg6 hp8) (cwV 3 hts gL_does_X4_setMember rfl rfl rfl (by decide +kernel) ⟨Nat.le_of_ble_eq_true rfl, Nat.le_of_ble_eq_true rfl⟩) ⟨LW.blind, hC.recv hE.1, fun U hU hW => ⟨rfl, LW.mk2 hE hS hC U hU hW⟩⟩ rfl rfl hl.1 rfl (lv_room (Nat.le_of_ble_eq_true rfl)) dL_does_148 ⟨Nat.le_of_ble_eq_true rfl, Nat.le_of_ble_eq_true rfl⟩) hS (fun q _ h => h) (fun q h => h) (fun r u t H locs ht hvm hw hC hz1 hk1 hS => ?_)
    rw [ht] at hC
    subst hw
    have hC : CX D cI cO A x0 e0 (va_up (va_up F 1 (upd (F 1) (w % 6) (if false = true then F 1 (w % 6) ||| ((1 : Int32) <<< (nI (w / 6 % 8) &&& 31)) else F 1 (w % 6) &&& (((1 : Int32) <<< (nI (w / 6 % 8) &&& 31)) ^^^ (-1))))) 1 (upd ((va_up F 1 (upd (F 1) (w % 6) (if false = true then F 1 (w % 6) ||| ((1 : Int32) <<< (nI (w / 6 % 8) &&& 31)) else F 1 (w % 6) &&& (((1 : Int32) <<< (nI (w / 6 % 8) &&& 31)) ^^^ (-1))))) 1) (w % 6) (if false = true then (va_up F 1 (upd (F 1) (w % 6) (if false = true then F 1 (w % 6) ||| ((1 : Int32) <<< (nI (w / 6 % 8) &&& 31)) else F 1 (w % 6) &&& (((1 : Int32) <<< (nI (w / 6 % 8) &&& 31)) ^^^ (-1))))) 1 (w % 6) ||| ((1 : Int32) <<< (nI (w / 6 % 8) &&& 31)) else (va_up F 1 (upd (F 1) (w % 6) (if false = true then F 1 (w % 6) ||| ((1 : Int32) <<< (nI (w / 6 % 8) &&& 31)) else F 1 (w % 6) &&& (((1 : Int32) <<< (nI (w / 6 % 8) &&& 31)) ^^^ (-1))))) 1 (w % 6) &&& (((1 : Int32) <<< (nI (w / 6 % 8) &&& 31)) ^^^ (-1))))) ik kp tu n H := hC
    have hL2 : okL (va_up (va_up F 1 (upd (F 1) (w % 6) (if false = true then F 1 (w % 6) ||| ((1 : Int32) <<< (nI (w / 6 % 8) &&& 31)) else F 1 (w % 6) &&& (((1 : Int32) <<< (nI (w / 6 % 8) &&& 31)) ^^^ (-1))))) 1 (upd ((va_up F 1 (upd (F 1) (w % 6) (if false = true then F 1 (w % 6) ||| ((1 : Int32) <<< (nI (w / 6 % 8) &&& 31)) else F 1 (w % 6) &&& (((1 : Int32) <<< (nI (w / 6 % 8) &&& 31)) ^^^ (-1))))) 1) (w % 6) (if false = true then (va_up F 1 (upd (F 1) (w % 6) (if false = true then F 1 (w % 6) ||| ((1 : Int32) <<< (nI (w / 6 % 8) &&& 31)) else F 1 (w % 6) &&& (((1 : Int32) <<< (nI (w / 6 % 8) &&& 31)) ^^^ (-1))))) 1 (w % 6) ||| ((1 : Int32) <<< (nI (w / 6 % 8) &&& 31)) else (va_up F 1 (upd (F 1) (w % 6) (if false = true then F 1 (w % 6) ||| ((1 : Int32) <<< (nI (w / 6 % 8) &&& 31)) else F 1 (w % 6) &&& (((1 : Int32) <<< (nI (w / 6 % 8) &&& 31)) ^^^ (-1))))) 1 (w % 6) &&& (((1 : Int32) <<< (nI (w / 6 % 8) &&& 31)) ^^^ (-1))))) ik kp tu n := hL1.set1 _
    refine top_eq (y := b2i false) (by rw [mem_again hp8]) ?_
    refine lv_iload_n hx hb dL_does_151 rfl (lv_at hl 4 rfl) ?_
    refine lv_bipush (v := 48) hx hb dL_does_152 (by decide) ?_
    refine top_eq (y := nI 48) (rfl) ?_
    refine idiv_n (x := w) (y := 48) (by omega) (by omega) (by omega) hx hb dL_does_154 ?_
    refine lv_iconst (v := 4) hx hb dL_does_155 (by decide) ?_
    refine top_eq (y := nI 4) (rfl) ?_
    refine irem_n (x := w / 48) (y := 4) (by omega) (by omega) (by omega) hx hb dL_does_156 ?_
    refine lv_if_le (tgt := 164) hx hb dL_does_157 (by decide) (fun c_157 => ?_) (fun c_157 => absurd (h0) c_157)
    refine lv_iconst (v := 0) hx hb dL_does_164 (by decide) ?_
    refine top_eq (y := b2i false) (rfl) ?_
    refine lv_icmp_ne (tgt := 172) hx hb dL_does_165 (by decide) (fun c_165 => absurd (rfl) c_165) (fun c_165 => ?_)
    refine lv_iconst (v := 1) hx hb dL_does_168 (by decide) ?_
    refine lv_goto (tgt := 173) hx hb dL_does_169 (by decide) ?_
    subst hQ
    refine W.widen (k := 4) (n := 40) (Nat.le_of_ble_eq_true rfl) (Nat.le_of_ble_eq_true rfl) ?_
    exact W.zret (v := 1) hx hb hr (by exact nar_b2i true) (fun t ht hW => ⟨⟨_, (), rfl, rfl, (show OX D cI cO A x0 e0 t.heap from by rw [ht]; exact ⟨_, _, _, _, _, hL2, hC⟩)⟩, hS.F ht⟩) hS.2.2 dL_does_173
  ·
    refine lv_aload_n hx hb dL_does_96 rfl (lv_at hl 2 rfl) ?_
    refine lv_iload hx hb dL_does_97 (lv_at hl 0 rfl) ?_
    refine lv_iload_n hx hb dL_does_99 rfl (lv_at hl 4 rfl) ?_
    refine lv_bipush (v := 6) hx hb dL_does_100 (by decide) ?_
    refine top_eq (y := nI 6) (rfl) ?_
    refine idiv_n (x := w) (y := 6) (by omega) (by omega) (by omega) hx hb dL_does_102 ?_
    refine lv_bipush (v := 8) hx hb dL_does_103 (by decide) ?_
    refine top_eq (y := nI 8) (rfl) ?_
    refine irem_n (x := w / 6) (y := 8) (by omega) (by omega) (by omega) hx hb dL_does_105 ?_
    refine lv_iload_n hx hb dL_does_106 rfl (lv_at hl 4 rfl) ?_
    refine lv_bipush (v := 48) hx hb dL_does_107 (by decide) ?_
    refine top_eq (y := nI 48) (rfl) ?_
    refine idiv_n (x := w) (y := 48) (by omega) (by omega) (by omega) hx hb dL_does_109 ?_
    refine lv_iconst (v := 4) hx hb dL_does_110 (by decide) ?_
    refine top_eq (y := nI 4) (rfl) ?_
    refine irem_n (x := w / 48) (y := 4) (by omega) (by omega) (by omega) hx hb dL_does_111 ?_
    refine lv_if_le (tgt := 119) hx hb dL_does_112 (by decide) (fun c_112 => absurd c_112 (h0)) (fun c_112 => ?_)
    refine lv_iconst (v := 1) hx hb dL_does_115 (by decide) ?_
    refine top_eq (y := b2i true) (rfl) ?_
    refine lv_goto (tgt := 120) hx hb dL_does_116 (by decide) ?_
    refine va_calli (va_runV (As := [.int (nI (w % 6)), .int (nI ((w / 6) % 8)), .int (b2i true)]) (rest := []) ⟨hx, hb, hml, hown, hts⟩ (xc_setMember l D cI cZ cO (F := F) (ik := ik) (kp := kp) (tu := tu) (n := n) (A := A) (x0 := x0) (e0 := e0) (z := z) (mi := mi) hok (w % 6) ((w / 6) % 8) true hg6 hp8) (cwV 3 hts gL_does_X4_setMember rfl rfl rfl (by decide +kernel) ⟨Nat.le_of_ble_eq_true rfl, Nat.le_of_ble_eq_true rfl⟩) ⟨LW.blind, hC.recv hE.1, fun U hU hW => ⟨rfl, LW.mk2 hE hS hC U hU hW⟩⟩ rfl rfl hl.1 rfl (lv_room (Nat.le_of_ble_eq_true rfl)) dL_does_120 ⟨Nat.le_of_ble_eq_true rfl, Nat.le_of_ble_eq_true rfl⟩) hS (fun q _ h => h) (fun q h => h) (fun r u t H locs ht hvm hw hC hz1 hk1 hS => ?_)
    rw [ht] at hC
    subst hw
    have hC : CX D cI cO A x0 e0 (va_up F 1 (upd (F 1) (w % 6) (if true = true then F 1 (w % 6) ||| ((1 : Int32) <<< (nI (w / 6 % 8) &&& 31)) else F 1 (w % 6) &&& (((1 : Int32) <<< (nI (w / 6 % 8) &&& 31)) ^^^ (-1))))) ik kp tu n H := hC
    refine lv_pop hx hb dL_does_123 rfl ?_
    have hL1 : okL (va_up F 1 (upd (F 1) (w % 6) (if true = true then F 1 (w % 6) ||| ((1 : Int32) <<< (nI (w / 6 % 8) &&& 31)) else F 1 (w % 6) &&& (((1 : Int32) <<< (nI (w / 6 % 8) &&& 31)) ^^^ (-1))))) ik kp tu n := hokL.set1 _
    have hok1 := hL1.1
    refine lv_aload_n hx hb dL_does_124 rfl (lv_at hl 2 rfl) ?_
    refine lv_iload hx hb dL_does_125 (lv_at hl 0 rfl) ?_
    refine lv_iload_n hx hb dL_does_127 rfl (lv_at hl 4 rfl) ?_
    refine lv_bipush (v := 6) hx hb dL_does_128 (by decide) ?_
    refine top_eq (y := nI 6) (rfl) ?_
    refine idiv_n (x := w) (y := 6) (by omega) (by omega) (by omega) hx hb dL_does_130 ?_
    refine lv_bipush (v := 8) hx hb dL_does_131 (by decide) ?_
    refine top_eq (y := nI 8) (rfl) ?_
    refine irem_n (x := w / 6) (y := 8) (by omega) (by omega) (by omega) hx hb dL_does_133 ?_
    refine lv_iload_n hx hb dL_does_134 rfl (lv_at hl 4 rfl) ?_
    refine lv_bipush (v := 48) hx hb dL_does_135 (by decide) ?_
    refine top_eq (y := nI 48) (rfl) ?_
    refine idiv_n (x := w) (y := 48) (by omega) (by omega) (by omega) hx hb dL_does_137 ?_
    refine lv_iconst (v := 4) hx hb dL_does_138 (by decide) ?_
    refine top_eq (y := nI 4) (rfl) ?_
    refine irem_n (x := w / 48) (y := 4) (by omega) (by omega) (by omega) hx hb dL_does_139 ?_
    refine lv_if_le (tgt := 147) hx hb dL_does_140 (by decide) (fun c_140 => absurd c_140 (h0)) (fun c_140 => ?_)
    refine lv_iconst (v := 1) hx hb dL_does_143 (by decide) ?_
    refine top_eq (y := b2i true) (rfl) ?_
    refine lv_goto (tgt := 148) hx hb dL_does_144 (by decide) ?_
    refine va_calli (va_runV (As := [.int (nI (w % 6)), .int (nI ((w / 6) % 8)), .int (b2i true)]) (rest := []) ⟨hx, hb, hml, hown, hts⟩ (xc_setMember l D cI cZ cO (F := (va_up F 1 (upd (F 1) (w % 6) (if true = true then F 1 (w % 6) ||| ((1 : Int32) <<< (nI (w / 6 % 8) &&& 31)) else F 1 (w % 6) &&& (((1 : Int32) <<< (nI (w / 6 % 8) &&& 31)) ^^^ (-1)))))) (ik := ik) (kp := kp) (tu := tu) (n := n) (A := A) (x0 := x0) (e0 := e0) (z := z) (mi := mi) hok1 (w % 6) ((w / 6) % 8) true hg6 hp8) (cwV 3 hts gL_does_X4_setMember rfl rfl rfl (by decide +kernel) ⟨Nat.le_of_ble_eq_true rfl, Nat.le_of_ble_eq_true rfl⟩) ⟨LW.blind, hC.recv hE.1, fun U hU hW => ⟨rfl, LW.mk2 hE hS hC U hU hW⟩⟩ rfl rfl hl.1 rfl (lv_room (Nat.le_of_ble_eq_true rfl)) dL_does_148 ⟨Nat.le_of_ble_eq_true rfl, Nat.le_of_ble_eq_true rfl⟩) hS (fun q _ h => h) (fun q h => h) (fun r u t H locs ht hvm hw hC hz1 hk1 hS => ?_)
    rw [ht] at hC
    subst hw
    have hC : CX D cI cO A x0 e0 (va_up (va_up F 1 (upd (F 1) (w % 6) (if true = true then F 1 (w % 6) ||| ((1 : Int32) <<< (nI (w / 6 % 8) &&& 31)) else F 1 (w % 6) &&& (((1 : Int32) <<< (nI (w / 6 % 8) &&& 31)) ^^^ (-1))))) 1 (upd ((va_up F 1 (upd (F 1) (w % 6) (if true = true then F 1 (w % 6) ||| ((1 : Int32) <<< (nI (w / 6 % 8) &&& 31)) else F 1 (w % 6) &&& (((1 : Int32) <<< (nI (w / 6 % 8) &&& 31)) ^^^ (-1))))) 1) (w % 6) (if true = true then (va_up F 1 (upd (F 1) (w % 6) (if true = true then F 1 (w % 6) ||| ((1 : Int32) <<< (nI (w / 6 % 8) &&& 31)) else F 1 (w % 6) &&& (((1 : Int32) <<< (nI (w / 6 % 8) &&& 31)) ^^^ (-1))))) 1 (w % 6) ||| ((1 : Int32) <<< (nI (w / 6 % 8) &&& 31)) else (va_up F 1 (upd (F 1) (w % 6) (if true = true then F 1 (w % 6) ||| ((1 : Int32) <<< (nI (w / 6 % 8) &&& 31)) else F 1 (w % 6) &&& (((1 : Int32) <<< (nI (w / 6 % 8) &&& 31)) ^^^ (-1))))) 1 (w % 6) &&& (((1 : Int32) <<< (nI (w / 6 % 8) &&& 31)) ^^^ (-1))))) ik kp tu n H := hC
    have hL2 : okL (va_up (va_up F 1 (upd (F 1) (w % 6) (if true = true then F 1 (w % 6) ||| ((1 : Int32) <<< (nI (w / 6 % 8) &&& 31)) else F 1 (w % 6) &&& (((1 : Int32) <<< (nI (w / 6 % 8) &&& 31)) ^^^ (-1))))) 1 (upd ((va_up F 1 (upd (F 1) (w % 6) (if true = true then F 1 (w % 6) ||| ((1 : Int32) <<< (nI (w / 6 % 8) &&& 31)) else F 1 (w % 6) &&& (((1 : Int32) <<< (nI (w / 6 % 8) &&& 31)) ^^^ (-1))))) 1) (w % 6) (if true = true then (va_up F 1 (upd (F 1) (w % 6) (if true = true then F 1 (w % 6) ||| ((1 : Int32) <<< (nI (w / 6 % 8) &&& 31)) else F 1 (w % 6) &&& (((1 : Int32) <<< (nI (w / 6 % 8) &&& 31)) ^^^ (-1))))) 1 (w % 6) ||| ((1 : Int32) <<< (nI (w / 6 % 8) &&& 31)) else (va_up F 1 (upd (F 1) (w % 6) (if true = true then F 1 (w % 6) ||| ((1 : Int32) <<< (nI (w / 6 % 8) &&& 31)) else F 1 (w % 6) &&& (((1 : Int32) <<< (nI (w / 6 % 8) &&& 31)) ^^^ (-1))))) 1 (w % 6) &&& (((1 : Int32) <<< (nI (w / 6 % 8) &&& 31)) ^^^ (-1))))) ik kp tu n := hL1.set1 _
    refine top_eq (y := b2i true) (by rw [mem_again hp8]) ?_
    refine lv_iload_n hx hb dL_does_151 rfl (lv_at hl 4 rfl) ?_
    refine lv_bipush (v := 48) hx hb dL_does_152 (by decide) ?_
    refine top_eq (y := nI 48) (rfl) ?_
    refine idiv_n (x := w) (y := 48) (by omega) (by omega) (by omega) hx hb dL_does_154 ?_
    refine lv_iconst (v := 4) hx hb dL_does_155 (by decide) ?_
    refine top_eq (y := nI 4) (rfl) ?_
    refine irem_n (x := w / 48) (y := 4) (by omega) (by omega) (by omega) hx hb dL_does_156 ?_
    refine lv_if_le (tgt := 164) hx hb dL_does_157 (by decide) (fun c_157 => absurd c_157 (h0)) (fun c_157 => ?_)
    refine lv_iconst (v := 1) hx hb dL_does_160 (by decide) ?_
    refine top_eq (y := b2i true) (rfl) ?_
    refine lv_goto (tgt := 165) hx hb dL_does_161 (by decide) ?_
    refine lv_icmp_ne (tgt := 172) hx hb dL_does_165 (by decide) (fun c_165 => absurd (rfl) c_165) (fun c_165 => ?_)
    refine lv_iconst (v := 1) hx hb dL_does_168 (by decide) ?_
    refine lv_goto (tgt := 173) hx hb dL_does_169 (by decide) ?_
    subst hQ
    refine W.widen (k := 4) (n := 40) (Nat.le_of_ble_eq_true rfl) (Nat.le_of_ble_eq_true rfl) ?_
    exact W.zret (v := 1) hx hb hr (by exact nar_b2i true) (fun t ht hW => ⟨⟨_, (), rfl, rfl, (show OX D cI cO A x0 e0 t.heap from by rw [ht]; exact ⟨_, _, _, _, _, hL2, hC⟩)⟩, hS.F ht⟩) hS.2.2 dL_does_173

set_option maxHeartbeats 1600000 in
set_option maxRecDepth 100000 in
theorem ld_3 {p : Program} {l : Launch} {e : Env} {s : State} {m : MethodId} {args : Array Value} {below : List Frame} {meth : Method} {c : Code} {D : va_G} {cI cZ cO : ClassId} {A : Nat → Prop} {x0 e0 z mi : Nat} (hx : p.tables.exec = Jvm.exec) (hb : c.code = cL_does) (hr : meth.sig.returnType = some .boolean) (hlocks : meth.locks = false) (hml : c.maxLocals = 8) (hown : s.vm.findClass RL = some m.cls) (hts : ∀ w ∈ wsL_does, w.before args s = true) (hE : LE D cI cZ cO A e0 z mi s) (hAz : ∀ q, z ≤ q → A q) (hne : ¬ A e0) {F : Nat → Nat → Int32} {ik kp tu : Nat → Int32} {n : Nat} (hokL : okL F ik kp tu n) {v w e9 f : Nat} (hv : v < 2 ^ 31) (hw : w < 2 ^ 31) (he9 : e9 < 55) (hf : f < n) {H : Heap} {locs : List Loc} (hC : CX D cI cO A x0 e0 F ik kp tu n H) (hS : va_S A s.heap H locs) {ls : Array Slot} (hl : lv_has ls 8 [(4, .int (nI f)), (0, .ref x0), (1, .int (nI v)), (2, .int (nI w)), (3, .int (nI e9))]) : W p l e (headSpec wsL_does ({ frames := 9, cells := 4, slots := 40, locals := 310 })).room s m args below meth c H locs (0) (0) (MQ below (va_Qi (fun (r : Int32) (_ : Unit) => r = 1) (fun _ t => OX D cI cO A x0 e0 t.heap) A) args s 4 40 A) (F0 m 174 ls []) := by
  have hok := hokL.1
  have hn20 := hok.1.2.1.2
  have hww := hw
  generalize hQ : MQ below (va_Qi (fun (r : Int32) (_ : Unit) => r = 1) (fun _ t => OX D cI cO A x0 e0 t.heap) A) args s 4 40 A = Q
  have hg6 : w % 6 < 6 := by omega
  have hp6 : w / 6 % 6 < 6 := by omega
  refine lv_iload_n hx hb dL_does_174 rfl (lv_at hl 3 rfl) ?_
  refine lv_bipush (v := 6) hx hb dL_does_175 (by decide) ?_
  refine top_eq (y := nI 6) (rfl) ?_
  refine irem_n (x := w) (y := 6) (by omega) (by omega) (by omega) hx hb dL_does_177 ?_
  refine lv_iload_n hx hb dL_does_178 rfl (lv_at hl 3 rfl) ?_
  refine lv_bipush (v := 6) hx hb dL_does_179 (by decide) ?_
  refine top_eq (y := nI 6) (rfl) ?_
  refine idiv_n (x := w) (y := 6) (by omega) (by omega) (by omega) hx hb dL_does_181 ?_
  refine lv_bipush (v := 6) hx hb dL_does_182 (by decide) ?_
  refine top_eq (y := nI 6) (rfl) ?_
  refine irem_n (x := w / 6) (y := 6) (by omega) (by omega) (by omega) hx hb dL_does_184 ?_
  refine lv_icmp_ge (tgt := 241) hx hb dL_does_185 (by decide) (fun _ => ?_) (fun c_185 => ?_)
  ·
    refine lv_iconst (v := 1) hx hb dL_does_241 (by decide) ?_
    subst hQ
    refine W.widen (k := 4) (n := 40) (Nat.le_of_ble_eq_true rfl) (Nat.le_of_ble_eq_true rfl) ?_
    exact W.zret (v := 1) hx hb hr (by exact nar_b2i true) (fun t ht hW => ⟨⟨_, (), rfl, rfl, (show OX D cI cO A x0 e0 t.heap from by rw [ht]; exact ⟨_, _, _, _, _, hokL, hC⟩)⟩, hS.F ht⟩) hS.2.2 dL_does_242
  ·
    have hxy : w % 6 < w / 6 % 6 := by
      rcases Nat.lt_or_ge (w % 6) (w / 6 % 6) with h | h
      · exact h
      · exact absurd (nI_le h (by omega)) c_185
    refine lv_aload_n hx hb dL_does_188 rfl (lv_at hl 1 rfl) ?_
    refine lv_iload_n hx hb dL_does_189 rfl (lv_at hl 3 rfl) ?_
    refine lv_bipush (v := 6) hx hb dL_does_190 (by decide) ?_
    refine top_eq (y := nI 6) (rfl) ?_
    refine irem_n (x := w) (y := 6) (by omega) (by omega) (by omega) hx hb dL_does_192 ?_
    refine lv_iload_n hx hb dL_does_193 rfl (lv_at hl 3 rfl) ?_
    refine lv_bipush (v := 6) hx hb dL_does_194 (by decide) ?_
    refine top_eq (y := nI 6) (rfl) ?_
    refine idiv_n (x := w) (y := 6) (by omega) (by omega) (by omega) hx hb dL_does_196 ?_
    refine lv_bipush (v := 6) hx hb dL_does_197 (by decide) ?_
    refine top_eq (y := nI 6) (rfl) ?_
    refine irem_n (x := w / 6) (y := 6) (by omega) (by omega) (by omega) hx hb dL_does_199 ?_
    refine va_calli (va_runV (As := [.int (nI (w % 6)), .int (nI ((w / 6) % 6))]) (rest := []) ⟨hx, hb, hml, hown, hts⟩ (xc_nest l D cI cZ cO (F := F) (ik := ik) (kp := kp) (tu := tu) (n := n) (A := A) (x0 := x0) (e0 := e0) (z := z) (mi := mi) hok (w % 6) ((w / 6) % 6) hg6 hp6 (up_reach hokL.2.1 hxy hp6)) (cwV 2 hts gL_does_X4_nest rfl rfl rfl (by decide +kernel) ⟨Nat.le_of_ble_eq_true rfl, Nat.le_of_ble_eq_true rfl⟩) ⟨LW.blind, hC.recv hE.1, fun U hU hW => ⟨rfl, LW.mk2 hE hS hC U hU hW⟩⟩ rfl rfl hl.1 rfl (lv_room (Nat.le_of_ble_eq_true rfl)) dL_does_200 ⟨Nat.le_of_ble_eq_true rfl, Nat.le_of_ble_eq_true rfl⟩) hS (fun q _ h => h) (fun q h => h) (fun r u t H locs ht hvm hw hC hz1 hk1 hS => ?_)
    rw [ht] at hC
    subst hw
    have hC : CX D cI cO A x0 e0 (va_up F 2 (upd (F 2) (w % 6) (F 2 (w % 6) ^^^ ((1 : Int32) <<< (nI (w / 6 % 6) &&& 31))))) ik kp tu n H := hC
    have hL1 : okL (va_up F 2 (upd (F 2) (w % 6) (F 2 (w % 6) ^^^ ((1 : Int32) <<< (nI (w / 6 % 6) &&& 31))))) ik kp tu n := hokL.nest hxy hp6
    have hok1 := hL1.1
    refine lv_istore (lv' := [(6, .int (b2i (hasB (F 2 (w % 6) ^^^ ((1 : Int32) <<< (nI (w / 6 % 6) &&& 31))) (nI (w / 6 % 6))))), (4, .int (nI f)), (0, .ref x0), (1, .int (nI v)), (2, .int (nI w)), (3, .int (nI e9))]) hx hb dL_does_203 hl (by decide) rfl (fun ls hl => ?_)
    refine lv_iload hx hb dL_does_205 (lv_at hl 0 rfl) ?_
    have J235 : ∀ (H : Heap) (locs : List Loc), CX D cI cO A x0 e0 (va_up F 2 (upd (F 2) (w % 6) (F 2 (w % 6) ^^^ ((1 : Int32) <<< (nI (w / 6 % 6) &&& 31))))) ik kp tu n H → va_S A s.heap H locs → W p l e (headSpec wsL_does ({ frames := 9, cells := 4, slots := 40, locals := 310 })).room s m args below meth c H locs (0 + 0) (0 + 0) Q (F0 m 235 ls []) := by
      intro H locs hC hS
      refine lv_iconst (v := 1) hx hb dL_does_235 (by decide) ?_
      refine lv_goto (tgt := 240) hx hb dL_does_236 (by decide) ?_
      subst hQ
      refine W.widen (k := 4) (n := 40) (Nat.le_of_ble_eq_true rfl) (Nat.le_of_ble_eq_true rfl) ?_
      exact W.zret (v := 1) hx hb hr (by exact nar_b2i true) (fun t ht hW => ⟨⟨_, (), rfl, rfl, (show OX D cI cO A x0 e0 t.heap from by rw [ht]; exact ⟨_, _, _, _, _, hL1, hC⟩)⟩, hS.F ht⟩) hS.2.2 dL_does_240
    refine lv_if_eq (tgt := 235) hx hb dL_does_207 (by decide) (fun _ => J235 _ _ hC hS) (fun c_207 => ?_)
    refine lv_aload_n hx hb dL_does_210 rfl (lv_at hl 2 rfl) ?_
    refine lv_iload_n hx hb dL_does_211 rfl (lv_at hl 4 rfl) ?_
    refine lv_bipush (v := 6) hx hb dL_does_212 (by decide) ?_
    refine top_eq (y := nI 6) (rfl) ?_
    refine idiv_n (x := w) (y := 6) (by omega) (by omega) (by omega) hx hb dL_does_214 ?_
    refine lv_bipush (v := 6) hx hb dL_does_215 (by decide) ?_
    refine top_eq (y := nI 6) (rfl) ?_
    refine irem_n (x := w / 6) (y := 6) (by omega) (by omega) (by omega) hx hb dL_does_217 ?_
    refine va_calli (va_runV (As := [.int (nI ((w / 6) % 6))]) (rest := []) ⟨hx, hb, hml, hown, hts⟩ (xc_members l D cI cZ cO (F := (va_up F 2 (upd (F 2) (w % 6) (F 2 (w % 6) ^^^ ((1 : Int32) <<< (nI (w / 6 % 6) &&& 31)))))) (ik := ik) (kp := kp) (tu := tu) (n := n) (A := A) (x0 := x0) (e0 := e0) (z := z) (mi := mi) hok1 ((w / 6) % 6) hp6) (cwV 1 hts gL_does_X4_members rfl rfl rfl (by decide +kernel) ⟨Nat.le_of_ble_eq_true rfl, Nat.le_of_ble_eq_true rfl⟩) ⟨LW.blind, hC.recv hE.1, fun U hU hW => ⟨rfl, LW.mk2 hE hS hC U hU hW⟩⟩ rfl rfl hl.1 rfl (lv_room (Nat.le_of_ble_eq_true rfl)) dL_does_218 ⟨Nat.le_of_ble_eq_true rfl, Nat.le_of_ble_eq_true rfl⟩) hS (fun q _ h => h) (fun q h => h) (fun r u t H locs ht hvm hw hC hz1 hk1 hS => ?_)
    rw [ht] at hC
    subst hw
    refine lv_aload_n hx hb dL_does_221 rfl (lv_at hl 2 rfl) ?_
    refine lv_iload_n hx hb dL_does_222 rfl (lv_at hl 4 rfl) ?_
    refine lv_bipush (v := 6) hx hb dL_does_223 (by decide) ?_
    refine top_eq (y := nI 6) (rfl) ?_
    refine irem_n (x := w) (y := 6) (by omega) (by omega) (by omega) hx hb dL_does_225 ?_
    refine va_calli (va_runV (As := [.int (nI (w % 6))]) (rest := [.int (mMem (va_up F 2 (upd (F 2) (w % 6) (F 2 (w % 6) ^^^ ((1 : Int32) <<< (nI (w / 6 % 6) &&& 31))))) (w / 6 % 6))]) ⟨hx, hb, hml, hown, hts⟩ (xc_members l D cI cZ cO (F := (va_up F 2 (upd (F 2) (w % 6) (F 2 (w % 6) ^^^ ((1 : Int32) <<< (nI (w / 6 % 6) &&& 31)))))) (ik := ik) (kp := kp) (tu := tu) (n := n) (A := A) (x0 := x0) (e0 := e0) (z := z) (mi := mi) hok1 (w % 6) hg6) (cwV 1 hts gL_does_X4_members rfl rfl rfl (by decide +kernel) ⟨Nat.le_of_ble_eq_true rfl, Nat.le_of_ble_eq_true rfl⟩) ⟨LW.blind, hC.recv hE.1, fun U hU hW => ⟨rfl, LW.mk2 hE hS hC U hU hW⟩⟩ rfl rfl hl.1 rfl (lv_room (Nat.le_of_ble_eq_true rfl)) dL_does_226 ⟨Nat.le_of_ble_eq_true rfl, Nat.le_of_ble_eq_true rfl⟩) hS (fun q _ h => h) (fun q h => h) (fun r u t H locs ht hvm hw hC hz1 hk1 hS => ?_)
    rw [ht] at hC
    subst hw
    refine lv_iconst (v := (-1)) hx hb dL_does_229 (by decide) ?_
    refine lv_ixor hx hb dL_does_230 ?_
    refine lv_iand hx hb dL_does_231 ?_
    refine lv_if_ne (tgt := 239) hx hb dL_does_232 (by decide) (fun c_232 => absurd (nest_bit c_207 hok.2.2.2.1 hg6 hp6) c_232) (fun c_232 => ?_)
    exact J235 _ _ hC hS
