/-- behind a step of the law: the pool holds good numbers -/
def OX (D : va_G) (cI cO : ClassId) (A : Nat → Prop) (x0 e0 : Nat) (H : Heap) : Prop := ∃ (F : Nat → Nat → Int32) (ik kp tu : Nat → Int32) (n : Nat), okL F ik kp tu n ∧ CX D cI cO A x0 e0 F ik kp tu n H
/-- a step of the law: it answers 1 -/
def XE (l : Launch) (y9 : MethodName) (ws : List Cond) (rm : Room) (D : va_G) (cI cZ cO : ClassId) (A : Nat → Prop) (x0 e0 z mi : Nat) (av : List Value) (F : Nat → Nat → Int32) (ik kp tu : Nat → Int32) (n c9 s9 : Nat) : Prop :=
  Met l y9 ws rm (va_Pc av (LW D cI cZ cO A x0 e0 z mi F ik kp tu n)) (va_Qi (fun (r : Int32) (_ : Unit) => r = 1) (fun _ t => OX D cI cO A x0 e0 t.heap) A) c9 s9 A
set_option maxHeartbeats 1600000 in
set_option maxRecDepth 100000 in
theorem kl_isPassed (l : Launch) (D : va_G) (cI cZ cO : ClassId) {A : Nat → Prop} {x0 e0 z mi : Nat} {F : Nat → Nat → Int32} {ik kp tu : Nat → Int32} {n : Nat} (hokL : okL F ik kp tu n) (f : Nat) (hf : f < n) : XE l yL_isPassed wsL_isPassed (rmr 7 190) D cI cZ cO A x0 e0 z mi [.ref x0, .int (nI f)] F ik kp tu n 0 0 := by
  unfold XE
  refine Met.ofW (cc := cL_isPassed) (maxL := 6) (ret := (some .boolean)) (by decide) rfl ?_
  intro p e s m args below meth c s₁ B hml hv
  obtain ⟨hargs, hC, hE⟩ := hv
  have hx := B.exec
  have hb := B.bytes
  have hr := B.returns
  have hts := atoms_spec (ws := wsL_isPassed) B.pre
  have hown : s.vm.findClass RL = some m.cls := findClass_of_methodNamed B.named
  have hen : entryFrame m args 6 = entryFrame m ([.ref x0, .int (nI f)] : List Value).toArray 6 := by rw [hargs]
  rw [hen]
  have hl := lv_entry ([.ref x0, .int (nI f)]) (n := 6) (Nat.le_of_ble_eq_true rfl)
  rw [lg_entry_eq]
  generalize (lg_sl ([.ref x0, .int (nI f)]) ++ List.replicate (6 - (lg_sl ([.ref x0, .int (nI f)])).length) Slot.unset).toArray = ls at hl ⊢
  have hl : lv_has ls 6 [(0, .ref x0), (1, .int (nI f))] := hl
  have hS : va_S A s.heap s.heap [] := va_S.rf
  have hok := hokL.1
  obtain ⟨q, h8, hq⟩ := hok.1.2.2.2.1 f hf
  have hL1 : okL F (ikA ik n) (kpA F o0 o0 kp n) tu n := hokL.pass o0 o0
  have hok1 := hL1.1
  have hL2 : okL F (ikA (ikA ik n) n) (kpA F o0 o0 (kpA F o0 o0 kp n) n) tu n := hL1.pass o0 o0
  have hok2 := hL2.1
  have hi1 : ∀ x, x < n → (ikA ik n) x = 1 := fun x hx => by rw [ikA_get, if_pos hx]
  have hi2 : (ikA (ikA ik n) n) f = 1 := by rw [ikA_get, if_pos hf]
  have hp1 : kpOK F (kpA F o0 o0 kp n) n := kpOK_pass F o0 kp n
  have hp2 : kpOK F (kpA F o0 o0 (kpA F o0 o0 kp n) n) n := kpOK_pass F o0 (kpA F o0 o0 kp n) n
  have hn20 := hok.1.2.1.2
  generalize hQ : MQ below (va_Qi (fun (r : Int32) (_ : Unit) => r = 1) (fun _ t => OX D cI cO A x0 e0 t.heap) A) args s 0 0 A = Q
  have go : ∀ (H : Heap) (locs : List Loc), CX D cI cO A x0 e0 F ik kp tu n H → va_S A s.heap H locs → W p l e (headSpec wsL_isPassed (rmr 7 190)).room s m args below meth c H locs (0) (0) Q (F0 m 0 ls []) := by
    intro H locs hC hS
    refine lv_aload_n hx hb dL_isPassed_0 rfl (lv_at hl 0 rfl) ?_
    refine va_calli (va_runV (As := []) (rest := []) ⟨hx, hb, hml, hown, hts⟩ (xc_folders l D cI cZ cO (F := F) (ik := ik) (kp := kp) (tu := tu) (n := n) (A := A) (x0 := x0) (e0 := e0) (z := z) (mi := mi) hok  ) (cwV 0 hts gL_isPassed_X4_folders rfl rfl rfl (by decide +kernel) ⟨Nat.le_of_ble_eq_true rfl, Nat.le_of_ble_eq_true rfl⟩) ⟨LW.blind, hC.recv hE.1, fun U hU hW => ⟨rfl, LW.mk2 hE hS hC U hU hW⟩⟩ rfl rfl hl.1 rfl (lv_room (Nat.le_of_ble_eq_true rfl)) dL_isPassed_1 ⟨Nat.le_of_ble_eq_true rfl, Nat.le_of_ble_eq_true rfl⟩) hS (fun q _ h => h) (fun q h => h) (fun r u t H locs ht hvm hw hC hz1 hk1 hS => ?_)
    rw [ht] at hC
    subst hw
    refine lv_istore_n (lv' := [(2, .int (nI n)), (0, .ref x0), (1, .int (nI f))]) hx hb dL_isPassed_4 rfl hl (by decide) rfl (fun ls hl => ?_)
    refine lv_aload_n hx hb dL_isPassed_5 rfl (lv_at hl 1 rfl) ?_
    refine va_calli (va_runV (As := []) (rest := []) ⟨hx, hb, hml, hown, hts⟩ (xc_pass1 l D cI cZ cO (F := F) (ik := ik) (kp := kp) (tu := tu) (n := n) (A := A) (x0 := x0) (e0 := e0) (z := z) (mi := mi) hok  ) (cwV 0 hts gL_isPassed_X4_pass rfl rfl rfl (by decide +kernel) ⟨Nat.le_of_ble_eq_true rfl, Nat.le_of_ble_eq_true rfl⟩) ⟨LW.blind, hC.recv hE.1, fun U hU hW => ⟨rfl, LW.mk2 hE hS hC U hU hW⟩⟩ rfl rfl hl.1 rfl (lv_room (Nat.le_of_ble_eq_true rfl)) dL_isPassed_6 ⟨Nat.le_of_ble_eq_true rfl, Nat.le_of_ble_eq_true rfl⟩) hS (fun q _ h => h) (fun q h => h) (fun r u t H locs ht hvm hw hC hz1 hk1 hS => ?_)
    rw [ht] at hC
    obtain ⟨mm, hmm, hw⟩ := hw
    subst hw
    have hC : CX D cI cO A x0 e0 F (ikA ik n) (kpA F o0 o0 kp n) tu n H := hC
    refine lv_istore_n (lv' := [(3, .int (nI mm)), (2, .int (nI n)), (0, .ref x0), (1, .int (nI f))]) hx hb dL_isPassed_9 rfl hl (by decide) rfl (fun ls hl => ?_)
    refine lv_iload_n hx hb dL_isPassed_10 rfl (lv_at hl 0 rfl) ?_
    refine lv_if_lt (tgt := 38) hx hb dL_isPassed_11 (by decide) (fun c_11 => absurd c_11 (nI_pos (by omega))) (fun c_11 => ?_)
    refine lv_iload_n hx hb dL_isPassed_14 rfl (lv_at hl 0 rfl) ?_
    refine lv_iload_n hx hb dL_isPassed_15 rfl (lv_at hl 1 rfl) ?_
    refine lv_icmp_gt (tgt := 38) hx hb dL_isPassed_16 (by decide) (fun c_16 => absurd c_16 (nI_nlt hmm (by omega))) (fun c_16 => ?_)
    refine lv_aload_n hx hb dL_isPassed_19 rfl (lv_at hl 2 rfl) ?_
    refine va_calli (va_runV (As := []) (rest := []) ⟨hx, hb, hml, hown, hts⟩ (xc_pass2 l D cI cZ cO (F := F) (ik := (ikA ik n)) (kp := (kpA F o0 o0 kp n)) (tu := tu) (n := n) (A := A) (x0 := x0) (e0 := e0) (z := z) (mi := mi) hok1  hi1 hp1) (cwV 0 hts gL_isPassed_X4_pass rfl rfl rfl (by decide +kernel) ⟨Nat.le_of_ble_eq_true rfl, Nat.le_of_ble_eq_true rfl⟩) ⟨LW.blind, hC.recv hE.1, fun U hU hW => ⟨rfl, LW.mk2 hE hS hC U hU hW⟩⟩ rfl rfl hl.1 rfl (lv_room (Nat.le_of_ble_eq_true rfl)) dL_isPassed_20 ⟨Nat.le_of_ble_eq_true rfl, Nat.le_of_ble_eq_true rfl⟩) hS (fun q _ h => h) (fun q h => h) (fun r u t H locs ht hvm hw hC hz1 hk1 hS => ?_)
    rw [ht] at hC
    obtain rfl : r = 0 := hw
    have hC : CX D cI cO A x0 e0 F (ikA (ikA ik n) n) (kpA F o0 o0 (kpA F o0 o0 kp n) n) tu n H := hC
    refine lv_if_ne (tgt := 38) hx hb dL_isPassed_23 (by decide) (fun c_23 => absurd (rfl) c_23) (fun c_23 => ?_)
    refine lv_aload_n hx hb dL_isPassed_26 rfl (lv_at hl 2 rfl) ?_
    refine lv_iload_n hx hb dL_isPassed_27 rfl (lv_at hl 3 rfl) ?_
    refine va_calli (va_runV (As := [.int (nI f)]) (rest := []) ⟨hx, hb, hml, hown, hts⟩ (xc_isFresh1 l D cI cZ cO (F := F) (ik := (ikA (ikA ik n) n)) (kp := (kpA F o0 o0 (kpA F o0 o0 kp n) n)) (tu := tu) (n := n) (A := A) (x0 := x0) (e0 := e0) (z := z) (mi := mi) hok2 f hf hi2 hp2) (cwV 1 hts gL_isPassed_X4_isFresh rfl rfl rfl (by decide +kernel) ⟨Nat.le_of_ble_eq_true rfl, Nat.le_of_ble_eq_true rfl⟩) ⟨LW.blind, hC.recv hE.1, fun U hU hW => ⟨rfl, LW.mk2 hE hS hC U hU hW⟩⟩ rfl rfl hl.1 rfl (lv_room (Nat.le_of_ble_eq_true rfl)) dL_isPassed_28 ⟨Nat.le_of_ble_eq_true rfl, Nat.le_of_ble_eq_true rfl⟩) hS (fun q _ h => h) (fun q h => h) (fun r u t H locs ht hvm hw hC hz1 hk1 hS => ?_)
    rw [ht] at hC
    obtain rfl : r = 1 := hw
    refine lv_if_eq (tgt := 38) hx hb dL_isPassed_31 (by decide) (fun c_31 => absurd c_31 (by decide)) (fun c_31 => ?_)
    refine lv_iconst (v := 1) hx hb dL_isPassed_34 (by decide) ?_
    refine lv_goto (tgt := 39) hx hb dL_isPassed_35 (by decide) ?_
    refine lv_istore (lv' := [(4, .int 1), (3, .int (nI mm)), (2, .int (nI n)), (0, .ref x0), (1, .int (nI f))]) hx hb dL_isPassed_39 hl (by decide) rfl (fun ls hl => ?_)
    have hl := lv_sub hl [3, 4, 0] rfl
    have J55 : ∀ (tu' : Nat → Int32) (H : Heap) (locs : List Loc), ¬ tu' f = 0 → okL F (ikA (ikA ik n) n) (kpA F o0 o0 (kpA F o0 o0 kp n) n) tu' n → CX D cI cO A x0 e0 F (ikA (ikA ik n) n) (kpA F o0 o0 (kpA F o0 o0 kp n) n) tu' n H → va_S A s.heap H locs → W p l e (headSpec wsL_isPassed (rmr 7 190)).room s m args below meth c H locs (0) (0) Q (F0 m 55 ls []) := by
      intro tu' H locs hne hL3 hC hS
      have hok3 := hL3.1
      refine lv_iconst (v := 0) hx hb dL_isPassed_55 (by decide) ?_
      refine top_eq (y := nI 0) (rfl) ?_
      refine lv_istore (lv' := [(5, .int (nI 0)), (0, .ref x0), (1, .int (nI f)), (4, .int 1)]) hx hb dL_isPassed_56 hl (by decide) rfl (fun ls hl => ?_)
      refine lv_iload hx hb dL_isPassed_58 (lv_at hl 0 rfl) ?_
      refine lv_bipush (v := 8) hx hb dL_isPassed_60 (by decide) ?_
      refine lv_icmp_ge (tgt := 100) hx hb dL_isPassed_62 (by decide) (fun c_62 => absurd c_62 (by decide)) (fun c_62 => ?_)
      refine lv_iload hx hb dL_isPassed_65 (lv_at hl 3 rfl) ?_
      refine lv_if_eq (tgt := 100) hx hb dL_isPassed_67 (by decide) (fun c_67 => absurd c_67 (by decide)) (fun c_67 => ?_)
      refine lv_aload_n hx hb dL_isPassed_70 rfl (lv_at hl 1 rfl) ?_
      refine lv_iload hx hb dL_isPassed_71 (lv_at hl 0 rfl) ?_
      refine lv_iload_n hx hb dL_isPassed_73 rfl (lv_at hl 2 rfl) ?_
      refine va_calli (va_runV (As := [.int (nI 0), .int (nI f)]) (rest := []) ⟨hx, hb, hml, hown, hts⟩ (xc_rightsNow l D cI cZ cO (F := F) (ik := (ikA (ikA ik n) n)) (kp := (kpA F o0 o0 (kpA F o0 o0 kp n) n)) (tu := tu') (n := n) (A := A) (x0 := x0) (e0 := e0) (z := z) (mi := mi) hok3 0 f (by decide) hf) (cwV 2 hts gL_isPassed_X4_rightsNow rfl rfl rfl (by decide +kernel) ⟨Nat.le_of_ble_eq_true rfl, Nat.le_of_ble_eq_true rfl⟩) ⟨LW.blind, hC.recv hE.1, fun U hU hW => ⟨rfl, LW.mk2 hE hS hC U hU hW⟩⟩ rfl rfl hl.1 rfl (lv_room (Nat.le_of_ble_eq_true rfl)) dL_isPassed_74 ⟨Nat.le_of_ble_eq_true rfl, Nat.le_of_ble_eq_true rfl⟩) hS (fun q _ h => h) (fun q h => h) (fun r u t H locs ht hvm hw hC hz1 hk1 hS => ?_)
      rw [ht] at hC
      subst hw
      refine lv_aload_n hx hb dL_isPassed_77 rfl (lv_at hl 1 rfl) ?_
      refine lv_iload hx hb dL_isPassed_78 (lv_at hl 0 rfl) ?_
      refine lv_iload_n hx hb dL_isPassed_80 rfl (lv_at hl 2 rfl) ?_
      refine va_calli (va_runV (As := [.int (nI 0), .int (nI f)]) (rest := [.int (mNow F (kpA F o0 o0 (kpA F o0 o0 kp n) n) tu' 0 f)]) ⟨hx, hb, hml, hown, hts⟩ (xc_mapped l D cI cZ cO (F := F) (ik := (ikA (ikA ik n) n)) (kp := (kpA F o0 o0 (kpA F o0 o0 kp n) n)) (tu := tu') (n := n) (A := A) (x0 := x0) (e0 := e0) (z := z) (mi := mi) hok3 0 f (by decide) hf) (cwV 2 hts gL_isPassed_X4_mapped rfl rfl rfl (by decide +kernel) ⟨Nat.le_of_ble_eq_true rfl, Nat.le_of_ble_eq_true rfl⟩) ⟨LW.blind, hC.recv hE.1, fun U hU hW => ⟨rfl, LW.mk2 hE hS hC U hU hW⟩⟩ rfl rfl hl.1 rfl (lv_room (Nat.le_of_ble_eq_true rfl)) dL_isPassed_81 ⟨Nat.le_of_ble_eq_true rfl, Nat.le_of_ble_eq_true rfl⟩) hS (fun q _ h => h) (fun q h => h) (fun r u t H locs ht hvm hw hC hz1 hk1 hS => ?_)
      rw [ht] at hC
      subst hw
      refine lv_icmp_ne (tgt := 91) hx hb dL_isPassed_84 (by decide) (fun c_84 => absurd (now_1 hne hp2 hf (by decide)) c_84) (fun c_84 => ?_)
      refine lv_iconst (v := 1) hx hb dL_isPassed_87 (by decide) ?_
      refine lv_goto (tgt := 92) hx hb dL_isPassed_88 (by decide) ?_
      refine lv_istore (lv' := [(4, .int 1), (5, .int (nI 0)), (0, .ref x0), (1, .int (nI f))]) hx hb dL_isPassed_92 hl (by decide) rfl (fun ls hl => ?_)
      refine lv_iinc (v := nI (0 + 3)) (lv' := [(5, .int (nI (0 + 3))), (4, .int 1), (0, .ref x0), (1, .int (nI f))]) hx hb dL_isPassed_94 hl (k := 1) rfl (by exact nI_add _ _) (by decide) rfl (fun ls hl => ?_)
      refine lv_goto (tgt := 58) hx hb dL_isPassed_97 (by decide) ?_
      have hl : lv_has ls 6 [(5, .int (nI 3)), (4, .int 1), (0, .ref x0), (1, .int (nI f))] := hl
      refine lv_iload hx hb dL_isPassed_58 (lv_at hl 0 rfl) ?_
      refine lv_bipush (v := 8) hx hb dL_isPassed_60 (by decide) ?_
      refine lv_icmp_ge (tgt := 100) hx hb dL_isPassed_62 (by decide) (fun c_62 => absurd c_62 (by decide)) (fun c_62 => ?_)
      refine lv_iload hx hb dL_isPassed_65 (lv_at hl 1 rfl) ?_
      refine lv_if_eq (tgt := 100) hx hb dL_isPassed_67 (by decide) (fun c_67 => absurd c_67 (by decide)) (fun c_67 => ?_)
      refine lv_aload_n hx hb dL_isPassed_70 rfl (lv_at hl 2 rfl) ?_
      refine lv_iload hx hb dL_isPassed_71 (lv_at hl 0 rfl) ?_
      refine lv_iload_n hx hb dL_isPassed_73 rfl (lv_at hl 3 rfl) ?_
      refine va_calli (va_runV (As := [.int (nI 3), .int (nI f)]) (rest := []) ⟨hx, hb, hml, hown, hts⟩ (xc_rightsNow l D cI cZ cO (F := F) (ik := (ikA (ikA ik n) n)) (kp := (kpA F o0 o0 (kpA F o0 o0 kp n) n)) (tu := tu') (n := n) (A := A) (x0 := x0) (e0 := e0) (z := z) (mi := mi) hok3 3 f (by decide) hf) (cwV 2 hts gL_isPassed_X4_rightsNow rfl rfl rfl (by decide +kernel) ⟨Nat.le_of_ble_eq_true rfl, Nat.le_of_ble_eq_true rfl⟩) ⟨LW.blind, hC.recv hE.1, fun U hU hW => ⟨rfl, LW.mk2 hE hS hC U hU hW⟩⟩ rfl rfl hl.1 rfl (lv_room (Nat.le_of_ble_eq_true rfl)) dL_isPassed_74 ⟨Nat.le_of_ble_eq_true rfl, Nat.le_of_ble_eq_true rfl⟩) hS (fun q _ h => h) (fun q h => h) (fun r u t H locs ht hvm hw hC hz1 hk1 hS => ?_)
      rw [ht] at hC
      subst hw
      refine lv_aload_n hx hb dL_isPassed_77 rfl (lv_at hl 2 rfl) ?_
      refine lv_iload hx hb dL_isPassed_78 (lv_at hl 0 rfl) ?_
      refine lv_iload_n hx hb dL_isPassed_80 rfl (lv_at hl 3 rfl) ?_
      refine va_calli (va_runV (As := [.int (nI 3), .int (nI f)]) (rest := [.int (mNow F (kpA F o0 o0 (kpA F o0 o0 kp n) n) tu' 3 f)]) ⟨hx, hb, hml, hown, hts⟩ (xc_mapped l D cI cZ cO (F := F) (ik := (ikA (ikA ik n) n)) (kp := (kpA F o0 o0 (kpA F o0 o0 kp n) n)) (tu := tu') (n := n) (A := A) (x0 := x0) (e0 := e0) (z := z) (mi := mi) hok3 3 f (by decide) hf) (cwV 2 hts gL_isPassed_X4_mapped rfl rfl rfl (by decide +kernel) ⟨Nat.le_of_ble_eq_true rfl, Nat.le_of_ble_eq_true rfl⟩) ⟨LW.blind, hC.recv hE.1, fun U hU hW => ⟨rfl, LW.mk2 hE hS hC U hU hW⟩⟩ rfl rfl hl.1 rfl (lv_room (Nat.le_of_ble_eq_true rfl)) dL_isPassed_81 ⟨Nat.le_of_ble_eq_true rfl, Nat.le_of_ble_eq_true rfl⟩) hS (fun q _ h => h) (fun q h => h) (fun r u t H locs ht hvm hw hC hz1 hk1 hS => ?_)
      rw [ht] at hC
      subst hw
      refine lv_icmp_ne (tgt := 91) hx hb dL_isPassed_84 (by decide) (fun c_84 => absurd (now_1 hne hp2 hf (by decide)) c_84) (fun c_84 => ?_)
      refine lv_iconst (v := 1) hx hb dL_isPassed_87 (by decide) ?_
      refine lv_goto (tgt := 92) hx hb dL_isPassed_88 (by decide) ?_
      refine lv_istore (lv' := [(4, .int 1), (5, .int (nI 3)), (0, .ref x0), (1, .int (nI f))]) hx hb dL_isPassed_92 hl (by decide) rfl (fun ls hl => ?_)
      refine lv_iinc (v := nI (3 + 3)) (lv' := [(5, .int (nI (3 + 3))), (4, .int 1), (0, .ref x0), (1, .int (nI f))]) hx hb dL_isPassed_94 hl (k := 1) rfl (by exact nI_add _ _) (by decide) rfl (fun ls hl => ?_)
      refine lv_goto (tgt := 58) hx hb dL_isPassed_97 (by decide) ?_
      have hl : lv_has ls 6 [(5, .int (nI 6)), (4, .int 1), (0, .ref x0), (1, .int (nI f))] := hl
      refine lv_iload hx hb dL_isPassed_58 (lv_at hl 0 rfl) ?_
      refine lv_bipush (v := 8) hx hb dL_isPassed_60 (by decide) ?_
      refine lv_icmp_ge (tgt := 100) hx hb dL_isPassed_62 (by decide) (fun c_62 => absurd c_62 (by decide)) (fun c_62 => ?_)
      refine lv_iload hx hb dL_isPassed_65 (lv_at hl 1 rfl) ?_
      refine lv_if_eq (tgt := 100) hx hb dL_isPassed_67 (by decide) (fun c_67 => absurd c_67 (by decide)) (fun c_67 => ?_)
      refine lv_aload_n hx hb dL_isPassed_70 rfl (lv_at hl 2 rfl) ?_
      refine lv_iload hx hb dL_isPassed_71 (lv_at hl 0 rfl) ?_
      refine lv_iload_n hx hb dL_isPassed_73 rfl (lv_at hl 3 rfl) ?_
      refine va_calli (va_runV (As := [.int (nI 6), .int (nI f)]) (rest := []) ⟨hx, hb, hml, hown, hts⟩ (xc_rightsNow l D cI cZ cO (F := F) (ik := (ikA (ikA ik n) n)) (kp := (kpA F o0 o0 (kpA F o0 o0 kp n) n)) (tu := tu') (n := n) (A := A) (x0 := x0) (e0 := e0) (z := z) (mi := mi) hok3 6 f (by decide) hf) (cwV 2 hts gL_isPassed_X4_rightsNow rfl rfl rfl (by decide +kernel) ⟨Nat.le_of_ble_eq_true rfl, Nat.le_of_ble_eq_true rfl⟩) ⟨LW.blind, hC.recv hE.1, fun U hU hW => ⟨rfl, LW.mk2 hE hS hC U hU hW⟩⟩ rfl rfl hl.1 rfl (lv_room (Nat.le_of_ble_eq_true rfl)) dL_isPassed_74 ⟨Nat.le_of_ble_eq_true rfl, Nat.le_of_ble_eq_true rfl⟩) hS (fun q _ h => h) (fun q h => h) (fun r u t H locs ht hvm hw hC hz1 hk1 hS => ?_)
      rw [ht] at hC
      subst hw
      refine lv_aload_n hx hb dL_isPassed_77 rfl (lv_at hl 2 rfl) ?_
      refine lv_iload hx hb dL_isPassed_78 (lv_at hl 0 rfl) ?_
      refine lv_iload_n hx hb dL_isPassed_80 rfl (lv_at hl 3 rfl) ?_
      refine va_calli (va_runV (As := [.int (nI 6), .int (nI f)]) (rest := [.int (mNow F (kpA F o0 o0 (kpA F o0 o0 kp n) n) tu' 6 f)]) ⟨hx, hb, hml, hown, hts⟩ (xc_mapped l D cI cZ cO (F := F) (ik := (ikA (ikA ik n) n)) (kp := (kpA F o0 o0 (kpA F o0 o0 kp n) n)) (tu := tu') (n := n) (A := A) (x0 := x0) (e0 := e0) (z := z) (mi := mi) hok3 6 f (by decide) hf) (cwV 2 hts gL_isPassed_X4_mapped rfl rfl rfl (by decide +kernel) ⟨Nat.le_of_ble_eq_true rfl, Nat.le_of_ble_eq_true rfl⟩) ⟨LW.blind, hC.recv hE.1, fun U hU hW => ⟨rfl, LW.mk2 hE hS hC U hU hW⟩⟩ rfl rfl hl.1 rfl (lv_room (Nat.le_of_ble_eq_true rfl)) dL_isPassed_81 ⟨Nat.le_of_ble_eq_true rfl, Nat.le_of_ble_eq_true rfl⟩) hS (fun q _ h => h) (fun q h => h) (fun r u t H locs ht hvm hw hC hz1 hk1 hS => ?_)
      rw [ht] at hC
      subst hw
      refine lv_icmp_ne (tgt := 91) hx hb dL_isPassed_84 (by decide) (fun c_84 => absurd (now_1 hne hp2 hf (by decide)) c_84) (fun c_84 => ?_)
      refine lv_iconst (v := 1) hx hb dL_isPassed_87 (by decide) ?_
      refine lv_goto (tgt := 92) hx hb dL_isPassed_88 (by decide) ?_
      refine lv_istore (lv' := [(4, .int 1), (5, .int (nI 6)), (0, .ref x0), (1, .int (nI f))]) hx hb dL_isPassed_92 hl (by decide) rfl (fun ls hl => ?_)
      refine lv_iinc (v := nI (6 + 3)) (lv' := [(5, .int (nI (6 + 3))), (4, .int 1), (0, .ref x0), (1, .int (nI f))]) hx hb dL_isPassed_94 hl (k := 1) rfl (by exact nI_add _ _) (by decide) rfl (fun ls hl => ?_)
      refine lv_goto (tgt := 58) hx hb dL_isPassed_97 (by decide) ?_
      have hl : lv_has ls 6 [(5, .int (nI 9)), (4, .int 1), (0, .ref x0), (1, .int (nI f))] := hl
      refine lv_iload hx hb dL_isPassed_58 (lv_at hl 0 rfl) ?_
      refine lv_bipush (v := 8) hx hb dL_isPassed_60 (by decide) ?_
      refine lv_icmp_ge (tgt := 100) hx hb dL_isPassed_62 (by decide) (fun c_62 => ?_) (fun c_62 => absurd (by decide) c_62)
      refine lv_iload hx hb dL_isPassed_100 (lv_at hl 1 rfl) ?_
      refine lv_if_eq (tgt := 117) hx hb dL_isPassed_102 (by decide) (fun c_102 => absurd c_102 (by decide)) (fun c_102 => ?_)
      refine lv_aload_n hx hb dL_isPassed_105 rfl (lv_at hl 2 rfl) ?_
      refine lv_iload_n hx hb dL_isPassed_106 rfl (lv_at hl 3 rfl) ?_
      refine va_calli (va_runV (As := [.int (nI f)]) (rest := []) ⟨hx, hb, hml, hown, hts⟩ (xc_gainers l D cI cZ cO (F := F) (ik := (ikA (ikA ik n) n)) (kp := (kpA F o0 o0 (kpA F o0 o0 kp n) n)) (tu := tu') (n := n) (A := A) (x0 := x0) (e0 := e0) (z := z) (mi := mi) hok3 f hf) (cwV 1 hts gL_isPassed_X4_gainers rfl rfl rfl (by decide +kernel) ⟨Nat.le_of_ble_eq_true rfl, Nat.le_of_ble_eq_true rfl⟩) ⟨LW.blind, hC.recv hE.1, fun U hU hW => ⟨rfl, LW.mk2 hE hS hC U hU hW⟩⟩ rfl rfl hl.1 rfl (lv_room (Nat.le_of_ble_eq_true rfl)) dL_isPassed_107 ⟨Nat.le_of_ble_eq_true rfl, Nat.le_of_ble_eq_true rfl⟩) hS (fun q _ h => h) (fun q h => h) (fun r u t H locs ht hvm hw hC hz1 hk1 hS => ?_)
      rw [ht] at hC
      subst hw
      refine lv_if_ne (tgt := 117) hx hb dL_isPassed_110 (by decide) (fun c_110 => absurd (gnr_0 hne hp2 hf hq h8 8 (Nat.le_refl _)) c_110) (fun c_110 => ?_)
      refine lv_iconst (v := 1) hx hb dL_isPassed_113 (by decide) ?_
      refine lv_goto (tgt := 118) hx hb dL_isPassed_114 (by decide) ?_
      subst hQ
      exact W.zret (v := 1) hx hb hr (by exact nar_b2i true) (fun t ht hW => ⟨⟨_, (), rfl, rfl, (show OX D cI cO A x0 e0 t.heap from by rw [ht]; exact ⟨_, _, _, _, _, hL3, hC⟩)⟩, hS.F ht⟩) hS.2.2 dL_isPassed_118
    refine lv_aload_n hx hb dL_isPassed_41 rfl (lv_at hl 0 rfl) ?_
    refine lv_iload_n hx hb dL_isPassed_42 rfl (lv_at hl 1 rfl) ?_
    refine va_calli (va_runV (As := [.int (nI f)]) (rest := []) ⟨hx, hb, hml, hown, hts⟩ (xc_turn l D cI cZ cO (F := F) (ik := (ikA (ikA ik n) n)) (kp := (kpA F o0 o0 (kpA F o0 o0 kp n) n)) (tu := tu) (n := n) (A := A) (x0 := x0) (e0 := e0) (z := z) (mi := mi) hok2 f hf (by rw [hi2]; decide)) (cwV 1 hts gL_isPassed_X4_turn rfl rfl rfl (by decide +kernel) ⟨Nat.le_of_ble_eq_true rfl, Nat.le_of_ble_eq_true rfl⟩) ⟨LW.blind, hC.recv hE.1, fun U hU hW => ⟨rfl, LW.mk2 hE hS hC U hU hW⟩⟩ rfl rfl hl.1 rfl (lv_room (Nat.le_of_ble_eq_true rfl)) dL_isPassed_43 ⟨Nat.le_of_ble_eq_true rfl, Nat.le_of_ble_eq_true rfl⟩) hS (fun q _ h => h) (fun q h => h) (fun r u t H locs ht hvm hw hC hz1 hk1 hS => ?_)
    rw [ht] at hC
    subst hw
    have hC : CX D cI cO A x0 e0 F (ikA (ikA ik n) n) (kpA F o0 o0 (kpA F o0 o0 kp n) n) (upd tu f (b2i (!toB (tu f)))) n H := hC
    have hL4 : okL F (ikA (ikA ik n) n) (kpA F o0 o0 (kpA F o0 o0 kp n) n) (upd tu f (b2i (!toB (tu f)))) n := hL2.settu hf _
    have hok4 := hL4.1
    cases ct : toB (tu f) with
    | false =>
      refine lv_if_ne (tgt := 55) hx hb dL_isPassed_46 (by decide) (fun _ => ?_) (fun h9 => absurd h9 (by decide))
      exact J55 _ _ _ (by rw [pk_us, ct]; decide) hL4 hC hS
    | true =>
      refine lv_if_ne (tgt := 55) hx hb dL_isPassed_46 (by decide) (fun h9 => absurd (show b2i (!true) = 0 from rfl) h9) (fun _ => ?_)
      refine lv_aload_n hx hb dL_isPassed_49 rfl (lv_at hl 0 rfl) ?_
      refine lv_iload_n hx hb dL_isPassed_50 rfl (lv_at hl 1 rfl) ?_
      refine va_calli (va_runV (As := [.int (nI f)]) (rest := []) ⟨hx, hb, hml, hown, hts⟩ (xc_turn l D cI cZ cO (F := F) (ik := (ikA (ikA ik n) n)) (kp := (kpA F o0 o0 (kpA F o0 o0 kp n) n)) (tu := (upd tu f (b2i (!toB (tu f))))) (n := n) (A := A) (x0 := x0) (e0 := e0) (z := z) (mi := mi) hok4 f hf (by rw [hi2]; decide)) (cwV 1 hts gL_isPassed_X4_turn rfl rfl rfl (by decide +kernel) ⟨Nat.le_of_ble_eq_true rfl, Nat.le_of_ble_eq_true rfl⟩) ⟨LW.blind, hC.recv hE.1, fun U hU hW => ⟨rfl, LW.mk2 hE hS hC U hU hW⟩⟩ rfl rfl hl.1 rfl (lv_room (Nat.le_of_ble_eq_true rfl)) dL_isPassed_51 ⟨Nat.le_of_ble_eq_true rfl, Nat.le_of_ble_eq_true rfl⟩) hS (fun q _ h => h) (fun q h => h) (fun r u t H locs ht hvm hw hC hz1 hk1 hS => ?_)
      rw [ht] at hC
      subst hw
      have hC : CX D cI cO A x0 e0 F (ikA (ikA ik n) n) (kpA F o0 o0 (kpA F o0 o0 kp n) n) (upd (upd tu f (b2i (!toB (tu f)))) f (b2i (!toB ((upd tu f (b2i (!toB (tu f)))) f)))) n H := hC
      refine lv_pop hx hb dL_isPassed_54 rfl ?_
      exact J55 _ _ _ (by rw [pk_us, pk_us, ct]; decide) (hL4.settu hf _) hC hS
  exact go _ _ hC hS
