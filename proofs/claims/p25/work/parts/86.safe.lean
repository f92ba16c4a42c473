set_option maxHeartbeats 1600000 in
set_option maxRecDepth 100000 in
theorem kl_isSafe (l : Launch) (D : va_G) (cI cZ cO : ClassId) {A : Nat → Prop} {x0 e0 z mi : Nat} {F : Nat → Nat → Int32} {ik kp tu : Nat → Int32} {n : Nat} (hok : okS F ik kp tu n) (f : Nat) (gi : Int32) (hf : f < n) (hg : gi = -1 ∨ ∃ k, k < 6 ∧ gi = nI k) : XC l yL_isSafe wsL_isSafe (rmr 7 190) D cI cZ cO A x0 e0 z mi [.ref x0, .int (nI f), .int gi] 1 F ik kp tu n F ik kp tu n 0 0 := by
  unfold XC
  refine Met.ofW (cc := cL_isSafe) (maxL := 9) (ret := (some .boolean)) (by decide) rfl ?_
  intro p e s m args below meth c s₁ B hml hv
  obtain ⟨hargs, hC, hE⟩ := hv
  have hx := B.exec
  have hb := B.bytes
  have hr := B.returns
  have hts := atoms_spec (ws := wsL_isSafe) B.pre
  have hown : s.vm.findClass RL = some m.cls := findClass_of_methodNamed B.named
  have hen : entryFrame m args 9 = entryFrame m ([.ref x0, .int (nI f), .int gi] : List Value).toArray 9 := by rw [hargs]
  rw [hen]
  have hl := lv_entry ([.ref x0, .int (nI f), .int gi]) (n := 9) (Nat.le_of_ble_eq_true rfl)
  rw [lg_entry_eq]
  generalize (lg_sl ([.ref x0, .int (nI f), .int gi]) ++ List.replicate (9 - (lg_sl ([.ref x0, .int (nI f), .int gi])).length) Slot.unset).toArray = ls at hl ⊢
  have hl : lv_has ls 9 [(0, .ref x0), (1, .int (nI f)), (2, .int gi)] := hl
  have hS : va_S A s.heap s.heap [] := va_S.rf
  obtain ⟨q, h8, hq⟩ := hok.1.2.2.2.1 f hf
  have hgb := mB_ok F o0 f 6 (Nat.le_refl _)
  generalize hQ : MQ below (va_Qi (fun (r : Int32) (_ : Unit) => r = 1) (fun _ t => CX D cI cO A x0 e0 F ik kp tu n t.heap) A) args s 0 0 A = Q
  have go : ∀ (H : Heap) (locs : List Loc), CX D cI cO A x0 e0 F ik kp tu n H → va_S A s.heap H locs → W p l e (headSpec wsL_isSafe (rmr 7 190)).room s m args below meth c H locs (0) (0) Q (F0 m 0 ls []) := by
    intro H locs hC hS
    refine lv_iconst (v := 0) hx hb dL_isSafe_0 (by decide) ?_
    refine top_eq (y := lossS (fun p => mRights F p f) (mV F o0 f (mBest F o0 f)) 0) (rfl) ?_
    refine lv_istore_n (lv' := [(3, .int (lossS (fun p => mRights F p f) (mV F o0 f (mBest F o0 f)) 0)), (0, .ref x0), (1, .int (nI f)), (2, .int gi)]) hx hb dL_isSafe_1 rfl hl (by decide) rfl (fun ls hl => ?_)
    refine lv_aload_n hx hb dL_isSafe_2 rfl (lv_at hl 1 rfl) ?_
    refine lv_iload_n hx hb dL_isSafe_3 rfl (lv_at hl 2 rfl) ?_
    refine va_calli (va_runV (As := [.int (nI f)]) (rest := []) ⟨hx, hb, hml, hown, hts⟩ (xc_named l D cI cZ cO (F := F) (ik := ik) (kp := kp) (tu := tu) (n := n) (A := A) (x0 := x0) (e0 := e0) (z := z) (mi := mi) hok f hf) (cwV 1 hts gL_isSafe_X4_named rfl rfl rfl (by decide +kernel) ⟨Nat.le_of_ble_eq_true rfl, Nat.le_of_ble_eq_true rfl⟩) ⟨LW.blind, hC.recv hE.1, fun U hU hW => ⟨rfl, LW.mk2 hE hS hC U hU hW⟩⟩ rfl rfl hl.1 rfl (lv_room (Nat.le_of_ble_eq_true rfl)) dL_isSafe_4 ⟨Nat.le_of_ble_eq_true rfl, Nat.le_of_ble_eq_true rfl⟩) hS (fun q _ h => h) (fun q h => h) (fun r u t H locs ht hvm hw hC hz1 hk1 hS => ?_)
    rw [ht] at hC
    subst hw
    refine lv_istore (lv' := [(4, .int (mN F o0 f (mBest F o0 f))), (3, .int (lossS (fun p => mRights F p f) (mV F o0 f (mBest F o0 f)) 0)), (0, .ref x0), (1, .int (nI f)), (2, .int gi)]) hx hb dL_isSafe_7 hl (by decide) rfl (fun ls hl => ?_)
    refine lv_iload hx hb dL_isSafe_9 (lv_at hl 0 rfl) ?_
    refine vp_callSi (W.runS (As := [.int (mN F o0 f (mBest F o0 f))]) (rest := []) ⟨hx, hb, hml, hown, hts⟩ (k_L_size l (mN F o0 f (mBest F o0 f))) (va_cwS 1 hts gL_isSafe_L_size rfl rfl rfl (by decide +kernel) ⟨Nat.le_of_ble_eq_true rfl, Nat.le_of_ble_eq_true rfl⟩) ⟨nf_blind, fun U hU hW => ⟨rfl, trivial⟩⟩ rfl rfl hl.1 rfl (lv_room (Nat.le_of_ble_eq_true rfl)) dL_isSafe_11 ⟨Nat.le_of_ble_eq_true rfl, Nat.le_of_ble_eq_true rfl⟩) (fun r er => ?_)
    subst er
    refine lv_iconst (v := 3) hx hb dL_isSafe_14 (by decide) ?_
    refine lv_icmp_gt (tgt := 22) hx hb dL_isSafe_15 (by decide) (fun c_15 => absurd c_15 (named_3)) (fun c_15 => ?_)
    refine lv_iconst (v := 1) hx hb dL_isSafe_18 (by decide) ?_
    refine lv_goto (tgt := 23) hx hb dL_isSafe_19 (by decide) ?_
    refine lv_istore (lv' := [(5, .int 1), (4, .int (mN F o0 f (mBest F o0 f))), (3, .int (lossS (fun p => mRights F p f) (mV F o0 f (mBest F o0 f)) 0)), (0, .ref x0), (1, .int (nI f)), (2, .int gi)]) hx hb dL_isSafe_23 hl (by decide) rfl (fun ls hl => ?_)
    refine lv_iconst (v := 0) hx hb dL_isSafe_25 (by decide) ?_
    refine top_eq (y := nI 0) (rfl) ?_
    refine lv_istore (lv' := [(6, .int (nI 0)), (5, .int 1), (4, .int (mN F o0 f (mBest F o0 f))), (3, .int (lossS (fun p => mRights F p f) (mV F o0 f (mBest F o0 f)) 0)), (0, .ref x0), (1, .int (nI f)), (2, .int gi)]) hx hb dL_isSafe_26 hl (by decide) rfl (fun ls hl => ?_)
    have L28 : ∀ dd k : Nat, k + dd = 8 → ∀ (H : Heap) (locs : List Loc) (ls : Array Slot), CX D cI cO A x0 e0 F ik kp tu n H → va_S A s.heap H locs → lv_has ls 9 [(0, .ref x0), (1, .int (nI f)), (2, .int gi), (3, .int (lossS (fun p => mRights F p f) (mV F o0 f (mBest F o0 f)) k)), (4, .int (mN F o0 f (mBest F o0 f))), (5, .int 1), (6, .int (nI k))] → W p l e (headSpec wsL_isSafe (rmr 7 190)).room s m args below meth c H locs (0) (0) Q (F0 m 28 ls []) := by
      intro dd
      induction dd with
      | zero =>
        intro k hk H locs ls hC hS hl
        obtain rfl : k = 8 := by omega
        rw [mL_sum] at hl
        refine lv_iload hx hb dL_isSafe_28 (lv_at hl 6 rfl) ?_
        refine lv_bipush (v := 8) hx hb dL_isSafe_30 (by decide) ?_
        refine lv_icmp_ge (tgt := 123) hx hb dL_isSafe_32 (by decide) (fun c_32 => ?_) (fun c_32 => absurd (by decide) c_32)
        refine lv_iload hx hb dL_isSafe_123 (lv_at hl 5 rfl) ?_
        refine lv_if_eq (tgt := 165) hx hb dL_isSafe_125 (by decide) (fun c_125 => absurd c_125 (by decide)) (fun c_125 => ?_)
        refine lv_iload_n hx hb dL_isSafe_128 rfl (lv_at hl 3 rfl) ?_
        refine lv_aload_n hx hb dL_isSafe_129 rfl (lv_at hl 0 rfl) ?_
        refine lv_iload_n hx hb dL_isSafe_130 rfl (lv_at hl 1 rfl) ?_
        refine va_calli (va_runV (As := [.int (nI f)]) (rest := [.int (mL F o0 f (mBest F o0 f))]) ⟨hx, hb, hml, hown, hts⟩ (xc_loss l D cI cZ cO (F := F) (ik := ik) (kp := kp) (tu := tu) (n := n) (A := A) (x0 := x0) (e0 := e0) (z := z) (mi := mi) hok f hf) (cwV 1 hts gL_isSafe_X4_loss rfl rfl rfl (by decide +kernel) ⟨Nat.le_of_ble_eq_true rfl, Nat.le_of_ble_eq_true rfl⟩) ⟨LW.blind, hC.recv hE.1, fun U hU hW => ⟨rfl, LW.mk2 hE hS hC U hU hW⟩⟩ rfl rfl hl.1 rfl (lv_room (Nat.le_of_ble_eq_true rfl)) dL_isSafe_131 ⟨Nat.le_of_ble_eq_true rfl, Nat.le_of_ble_eq_true rfl⟩) hS (fun q _ h => h) (fun q h => h) (fun r u t H locs ht hvm hw hC hz1 hk1 hS => ?_)
        rw [ht] at hC
        subst hw
        refine lv_icmp_ne (tgt := 165) hx hb dL_isSafe_134 (by decide) (fun c_134 => absurd (rfl) c_134) (fun c_134 => ?_)
        refine lv_aload_n hx hb dL_isSafe_137 rfl (lv_at hl 0 rfl) ?_
        refine lv_iload_n hx hb dL_isSafe_138 rfl (lv_at hl 1 rfl) ?_
        refine lv_iload_n hx hb dL_isSafe_139 rfl (lv_at hl 2 rfl) ?_
        refine va_calli (va_runV (As := [.int (nI f), .int gi]) (rest := []) ⟨hx, hb, hml, hown, hts⟩ (xc_lossWith l D cI cZ cO (F := F) (ik := ik) (kp := kp) (tu := tu) (n := n) (A := A) (x0 := x0) (e0 := e0) (z := z) (mi := mi) hok f gi hf hg) (cwV 2 hts gL_isSafe_X4_lossWith rfl rfl rfl (by decide +kernel) ⟨Nat.le_of_ble_eq_true rfl, Nat.le_of_ble_eq_true rfl⟩) ⟨LW.blind, hC.recv hE.1, fun U hU hW => ⟨rfl, LW.mk2 hE hS hC U hU hW⟩⟩ rfl rfl hl.1 rfl (lv_room (Nat.le_of_ble_eq_true rfl)) dL_isSafe_140 ⟨Nat.le_of_ble_eq_true rfl, Nat.le_of_ble_eq_true rfl⟩) hS (fun q _ h => h) (fun q h => h) (fun r u t H locs ht hvm hw hC hz1 hk1 hS => ?_)
        rw [ht] at hC
        subst hw
        refine lv_iload_n hx hb dL_isSafe_143 rfl (lv_at hl 3 rfl) ?_
        refine lv_icmp_lt (tgt := 165) hx hb dL_isSafe_144 (by decide) (fun c_144 => absurd c_144 (mL_least hg)) (fun c_144 => ?_)
        refine lv_aload_n hx hb dL_isSafe_147 rfl (lv_at hl 0 rfl) ?_
        refine lv_iload_n hx hb dL_isSafe_148 rfl (lv_at hl 1 rfl) ?_
        refine lv_aload_n hx hb dL_isSafe_149 rfl (lv_at hl 0 rfl) ?_
        refine lv_iload_n hx hb dL_isSafe_150 rfl (lv_at hl 1 rfl) ?_
        refine va_calli (va_runV (As := [.int (nI f)]) (rest := [.int (nI f), .ref x0]) ⟨hx, hb, hml, hown, hts⟩ (xc_groupOf l D cI cZ cO (F := F) (ik := ik) (kp := kp) (tu := tu) (n := n) (A := A) (x0 := x0) (e0 := e0) (z := z) (mi := mi) hok f hf) (cwV 1 hts gL_isSafe_X4_groupOf rfl rfl rfl (by decide +kernel) ⟨Nat.le_of_ble_eq_true rfl, Nat.le_of_ble_eq_true rfl⟩) ⟨LW.blind, hC.recv hE.1, fun U hU hW => ⟨rfl, LW.mk2 hE hS hC U hU hW⟩⟩ rfl rfl hl.1 rfl (lv_room (Nat.le_of_ble_eq_true rfl)) dL_isSafe_151 ⟨Nat.le_of_ble_eq_true rfl, Nat.le_of_ble_eq_true rfl⟩) hS (fun q _ h => h) (fun q h => h) (fun r u t H locs ht hvm hw hC hz1 hk1 hS => ?_)
        rw [ht] at hC
        subst hw
        refine va_calli (va_runV (As := [.int (nI f), .int (mBest F o0 f)]) (rest := []) ⟨hx, hb, hml, hown, hts⟩ (xc_lossWith l D cI cZ cO (F := F) (ik := ik) (kp := kp) (tu := tu) (n := n) (A := A) (x0 := x0) (e0 := e0) (z := z) (mi := mi) hok f (mBest F o0 f) hf hgb) (cwV 2 hts gL_isSafe_X4_lossWith rfl rfl rfl (by decide +kernel) ⟨Nat.le_of_ble_eq_true rfl, Nat.le_of_ble_eq_true rfl⟩) ⟨LW.blind, hC.recv hE.1, fun U hU hW => ⟨rfl, LW.mk2 hE hS hC U hU hW⟩⟩ rfl rfl hl.1 rfl (lv_room (Nat.le_of_ble_eq_true rfl)) dL_isSafe_154 ⟨Nat.le_of_ble_eq_true rfl, Nat.le_of_ble_eq_true rfl⟩) hS (fun q _ h => h) (fun q h => h) (fun r u t H locs ht hvm hw hC hz1 hk1 hS => ?_)
        rw [ht] at hC
        subst hw
        refine lv_iload_n hx hb dL_isSafe_157 rfl (lv_at hl 3 rfl) ?_
        refine lv_icmp_ne (tgt := 165) hx hb dL_isSafe_158 (by decide) (fun c_158 => absurd (rfl) c_158) (fun c_158 => ?_)
        refine lv_iconst (v := 1) hx hb dL_isSafe_161 (by decide) ?_
        refine lv_goto (tgt := 166) hx hb dL_isSafe_162 (by decide) ?_
        subst hQ
        exact W.zret (v := 1) hx hb hr (by exact nar_b2i true) (fun t ht hW => ⟨⟨_, (), rfl, rfl, (show CX D cI cO A x0 e0 F ik kp tu n t.heap from by rw [ht]; exact hC)⟩, hS.F ht⟩) hS.2.2 dL_isSafe_166
      | succ dd ih =>
        intro k hk H locs ls hC hS hl
        have hk8 : k < 8 := by omega
        refine lv_iload hx hb dL_isSafe_28 (lv_at hl 6 rfl) ?_
        refine lv_bipush (v := 8) hx hb dL_isSafe_30 (by decide) ?_
        refine lv_icmp_ge (tgt := 123) hx hb dL_isSafe_32 (by decide) (fun c_32 => absurd c_32 (lt_no (N := 8) hk8 (by decide))) (fun c_32 => ?_)
        refine lv_iload hx hb dL_isSafe_35 (lv_at hl 5 rfl) ?_
        refine lv_if_eq (tgt := 123) hx hb dL_isSafe_37 (by decide) (fun c_37 => absurd c_37 (by decide)) (fun c_37 => ?_)
        refine lv_aload_n hx hb dL_isSafe_40 rfl (lv_at hl 0 rfl) ?_
        refine lv_iload hx hb dL_isSafe_41 (lv_at hl 6 rfl) ?_
        refine lv_iload_n hx hb dL_isSafe_43 rfl (lv_at hl 1 rfl) ?_
        refine va_calli (va_runV (As := [.int (nI k), .int (nI f)]) (rest := []) ⟨hx, hb, hml, hown, hts⟩ (xc_rights l D cI cZ cO (F := F) (ik := ik) (kp := kp) (tu := tu) (n := n) (A := A) (x0 := x0) (e0 := e0) (z := z) (mi := mi) hok k f hk8 hf) (cwV 2 hts gL_isSafe_X4_rights rfl rfl rfl (by decide +kernel) ⟨Nat.le_of_ble_eq_true rfl, Nat.le_of_ble_eq_true rfl⟩) ⟨LW.blind, hC.recv hE.1, fun U hU hW => ⟨rfl, LW.mk2 hE hS hC U hU hW⟩⟩ rfl rfl hl.1 rfl (lv_room (Nat.le_of_ble_eq_true rfl)) dL_isSafe_44 ⟨Nat.le_of_ble_eq_true rfl, Nat.le_of_ble_eq_true rfl⟩) hS (fun q _ h => h) (fun q h => h) (fun r u t H locs ht hvm hw hC hz1 hk1 hS => ?_)
        rw [ht] at hC
        subst hw
        refine lv_istore (lv' := [(7, .int (mRights F k f)), (0, .ref x0), (1, .int (nI f)), (2, .int gi), (3, .int (lossS (fun p => mRights F p f) (mV F o0 f (mBest F o0 f)) k)), (4, .int (mN F o0 f (mBest F o0 f))), (5, .int 1), (6, .int (nI k))]) hx hb dL_isSafe_47 hl (by decide) rfl (fun ls hl => ?_)
        refine lv_aload_n hx hb dL_isSafe_49 rfl (lv_at hl 1 rfl) ?_
        refine lv_iload hx hb dL_isSafe_50 (lv_at hl 7 rfl) ?_
        refine lv_iload_n hx hb dL_isSafe_52 rfl (lv_at hl 2 rfl) ?_
        refine va_calli (va_runV (As := [.int (nI k), .int (nI f)]) (rest := []) ⟨hx, hb, hml, hown, hts⟩ (xc_mapped l D cI cZ cO (F := F) (ik := ik) (kp := kp) (tu := tu) (n := n) (A := A) (x0 := x0) (e0 := e0) (z := z) (mi := mi) hok k f hk8 hf) (cwV 2 hts gL_isSafe_X4_mapped rfl rfl rfl (by decide +kernel) ⟨Nat.le_of_ble_eq_true rfl, Nat.le_of_ble_eq_true rfl⟩) ⟨LW.blind, hC.recv hE.1, fun U hU hW => ⟨rfl, LW.mk2 hE hS hC U hU hW⟩⟩ rfl rfl hl.1 rfl (lv_room (Nat.le_of_ble_eq_true rfl)) dL_isSafe_53 ⟨Nat.le_of_ble_eq_true rfl, Nat.le_of_ble_eq_true rfl⟩) hS (fun q _ h => h) (fun q h => h) (fun r u t H locs ht hvm hw hC hz1 hk1 hS => ?_)
        rw [ht] at hC
        subst hw
        refine lv_istore (lv' := [(8, .int (mV F o0 f (mBest F o0 f) k)), (7, .int (mRights F k f)), (0, .ref x0), (1, .int (nI f)), (2, .int gi), (3, .int (lossS (fun p => mRights F p f) (mV F o0 f (mBest F o0 f)) k)), (4, .int (mN F o0 f (mBest F o0 f))), (5, .int 1), (6, .int (nI k))]) hx hb dL_isSafe_56 hl (by decide) rfl (fun ls hl => ?_)
        refine lv_iload_n hx hb dL_isSafe_58 rfl (lv_at hl 5 rfl) ?_
        refine lv_iload hx hb dL_isSafe_59 (lv_at hl 1 rfl) ?_
        refine lv_iload hx hb dL_isSafe_61 (lv_at hl 0 rfl) ?_
        refine lv_iconst (v := (-1)) hx hb dL_isSafe_63 (by decide) ?_
        refine lv_ixor hx hb dL_isSafe_64 ?_
        refine lv_iand hx hb dL_isSafe_65 ?_
        refine vp_callSi (W.runS (As := [.int ((mRights F k f) &&& ((mV F o0 f (mBest F o0 f) k) ^^^ (-1)))]) (rest := [.int (lossS (fun p => mRights F p f) (mV F o0 f (mBest F o0 f)) k)]) ⟨hx, hb, hml, hown, hts⟩ (k_L_size l ((mRights F k f) &&& ((mV F o0 f (mBest F o0 f) k) ^^^ (-1)))) (va_cwS 1 hts gL_isSafe_L_size rfl rfl rfl (by decide +kernel) ⟨Nat.le_of_ble_eq_true rfl, Nat.le_of_ble_eq_true rfl⟩) ⟨nf_blind, fun U hU hW => ⟨rfl, trivial⟩⟩ rfl rfl hl.1 rfl (lv_room (Nat.le_of_ble_eq_true rfl)) dL_isSafe_66 ⟨Nat.le_of_ble_eq_true rfl, Nat.le_of_ble_eq_true rfl⟩) (fun r er => ?_)
        subst er
        refine lv_iadd hx hb dL_isSafe_69 ?_
        refine top_eq (y := lossS (fun p => mRights F p f) (mV F o0 f (mBest F o0 f)) (k + 1)) (rfl) ?_
        refine lv_istore_n (lv' := [(3, .int (lossS (fun p => mRights F p f) (mV F o0 f (mBest F o0 f)) (k + 1))), (8, .int (mV F o0 f (mBest F o0 f) k)), (7, .int (mRights F k f)), (0, .ref x0), (1, .int (nI f)), (2, .int gi), (4, .int (mN F o0 f (mBest F o0 f))), (5, .int 1), (6, .int (nI k))]) hx hb dL_isSafe_70 rfl hl (by decide) rfl (fun ls hl => ?_)
        refine lv_iload hx hb dL_isSafe_71 (lv_at hl 1 rfl) ?_
        refine lv_iload hx hb dL_isSafe_73 (lv_at hl 2 rfl) ?_
        refine lv_iconst (v := (-1)) hx hb dL_isSafe_75 (by decide) ?_
        refine lv_ixor hx hb dL_isSafe_76 ?_
        refine lv_iand hx hb dL_isSafe_77 ?_
        refine lv_if_ne (tgt := 114) hx hb dL_isSafe_78 (by decide) (fun c_78 => absurd (mV_0 hq h8 hk8) c_78) (fun c_78 => ?_)
        refine lv_iload hx hb dL_isSafe_81 (lv_at hl 2 rfl) ?_
        refine lv_aload_n hx hb dL_isSafe_83 rfl (lv_at hl 3 rfl) ?_
        refine lv_iload hx hb dL_isSafe_84 (lv_at hl 8 rfl) ?_
        refine lv_iload_n hx hb dL_isSafe_86 rfl (lv_at hl 4 rfl) ?_
        refine va_calli (va_runV (As := [.int (nI k), .int (nI f)]) (rest := [.int (mRights F k f)]) ⟨hx, hb, hml, hown, hts⟩ (xc_rightsBackwards l D cI cZ cO (F := F) (ik := ik) (kp := kp) (tu := tu) (n := n) (A := A) (x0 := x0) (e0 := e0) (z := z) (mi := mi) hok k f hk8 hf) (cwV 2 hts gL_isSafe_X4_rightsBackwards rfl rfl rfl (by decide +kernel) ⟨Nat.le_of_ble_eq_true rfl, Nat.le_of_ble_eq_true rfl⟩) ⟨LW.blind, hC.recv hE.1, fun U hU hW => ⟨rfl, LW.mk2 hE hS hC U hU hW⟩⟩ rfl rfl hl.1 rfl (lv_room (Nat.le_of_ble_eq_true rfl)) dL_isSafe_87 ⟨Nat.le_of_ble_eq_true rfl, Nat.le_of_ble_eq_true rfl⟩) hS (fun q _ h => h) (fun q h => h) (fun r u t H locs ht hvm hw hC hz1 hk1 hS => ?_)
        rw [ht] at hC
        subst hw
        refine lv_icmp_ne (tgt := 114) hx hb dL_isSafe_90 (by decide) (fun c_90 => absurd (rfl) c_90) (fun c_90 => ?_)
        refine lv_iload hx hb dL_isSafe_93 (lv_at hl 6 rfl) ?_
        refine lv_iload hx hb dL_isSafe_95 (lv_at hl 8 rfl) ?_
        refine lv_ishr hx hb dL_isSafe_97 ?_
        refine lv_iconst (v := 1) hx hb dL_isSafe_98 (by decide) ?_
        refine lv_iand hx hb dL_isSafe_99 ?_
        have J110 : W p l e (headSpec wsL_isSafe (rmr 7 190)).room s m args below meth c H locs (0 + 0 + 0 + 0) (0 + 0 + 0 + 0) Q (F0 m 110 ls []) := by
          refine lv_iconst (v := 1) hx hb dL_isSafe_110 (by decide) ?_
          refine lv_goto (tgt := 115) hx hb dL_isSafe_111 (by decide) ?_
          refine lv_istore (lv' := [(5, .int 1), (3, .int (lossS (fun p => mRights F p f) (mV F o0 f (mBest F o0 f)) (k + 1))), (8, .int (mV F o0 f (mBest F o0 f) k)), (7, .int (mRights F k f)), (0, .ref x0), (1, .int (nI f)), (2, .int gi), (4, .int (mN F o0 f (mBest F o0 f))), (6, .int (nI k))]) hx hb dL_isSafe_115 hl (by decide) rfl (fun ls hl => ?_)
          refine lv_iinc (v := nI (k + 1)) (lv' := [(6, .int (nI (k + 1))), (5, .int 1), (3, .int (lossS (fun p => mRights F p f) (mV F o0 f (mBest F o0 f)) (k + 1))), (8, .int (mV F o0 f (mBest F o0 f) k)), (7, .int (mRights F k f)), (0, .ref x0), (1, .int (nI f)), (2, .int gi), (4, .int (mN F o0 f (mBest F o0 f)))]) hx hb dL_isSafe_117 hl (k := 8) rfl (by exact iinc_n _) (by decide) rfl (fun ls hl => ?_)
          refine lv_goto (tgt := 28) hx hb dL_isSafe_120 (by decide) ?_
          exact ih (k + 1) (by omega) _ _ _ hC hS (lv_sub hl [5, 6, 7, 2, 8, 1, 0] rfl)
        refine lv_if_eq (tgt := 110) hx hb dL_isSafe_100 (by decide) (fun _ => J110) (fun c_100 => ?_)
        refine lv_iload hx hb dL_isSafe_103 (lv_at hl 1 rfl) ?_
        refine lv_iload hx hb dL_isSafe_105 (lv_at hl 2 rfl) ?_
        refine lv_icmp_ne (tgt := 114) hx hb dL_isSafe_107 (by decide) (fun c_107 => absurd (mV_nm hk8 c_100) c_107) (fun c_107 => ?_)
        exact J110
    exact L28 8 0 (by omega) _ _ _ hC hS (lv_sub hl [4, 5, 6, 3, 2, 1, 0] rfl)
  exact go _ _ hC hS
