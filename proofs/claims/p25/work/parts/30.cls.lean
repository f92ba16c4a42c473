set_option maxHeartbeats 800000 in
set_option maxRecDepth 100000 in
theorem k_X4_contains (l : Launch) (x0 : Int32) (x1 : Int32) : Met l yX4_contains wsX4_contains (rmr 0 0) (va_Pc [.int x0, .int x1] (fun _ => True)) (vp_Si (fun r => r = b2i (hasB x0 x1))) 0 0 (fun _ => False) := by
  refine Met.ofW (cc := cX4_contains) (maxL := 2) (ret := (some .boolean)) (by decide) rfl ?_
  intro p e s m args below meth c s₁ B hml hv
  obtain ⟨hargs, -⟩ := hv
  have hx := B.exec
  have hb := B.bytes
  have hr := B.returns
  have hts := atoms_spec (ws := wsX4_contains) B.pre
  have hown : s.vm.findClass RX4 = some m.cls := findClass_of_methodNamed B.named
  have hlocks := B.notSynchronized
  have hen : entryFrame m args 2 = entryFrame m ([.int x0, .int x1] : List Value).toArray 2 := by rw [hargs]
  rw [hen]
  have hl := lv_entry ([.int x0, .int x1]) (n := 2) (Nat.le_of_ble_eq_true rfl)
  rw [lg_entry_eq]
  generalize (lg_sl ([.int x0, .int x1]) ++ List.replicate (2 - (lg_sl ([.int x0, .int x1])).length) Slot.unset).toArray = ls at hl ⊢
  have hl : lv_has ls 2 [(0, .int x0), (1, .int x1)] := hl
  generalize hQ : MQ below (vp_Si (fun r => r = b2i (hasB x0 x1))) args s 0 0 (fun _ => False) = Q
  refine lv_iload_n hx hb dX4_contains_0 rfl (lv_at hl 0 rfl) ?_
  refine lv_iload_n hx hb dX4_contains_1 rfl (lv_at hl 1 rfl) ?_
  refine lv_ishr hx hb dX4_contains_2 ?_
  refine lv_iconst (v := 1) hx hb dX4_contains_3 (by decide) ?_
  refine lv_iand hx hb dX4_contains_4 ?_
  have J_13 : ∀ (z0 : Int32), z0 = (if ((x0 >>> (x1 &&& 31)) &&& 1) = 0 then 0 else 1) → ∀ ls : Array Slot, lv_has ls 2 [(0, .int x0), (1, .int x1)] → W p l e (headSpec wsX4_contains (rmr 0 0)).room s m args below meth c s.heap [] 0 0 Q (F0 m 13 ls [.int z0]) := by
    intro z0 ez0 ls hl
    subst ez0
    subst hQ
    have hrt : (if ((x0 >>> (x1 &&& 31)) &&& 1) = 0 then 0 else 1 : Int32) = b2i (hasB x0 x1) := by exact hasC_if _ _
    exact W.zret (v := if ((x0 >>> (x1 &&& 31)) &&& 1) = 0 then 0 else 1) hx hb hr (by rw [hrt]; exact nar_b2i _) (fun t ht _ => ⟨_, rfl, hrt, ht⟩) (fun _ h => absurd h List.not_mem_nil) dX4_contains_13
  refine lv_if_eq (tgt := 12) hx hb dX4_contains_5 (by decide) (fun c_5 => ?_) (fun c_5 => ?_)
  ·
    refine lv_iconst (v := 0) hx hb dX4_contains_12 (by decide) ?_
    exact J_13 _ ((if_pos c_5).symm) ls (lv_sub hl [0, 1] rfl)
  ·
    refine lv_iconst (v := 1) hx hb dX4_contains_8 (by decide) ?_
    refine lv_goto (tgt := 13) hx hb dX4_contains_9 (by decide) ?_
    exact J_13 _ ((if_neg c_5).symm) ls (lv_sub hl [0, 1] rfl)

set_option maxHeartbeats 800000 in
set_option maxRecDepth 100000 in
theorem k_X2_everyoneIn (l : Launch) (D : va_G) (cI cZ cO : ClassId) (ad : Nat → Nat) (pe : Nat → Int32) (inn : Nat → Int32) (ev : Nat → Int32) (x : Nat)  (hx6 : x < 6) : Met l yX2_everyoneIn wsX2_everyoneIn (rmr 0 0) (va_Pc [.ref (ad 0), .int (nI x)] (rdP D ([(cI, .int), (cI, .int), (cO, .object "java/lang/Object")]) (grW cI ad pe inn ev))) (vp_Si (fun r => r = ev x)) 0 0 (fun _ => False) := by
  refine Met.ofW (cc := cX2_everyoneIn) (maxL := 2) (ret := (some .int)) (by decide) rfl ?_
  intro p e s m args below meth c s₁ B hml hv
  obtain ⟨hargs, hP, hK, hN⟩ := hv
  have hx := B.exec
  have hb := B.bytes
  have hr := B.returns
  have hts := atoms_spec (ws := wsX2_everyoneIn) B.pre
  have hown : s.vm.findClass RX2 = some m.cls := findClass_of_methodNamed B.named
  have hlocks := B.notSynchronized
  have hen : entryFrame m args 2 = entryFrame m ([.ref (ad 0), .int (nI x)] : List Value).toArray 2 := by rw [hargs]
  rw [hen]
  have hl := lv_entry ([.ref (ad 0), .int (nI x)]) (n := 2) (Nat.le_of_ble_eq_true rfl)
  rw [lg_entry_eq]
  generalize (lg_sl ([.ref (ad 0), .int (nI x)]) ++ List.replicate (2 - (lg_sl ([.ref (ad 0), .int (nI x)])).length) Slot.unset).toArray = ls at hl ⊢
  have hl : lv_has ls 2 [(0, .ref (ad 0)), (1, .int (nI x))] := hl
  generalize hQ : MQ below (vp_Si (fun r => r = ev x)) args s 0 0 (fun _ => False) = Q
  refine lv_aload_n hx hb dX2_everyoneIn_0 rfl (lv_at hl 0 rfl) ?_
  refine va_get (D := D) (ci := 3) (v := .ref (ad 3)) (C := RX2) (T := TX2) (N := 3) hx hb hts (fun _ h => List.mem_cons_of_mem _ (List.mem_append_right _ (h))) hown hK hP 0 rfl rfl 2 (by decide) (hts _ (List.mem_of_getElem? (i := 1) rfl)) (fun _ h9 => h9) rfl dX2_everyoneIn_1 ?_
  refine lv_iload_n hx hb dX2_everyoneIn_4 rfl (lv_at hl 1 rfl) ?_
  refine ld_i (k := x) hx hb hK hP 3 0 rfl rfl (by omega) (by decide) dX2_everyoneIn_5 ?_
  subst hQ
  exact W.iret (v := ev x) hx hb hr (fun t ht _ => ⟨_, rfl, (by rfl), ht⟩) (fun _ h => absurd h List.not_mem_nil) dX2_everyoneIn_6

set_option maxHeartbeats 800000 in
set_option maxRecDepth 100000 in
theorem k_X2_reachedFrom (l : Launch) (D : va_G) (cI cZ cO : ClassId) (ad : Nat → Nat) (pe : Nat → Int32) (inn : Nat → Int32) (ev : Nat → Int32) (x : Nat)   : Met l yX2_reachedFrom wsX2_reachedFrom (rmr 1 21) (va_Pc [.ref (ad 0), .int (nI x)] (rdP D ([(cI, .int), (cI, .int), (cO, .object "java/lang/Object")]) (grW cI ad pe inn ev))) (vp_Si (fun r => r = cRch inn x)) 0 0 (fun _ => False) := by
  refine Met.ofW (cc := cX2_reachedFrom) (maxL := 5) (ret := (some .int)) (by decide) rfl ?_
  intro p e s m args below meth c s₁ B hml hv
  obtain ⟨hargs, hP, hK, hN⟩ := hv
  have hx := B.exec
  have hb := B.bytes
  have hr := B.returns
  have hts := atoms_spec (ws := wsX2_reachedFrom) B.pre
  have hown : s.vm.findClass RX2 = some m.cls := findClass_of_methodNamed B.named
  have hlocks := B.notSynchronized
  have hen : entryFrame m args 5 = entryFrame m ([.ref (ad 0), .int (nI x)] : List Value).toArray 5 := by rw [hargs]
  rw [hen]
  have hl := lv_entry ([.ref (ad 0), .int (nI x)]) (n := 5) (Nat.le_of_ble_eq_true rfl)
  rw [lg_entry_eq]
  generalize (lg_sl ([.ref (ad 0), .int (nI x)]) ++ List.replicate (5 - (lg_sl ([.ref (ad 0), .int (nI x)])).length) Slot.unset).toArray = ls at hl ⊢
  have hl : lv_has ls 5 [(0, .ref (ad 0)), (1, .int (nI x))] := hl
  generalize hQ : MQ below (vp_Si (fun r => r = cRch inn x)) args s 0 0 (fun _ => False) = Q
  refine lv_iconst (v := 1) hx hb dX2_reachedFrom_0 (by decide) ?_
  refine lv_iload_n hx hb dX2_reachedFrom_1 rfl (lv_at hl 1 rfl) ?_
  refine lv_ishl hx hb dX2_reachedFrom_2 ?_
  refine lv_istore_n (lv' := [(2, .int ((1 : Int32) <<< ((nI x) &&& 31))), (0, .ref (ad 0)), (1, .int (nI x))]) hx hb dX2_reachedFrom_3 rfl hl (by decide) rfl (fun ls hl => ?_)
  refine lv_iconst (v := 1) hx hb dX2_reachedFrom_4 (by decide) ?_
  refine lv_istore_n (lv' := [(3, .int 1), (2, .int ((1 : Int32) <<< ((nI x) &&& 31))), (0, .ref (ad 0)), (1, .int (nI x))]) hx hb dX2_reachedFrom_5 rfl hl (by decide) rfl (fun ls hl => ?_)
  have L_6 : ∀ fz i : Nat, i ≤ 5 → 5 - i < fz → ∀ (v2 : Int32), v2 = (grnds inn ((1 : Int32) <<< (nI x &&& 31)) i) → ∀ ls : Array Slot, lv_has ls 5 [(0, .ref (ad 0)), (1, .int (nI x)), (3, .int (nI (i + 1))), (2, .int v2)] → W p l e (headSpec wsX2_reachedFrom (rmr 1 21)).room s m args below meth c s.heap [] 0 0 Q (F0 m 6 ls []) := by
    intro fz
    induction fz with
    | zero => intro i _ h; exact absurd h (Nat.not_lt_zero _)
    | succ fz ih_6 =>
      intro i hi_6 hn_6 v2 ev2 ls hl
      subst ev2
      rcases Nat.lt_or_ge i 5 with h_i | h_i
      ·
        refine lv_iload_n hx hb dX2_reachedFrom_6 rfl (lv_at hl 2 rfl) ?_
        refine lv_bipush (v := 6) hx hb dX2_reachedFrom_7 (by decide) ?_
        refine lv_icmp_ge (tgt := 53) hx hb dX2_reachedFrom_9 (by decide) (fun c_9 => absurd c_9 (lt_no (N := 6) (by omega) (by decide))) (fun c_9 => ?_)
        refine lv_iconst (v := 0) hx hb dX2_reachedFrom_12 (by decide) ?_
        refine lv_istore (lv' := [(4, .int 0), (0, .ref (ad 0)), (1, .int (nI x)), (3, .int (nI (i + 1))), (2, .int (grnds inn ((1 : Int32) <<< (nI x &&& 31)) i))]) hx hb dX2_reachedFrom_13 hl (by decide) rfl (fun ls hl => ?_)
        have L_15 : ∀ fz j : Nat, j ≤ 6 → 6 - j < fz → ∀ (v2 : Int32), v2 = (gstep inn (grnds inn ((1 : Int32) <<< (nI x &&& 31)) i) j) → ∀ ls : Array Slot, lv_has ls 5 [(0, .ref (ad 0)), (1, .int (nI x)), (3, .int (nI (i + 1))), (4, .int (nI j)), (2, .int v2)] → W p l e (headSpec wsX2_reachedFrom (rmr 1 21)).room s m args below meth c s.heap [] 0 0 Q (F0 m 15 ls []) := by
          intro fz
          induction fz with
          | zero => intro j _ h; exact absurd h (Nat.not_lt_zero _)
          | succ fz ih_15 =>
            intro j hi_15 hn_15 v2 ev2 ls hl
            subst ev2
            rcases Nat.lt_or_ge j 6 with h_j | h_j
            ·
              refine lv_iload hx hb dX2_reachedFrom_15 (lv_at hl 3 rfl) ?_
              refine lv_bipush (v := 6) hx hb dX2_reachedFrom_17 (by decide) ?_
              refine lv_icmp_ge (tgt := 47) hx hb dX2_reachedFrom_19 (by decide) (fun c_19 => absurd c_19 (lt_no h_j (by decide))) (fun c_19 => ?_)
              refine lv_iload_n hx hb dX2_reachedFrom_22 rfl (lv_at hl 4 rfl) ?_
              refine lv_iload hx hb dX2_reachedFrom_23 (lv_at hl 3 rfl) ?_
              refine vs_callSi (va_runSN (As := [.int (gstep inn (grnds inn ((1 : Int32) <<< (nI x &&& 31)) i) j), .int (nI j)]) (rest := []) ⟨hx, hb, hml, hown, hts⟩ (k_X4_contains l (gstep inn (grnds inn ((1 : Int32) <<< (nI x &&& 31)) i) j) (nI j)) ⟨va_cnB (host := RX4) 2 hts ggX2_reachedFrom_X4_contains rfl rfl rfl hN.1 (hts _ (List.mem_of_getElem? (i := 3) rfl)) (by decide +kernel) ⟨Nat.le_of_ble_eq_true rfl, Nat.le_of_ble_eq_true rfl⟩, (hts _ (List.mem_of_getElem? (i := 2) rfl)), trivial⟩ ⟨nf_blind, fun U hU hW => ⟨rfl, trivial⟩⟩ rfl rfl hl.1 rfl (lv_room (Nat.le_of_ble_eq_true rfl)) dX2_reachedFrom_25 ⟨Nat.le_of_ble_eq_true rfl, Nat.le_of_ble_eq_true rfl⟩) (fun r er => ?_)
              subst er
              have J_41 : ∀ (y2 : Int32), y2 = (if (hasB (gstep inn (grnds inn ((1 : Int32) <<< (nI x &&& 31)) i) j) (nI j)) = true then (gstep inn (grnds inn ((1 : Int32) <<< (nI x &&& 31)) i) j) ||| (inn j) else gstep inn (grnds inn ((1 : Int32) <<< (nI x &&& 31)) i) j) → ∀ ls : Array Slot, lv_has ls 5 [(0, .ref (ad 0)), (1, .int (nI x)), (2, .int y2), (3, .int (nI (i + 1))), (4, .int (nI j))] → W p l e (headSpec wsX2_reachedFrom (rmr 1 21)).room s m args below meth c s.heap [] 0 0 Q (F0 m 41 ls []) := by
                intro y2 ey2 ls hl
                subst ey2
                refine lv_iinc (v := nI (j + 1)) (lv' := [(4, .int (nI (j + 1))), (0, .ref (ad 0)), (1, .int (nI x)), (2, .int (if (hasB (gstep inn (grnds inn ((1 : Int32) <<< (nI x &&& 31)) i) j) (nI j)) = true then (gstep inn (grnds inn ((1 : Int32) <<< (nI x &&& 31)) i) j) ||| (inn j) else gstep inn (grnds inn ((1 : Int32) <<< (nI x &&& 31)) i) j)), (3, .int (nI (i + 1)))]) hx hb dX2_reachedFrom_41 hl (k := 4) rfl (by exact iinc_n _) (by decide) rfl (fun ls hl => ?_)
                refine lv_goto (tgt := 15) hx hb dX2_reachedFrom_44 (by decide) ?_
                exact ih_15 (j + 1) (by omega) (by omega) _ (by exact gstep_c inn _ j) ls (lv_sub hl [1, 2, 4, 0, 3] rfl)
              refine lv_if_eq (tgt := 41) hx hb dX2_reachedFrom_28 (by decide) (fun c_28 => ?_) (fun c_28 => ?_)
              ·
                have c_28 := b2i_0 c_28
                exact J_41 _ ((if_neg (b2i_bf c_28)).symm) ls (lv_sub hl [0, 1, 4, 2, 3] rfl)
              ·
                have c_28 := b2i_1 c_28
                refine lv_iload_n hx hb dX2_reachedFrom_31 rfl (lv_at hl 4 rfl) ?_
                refine lv_aload_n hx hb dX2_reachedFrom_32 rfl (lv_at hl 0 rfl) ?_
                refine va_get (D := D) (ci := 3) (v := .ref (ad 2)) (C := RX2) (T := TX2) (N := 3) hx hb hts (fun _ h => List.mem_cons_of_mem _ (List.mem_append_right _ (h))) hown hK hP 0 rfl rfl 1 (by decide) (hts _ (List.mem_of_getElem? (i := 1) rfl)) (fun _ h9 => h9) rfl dX2_reachedFrom_33 ?_
                refine lv_iload hx hb dX2_reachedFrom_36 (lv_at hl 3 rfl) ?_
                refine ld_i (k := j) hx hb hK hP 2 0 rfl rfl (by omega) (by decide) dX2_reachedFrom_38 ?_
                refine lv_ior hx hb dX2_reachedFrom_39 ?_
                refine lv_istore_n (lv' := [(2, .int ((gstep inn (grnds inn ((1 : Int32) <<< (nI x &&& 31)) i) j) ||| (inn j))), (0, .ref (ad 0)), (1, .int (nI x)), (3, .int (nI (i + 1))), (4, .int (nI j))]) hx hb dX2_reachedFrom_40 rfl hl (by decide) rfl (fun ls hl => ?_)
                exact J_41 _ ((if_pos c_28).symm) ls (lv_sub hl [1, 2, 0, 3, 4] rfl)
            ·
              obtain rfl : 6 = j := by omega
              refine lv_iload hx hb dX2_reachedFrom_15 (lv_at hl 3 rfl) ?_
              refine lv_bipush (v := 6) hx hb dX2_reachedFrom_17 (by decide) ?_
              refine lv_icmp_ge (tgt := 47) hx hb dX2_reachedFrom_19 (by decide) (fun c_19 => ?_) (fun c_19 => absurd (lt_yes h_j (by decide)) c_19)
              refine lv_iinc (v := nI (i + 1 + 1)) (lv' := [(3, .int (nI (i + 1 + 1))), (0, .ref (ad 0)), (1, .int (nI x)), (4, .int (nI 6)), (2, .int (gstep inn (grnds inn ((1 : Int32) <<< (nI x &&& 31)) i) 6))]) hx hb dX2_reachedFrom_47 hl (k := 2) rfl (by exact iinc_n _) (by decide) rfl (fun ls hl => ?_)
              refine lv_goto (tgt := 6) hx hb dX2_reachedFrom_50 (by decide) ?_
              exact ih_6 (i + 1) (by omega) (by omega) _ (by rfl) ls (lv_sub hl [1, 2, 0, 4] rfl)
        exact L_15 (6 + 1) 0 (by omega) (by omega) _ (by rfl) ls (lv_sub hl [1, 2, 3, 0, 4] rfl)
      ·
        obtain rfl : 5 = i := by omega
        refine lv_iload_n hx hb dX2_reachedFrom_6 rfl (lv_at hl 2 rfl) ?_
        refine lv_bipush (v := 6) hx hb dX2_reachedFrom_7 (by decide) ?_
        refine lv_icmp_ge (tgt := 53) hx hb dX2_reachedFrom_9 (by decide) (fun c_9 => ?_) (fun c_9 => absurd (lt_yes (N := 6) (by omega) (by decide)) c_9)
        refine lv_iload_n hx hb dX2_reachedFrom_53 rfl (lv_at hl 3 rfl) ?_
        subst hQ
        exact W.iret (v := grnds inn ((1 : Int32) <<< (nI x &&& 31)) 5) hx hb hr (fun t ht _ => ⟨_, rfl, (by rfl), ht⟩) (fun _ h => absurd h List.not_mem_nil) dX2_reachedFrom_54
  exact L_6 (5 + 1) 0 (by omega) (by omega) _ (by rfl) ls (lv_sub hl [2, 3, 0, 1] rfl)

set_option maxHeartbeats 800000 in
set_option maxRecDepth 100000 in
theorem k_X2_findEveryone (l : Launch) (D : va_G) (cI cZ cO : ClassId) (ad : Nat → Nat) (A : Nat → Prop) (pe : Nat → Int32) (inn : Nat → Int32) (ev : Nat → Int32) (hA : apD 4 A ad)    : Met l yX2_findEveryone wsX2_findEveryone (rmr 2 45) (va_Pc [.ref (ad 0)] (rdP D ([(cI, .int), (cI, .int), (cO, .object "java/lang/Object")]) (grW cI ad pe inn ev))) (va_Qv (fun _ : Unit => True) (fun _ t => va_P D vwCl (grW cI ad pe inn (evA pe inn ev)) t.heap) A) 0 0 A := by
  refine Met.ofW (cc := cX2_findEveryone) (maxL := 5) (ret := none) (by decide) rfl ?_
  intro p e s m args below meth c s₁ B hml hv
  obtain ⟨hargs, hP, hK, hN⟩ := hv
  have hx := B.exec
  have hb := B.bytes
  have hr := B.returns
  have hts := atoms_spec (ws := wsX2_findEveryone) B.pre
  have hown : s.vm.findClass RX2 = some m.cls := findClass_of_methodNamed B.named
  have hlocks := B.notSynchronized
  have hen : entryFrame m args 5 = entryFrame m ([.ref (ad 0)] : List Value).toArray 5 := by rw [hargs]
  rw [hen]
  have hl := lv_entry ([.ref (ad 0)]) (n := 5) (Nat.le_of_ble_eq_true rfl)
  rw [lg_entry_eq]
  generalize (lg_sl ([.ref (ad 0)]) ++ List.replicate (5 - (lg_sl ([.ref (ad 0)])).length) Slot.unset).toArray = ls at hl ⊢
  have hl : lv_has ls 5 [(0, .ref (ad 0))] := hl
  have hS : va_S A s.heap s.heap [] := va_S.rf
  generalize hQ : MQ below (va_Qv (fun _ : Unit => True) (fun _ t => va_P D vwCl (grW cI ad pe inn (evA pe inn ev)) t.heap) A) args s 0 0 A = Q
  have go : ∀ (H : Heap) (locs : List Loc), va_P D vwCl (grW cI ad pe inn ev) H → va_S A s.heap H locs → W p l e (headSpec wsX2_findEveryone (rmr 2 45)).room s m args below meth c H locs 0 0 Q (F0 m 0 ls []) := by
    intro H locs hP hS
    refine lv_iconst (v := 0) hx hb dX2_findEveryone_0 (by decide) ?_
    refine lv_istore_n (lv' := [(1, .int 0), (0, .ref (ad 0))]) hx hb dX2_findEveryone_1 rfl hl (by decide) rfl (fun ls hl => ?_)
    have L_2 : ∀ fz i : Nat, i ≤ 6 → 6 - i < fz → ∀ (kev : Nat → Int32), kev = (fillA ev (cMem pe inn) i) → ∀ (H : Heap) (locs : List Loc), va_P D vwCl (grW cI ad pe inn kev) H → va_S A s.heap H locs → ∀ ls : Array Slot, lv_has ls 5 [(0, .ref (ad 0)), (1, .int (nI i))] → W p l e (headSpec wsX2_findEveryone (rmr 2 45)).room s m args below meth c H locs 0 0 Q (F0 m 2 ls []) := by
      intro fz
      induction fz with
      | zero => intro i _ h; exact absurd h (Nat.not_lt_zero _)
      | succ fz ih_2 =>
        intro i hi_2 hn_2 kev ekev H locs hP hS ls hl
        subst ekev
        rcases Nat.lt_or_ge i 6 with h_i | h_i
        ·
          refine lv_iload_n hx hb dX2_findEveryone_2 rfl (lv_at hl 1 rfl) ?_
          refine lv_bipush (v := 6) hx hb dX2_findEveryone_3 (by decide) ?_
          refine lv_icmp_ge (tgt := 64) hx hb dX2_findEveryone_5 (by decide) (fun c_5 => absurd c_5 (lt_no h_i (by decide))) (fun c_5 => ?_)
          refine lv_aload_n hx hb dX2_findEveryone_8 rfl (lv_at hl 0 rfl) ?_
          refine lv_iload_n hx hb dX2_findEveryone_9 rfl (lv_at hl 1 rfl) ?_
          refine vp_callSi (W.runV (As := [.int (nI i)]) (rest := []) ⟨hx, hb, hml, hown, hts⟩ (k_X2_reachedFrom l D cI cZ cO ad pe inn (fillA ev (cMem pe inn) i) i) (cwV 1 hts gX2_findEveryone_X2_reachedFrom rfl rfl rfl (by decide +kernel) ⟨Nat.le_of_ble_eq_true rfl, Nat.le_of_ble_eq_true rfl⟩) ⟨rd_blind, va_recv hK hP (ci := 3) (q0 := 0) rfl rfl, rd_pre hP hK hN⟩ rfl rfl hl.1 rfl (lv_room (Nat.le_of_ble_eq_true rfl)) dX2_findEveryone_10 ⟨Nat.le_of_ble_eq_true rfl, Nat.le_of_ble_eq_true rfl⟩) (fun r er => ?_)
          subst er
          refine lv_istore_n (lv' := [(2, .int (cRch inn i)), (0, .ref (ad 0)), (1, .int (nI i))]) hx hb dX2_findEveryone_13 rfl hl (by decide) rfl (fun ls hl => ?_)
          refine lv_iconst (v := 0) hx hb dX2_findEveryone_14 (by decide) ?_
          refine lv_istore_n (lv' := [(3, .int 0), (2, .int (cRch inn i)), (0, .ref (ad 0)), (1, .int (nI i))]) hx hb dX2_findEveryone_15 rfl hl (by decide) rfl (fun ls hl => ?_)
          refine lv_iconst (v := 0) hx hb dX2_findEveryone_16 (by decide) ?_
          refine lv_istore (lv' := [(4, .int 0), (3, .int 0), (2, .int (cRch inn i)), (0, .ref (ad 0)), (1, .int (nI i))]) hx hb dX2_findEveryone_17 hl (by decide) rfl (fun ls hl => ?_)
          have L_19 : ∀ fz j : Nat, j ≤ 6 → 6 - j < fz → ∀ (v3 : Int32), v3 = (memb pe (cRch inn i) j) → ∀ (H : Heap) (locs : List Loc), va_P D vwCl (grW cI ad pe inn (fillA ev (cMem pe inn) i)) H → va_S A s.heap H locs → ∀ ls : Array Slot, lv_has ls 5 [(0, .ref (ad 0)), (1, .int (nI i)), (2, .int (cRch inn i)), (4, .int (nI j)), (3, .int v3)] → W p l e (headSpec wsX2_findEveryone (rmr 2 45)).room s m args below meth c H locs 0 0 Q (F0 m 19 ls []) := by
            intro fz
            induction fz with
            | zero => intro j _ h; exact absurd h (Nat.not_lt_zero _)
            | succ fz ih_19 =>
              intro j hi_19 hn_19 v3 ev3 H locs hP hS ls hl
              subst ev3
              rcases Nat.lt_or_ge j 6 with h_j | h_j
              ·
                refine lv_iload hx hb dX2_findEveryone_19 (lv_at hl 3 rfl) ?_
                refine lv_bipush (v := 6) hx hb dX2_findEveryone_21 (by decide) ?_
                refine lv_icmp_ge (tgt := 51) hx hb dX2_findEveryone_23 (by decide) (fun c_23 => absurd c_23 (lt_no h_j (by decide))) (fun c_23 => ?_)
                refine lv_iload_n hx hb dX2_findEveryone_26 rfl (lv_at hl 2 rfl) ?_
                refine lv_iload hx hb dX2_findEveryone_27 (lv_at hl 3 rfl) ?_
                refine vs_callSi (va_runSN (As := [.int (cRch inn i), .int (nI j)]) (rest := []) ⟨hx, hb, hml, hown, hts⟩ (k_X4_contains l (cRch inn i) (nI j)) ⟨va_cnB (host := RX4) 2 hts ggX2_findEveryone_X4_contains rfl rfl rfl hN.1 (hts _ (List.mem_of_getElem? (i := 10) rfl)) (by decide +kernel) ⟨Nat.le_of_ble_eq_true rfl, Nat.le_of_ble_eq_true rfl⟩, (hts _ (List.mem_of_getElem? (i := 9) rfl)), trivial⟩ ⟨nf_blind, fun U hU hW => ⟨rfl, trivial⟩⟩ rfl rfl hl.1 rfl (lv_room (Nat.le_of_ble_eq_true rfl)) dX2_findEveryone_29 ⟨Nat.le_of_ble_eq_true rfl, Nat.le_of_ble_eq_true rfl⟩) (fun r er => ?_)
                subst er
                have J_45 : ∀ (y3 : Int32), y3 = (if (hasB (cRch inn i) (nI j)) = true then (memb pe (cRch inn i) j) ||| (pe j) else memb pe (cRch inn i) j) → ∀ (H : Heap) (locs : List Loc), va_P D vwCl (grW cI ad pe inn (fillA ev (cMem pe inn) i)) H → va_S A s.heap H locs → ∀ ls : Array Slot, lv_has ls 5 [(0, .ref (ad 0)), (1, .int (nI i)), (2, .int (cRch inn i)), (3, .int y3), (4, .int (nI j))] → W p l e (headSpec wsX2_findEveryone (rmr 2 45)).room s m args below meth c H locs 0 0 Q (F0 m 45 ls []) := by
                  intro y3 ey3 H locs hP hS ls hl
                  subst ey3
                  refine lv_iinc (v := nI (j + 1)) (lv' := [(4, .int (nI (j + 1))), (0, .ref (ad 0)), (1, .int (nI i)), (2, .int (cRch inn i)), (3, .int (if (hasB (cRch inn i) (nI j)) = true then (memb pe (cRch inn i) j) ||| (pe j) else memb pe (cRch inn i) j))]) hx hb dX2_findEveryone_45 hl (k := 4) rfl (by exact iinc_n _) (by decide) rfl (fun ls hl => ?_)
                  refine lv_goto (tgt := 19) hx hb dX2_findEveryone_48 (by decide) ?_
                  exact ih_19 (j + 1) (by omega) (by omega) _ (by exact memb_c pe _ j) _ _ hP hS ls (lv_sub hl [1, 2, 3, 0, 4] rfl)
                refine lv_if_eq (tgt := 45) hx hb dX2_findEveryone_32 (by decide) (fun c_32 => ?_) (fun c_32 => ?_)
                ·
                  have c_32 := b2i_0 c_32
                  exact J_45 _ ((if_neg (b2i_bf c_32)).symm) _ _ hP hS ls (lv_sub hl [0, 1, 2, 4, 3] rfl)
                ·
                  have c_32 := b2i_1 c_32
                  refine lv_iload_n hx hb dX2_findEveryone_35 rfl (lv_at hl 4 rfl) ?_
                  refine lv_aload_n hx hb dX2_findEveryone_36 rfl (lv_at hl 0 rfl) ?_
                  refine va_get (D := D) (ci := 3) (v := .ref (ad 1)) (C := RX2) (T := TX2) (N := 3) hx hb hts (fun _ h => List.mem_cons_of_mem _ (List.mem_append_right _ (h))) hown hK hP 0 rfl rfl 0 (by decide) (hts _ (List.mem_of_getElem? (i := 1) rfl)) (fun _ h9 => h9) rfl dX2_findEveryone_37 ?_
                  refine lv_iload hx hb dX2_findEveryone_40 (lv_at hl 3 rfl) ?_
                  refine ld_i (k := j) hx hb hK hP 1 0 rfl rfl (by omega) (by decide) dX2_findEveryone_42 ?_
                  refine lv_ior hx hb dX2_findEveryone_43 ?_
                  refine lv_istore_n (lv' := [(3, .int ((memb pe (cRch inn i) j) ||| (pe j))), (0, .ref (ad 0)), (1, .int (nI i)), (2, .int (cRch inn i)), (4, .int (nI j))]) hx hb dX2_findEveryone_44 rfl hl (by decide) rfl (fun ls hl => ?_)
                  exact J_45 _ ((if_pos c_32).symm) _ _ hP hS ls (lv_sub hl [1, 2, 3, 0, 4] rfl)
              ·
                obtain rfl : 6 = j := by omega
                refine lv_iload hx hb dX2_findEveryone_19 (lv_at hl 3 rfl) ?_
                refine lv_bipush (v := 6) hx hb dX2_findEveryone_21 (by decide) ?_
                refine lv_icmp_ge (tgt := 51) hx hb dX2_findEveryone_23 (by decide) (fun c_23 => ?_) (fun c_23 => absurd (lt_yes h_j (by decide)) c_23)
                refine lv_aload_n hx hb dX2_findEveryone_51 rfl (lv_at hl 0 rfl) ?_
                refine va_get (D := D) (ci := 3) (v := .ref (ad 3)) (C := RX2) (T := TX2) (N := 3) hx hb hts (fun _ h => List.mem_cons_of_mem _ (List.mem_append_right _ (h))) hown hK hP 0 rfl rfl 2 (by decide) (hts _ (List.mem_of_getElem? (i := 2) rfl)) (fun _ h9 => h9) rfl dX2_findEveryone_52 ?_
                refine lv_iload_n hx hb dX2_findEveryone_55 rfl (lv_at hl 1 rfl) ?_
                refine lv_iload_n hx hb dX2_findEveryone_56 rfl (lv_at hl 4 rfl) ?_
                refine st_i (k := i) hx hb hK hP (gr_D hA) hS 3 0 rfl rfl (by omega) (by decide) dX2_findEveryone_57 (fun H locs hP _ hS => ?_)
                have hP : va_P D vwCl (grW cI ad pe inn (upd (fillA ev (cMem pe inn) i) i (memb pe (cRch inn i) 6))) H := hP
                refine lv_iinc (v := nI (i + 1)) (lv' := [(1, .int (nI (i + 1))), (0, .ref (ad 0)), (2, .int (cRch inn i)), (4, .int (nI 6)), (3, .int (memb pe (cRch inn i) 6))]) hx hb dX2_findEveryone_58 hl (k := 1) rfl (by exact iinc_n _) (by decide) rfl (fun ls hl => ?_)
                refine lv_goto (tgt := 2) hx hb dX2_findEveryone_61 (by decide) ?_
                exact ih_2 (i + 1) (by omega) (by omega) _ (by rfl) _ _ hP hS ls (lv_sub hl [1, 0] rfl)
          exact L_19 (6 + 1) 0 (by omega) (by omega) _ (by rfl) _ _ hP hS ls (lv_sub hl [3, 4, 2, 0, 1] rfl)
        ·
          obtain rfl : 6 = i := by omega
          refine lv_iload_n hx hb dX2_findEveryone_2 rfl (lv_at hl 1 rfl) ?_
          refine lv_bipush (v := 6) hx hb dX2_findEveryone_3 (by decide) ?_
          refine lv_icmp_ge (tgt := 64) hx hb dX2_findEveryone_5 (by decide) (fun c_5 => ?_) (fun c_5 => absurd (lt_yes h_i (by decide)) c_5)
          subst hQ
          have hP : va_P D vwCl (grW cI ad pe inn (fillA ev (cMem pe inn) 6)) H := hP
          have qev : fillA ev (cMem pe inn) 6 = evA pe inn ev := by rfl
          have hP : va_P D vwCl (grW cI ad pe inn (evA pe inn ev)) H := grW_P rfl rfl qev hP
          exact W.vret hx hb hr (fun t ht _ => ⟨⟨(), rfl, trivial, by have e := hP; rw [← ht] at e; exact e⟩, hS.F ht⟩) hS.2.2 dX2_findEveryone_64
    exact L_2 (6 + 1) 0 (by omega) (by omega) _ (by rfl) _ _ hP hS ls (lv_sub hl [1, 0] rfl)
  exact go _ _ hP hS

set_option maxHeartbeats 800000 in
set_option maxRecDepth 100000 in
theorem k_X2_put (l : Launch) (D : va_G) (cI cZ cO : ClassId) (ad : Nat → Nat) (A : Nat → Prop) (pe : Nat → Int32) (inn : Nat → Int32) (ev : Nat → Int32) (hA : apD 4 A ad) (x : Nat) (y : Nat) (b : Bool)  (hx6 : x < 6) : Met l yX2_put wsX2_put (rmr 3 69) (va_Pc [.ref (ad 0), .int (nI x), .int (nI y), .int (b2i b)] (rdP D ([(cI, .int), (cI, .int), (cO, .object "java/lang/Object")]) (grW cI ad pe inn ev))) (va_Qi (fun (r : Int32) (_ : Unit) => r = b2i (hasB (pe x) (nI y))) (fun _ t => va_P D vwCl (grW cI ad (if b2i (hasB (pe x) (nI y)) = b2i b then pe else upd pe x (pe x ^^^ ((1 : Int32) <<< (nI y &&& 31)))) inn (if b2i (hasB (pe x) (nI y)) = b2i b then ev else evA (upd pe x (pe x ^^^ ((1 : Int32) <<< (nI y &&& 31)))) inn ev)) t.heap) A) 0 0 A := by
  refine Met.ofW (cc := cX2_put) (maxL := 5) (ret := (some .boolean)) (by decide) rfl ?_
  intro p e s m args below meth c s₁ B hml hv
  obtain ⟨hargs, hP, hK, hN⟩ := hv
  have hx := B.exec
  have hb := B.bytes
  have hr := B.returns
  have hts := atoms_spec (ws := wsX2_put) B.pre
  have hown : s.vm.findClass RX2 = some m.cls := findClass_of_methodNamed B.named
  have hlocks := B.notSynchronized
  have hen : entryFrame m args 5 = entryFrame m ([.ref (ad 0), .int (nI x), .int (nI y), .int (b2i b)] : List Value).toArray 5 := by rw [hargs]
  rw [hen]
  have hl := lv_entry ([.ref (ad 0), .int (nI x), .int (nI y), .int (b2i b)]) (n := 5) (Nat.le_of_ble_eq_true rfl)
  rw [lg_entry_eq]
  generalize (lg_sl ([.ref (ad 0), .int (nI x), .int (nI y), .int (b2i b)]) ++ List.replicate (5 - (lg_sl ([.ref (ad 0), .int (nI x), .int (nI y), .int (b2i b)])).length) Slot.unset).toArray = ls at hl ⊢
  have hl : lv_has ls 5 [(0, .ref (ad 0)), (1, .int (nI x)), (2, .int (nI y)), (3, .int (b2i b))] := hl
  have hS : va_S A s.heap s.heap [] := va_S.rf
  generalize hQ : MQ below (va_Qi (fun (r : Int32) (_ : Unit) => r = b2i (hasB (pe x) (nI y))) (fun _ t => va_P D vwCl (grW cI ad (if b2i (hasB (pe x) (nI y)) = b2i b then pe else upd pe x (pe x ^^^ ((1 : Int32) <<< (nI y &&& 31)))) inn (if b2i (hasB (pe x) (nI y)) = b2i b then ev else evA (upd pe x (pe x ^^^ ((1 : Int32) <<< (nI y &&& 31)))) inn ev)) t.heap) A) args s 0 0 A = Q
  have go : ∀ (H : Heap) (locs : List Loc), va_P D vwCl (grW cI ad pe inn ev) H → va_S A s.heap H locs → W p l e (headSpec wsX2_put (rmr 3 69)).room s m args below meth c H locs 0 0 Q (F0 m 0 ls []) := by
    intro H locs hP hS
    refine lv_aload_n hx hb dX2_put_0 rfl (lv_at hl 0 rfl) ?_
    refine va_get (D := D) (ci := 3) (v := .ref (ad 1)) (C := RX2) (T := TX2) (N := 3) hx hb hts (fun _ h => List.mem_cons_of_mem _ (List.mem_append_right _ (h))) hown hK hP 0 rfl rfl 0 (by decide) (hts _ (List.mem_of_getElem? (i := 1) rfl)) (fun _ h9 => h9) rfl dX2_put_1 ?_
    refine lv_iload_n hx hb dX2_put_4 rfl (lv_at hl 1 rfl) ?_
    refine ld_i (k := x) hx hb hK hP 1 0 rfl rfl (by omega) (by decide) dX2_put_5 ?_
    refine lv_iload_n hx hb dX2_put_6 rfl (lv_at hl 2 rfl) ?_
    refine vs_callSi (va_runSN (As := [.int (pe x), .int (nI y)]) (rest := []) ⟨hx, hb, hml, hown, hts⟩ (k_X4_contains l (pe x) (nI y)) ⟨va_cnB (host := RX4) 2 hts ggX2_put_X4_contains rfl rfl rfl hN.1 (hts _ (List.mem_of_getElem? (i := 3) rfl)) (by decide +kernel) ⟨Nat.le_of_ble_eq_true rfl, Nat.le_of_ble_eq_true rfl⟩, (hts _ (List.mem_of_getElem? (i := 2) rfl)), trivial⟩ ⟨nf_blind, fun U hU hW => ⟨rfl, trivial⟩⟩ rfl rfl hl.1 rfl (lv_room (Nat.le_of_ble_eq_true rfl)) dX2_put_7 ⟨Nat.le_of_ble_eq_true rfl, Nat.le_of_ble_eq_true rfl⟩) (fun r er => ?_)
    subst er
    refine lv_istore (lv' := [(4, .int (b2i (hasB (pe x) (nI y)))), (0, .ref (ad 0)), (1, .int (nI x)), (2, .int (nI y)), (3, .int (b2i b))]) hx hb dX2_put_10 hl (by decide) rfl (fun ls hl => ?_)
    refine lv_iload hx hb dX2_put_12 (lv_at hl 0 rfl) ?_
    refine lv_iload_n hx hb dX2_put_14 rfl (lv_at hl 4 rfl) ?_
    refine lv_icmp_eq (tgt := 34) hx hb dX2_put_15 (by decide) (fun c_15 => ?_) (fun c_15 => ?_)
    ·
      refine lv_iload hx hb dX2_put_34 (lv_at hl 0 rfl) ?_
      subst hQ
      have hP : va_P D vwCl (grW cI ad pe inn ev) H := hP
      have qpe : pe = if b2i (hasB (pe x) (nI y)) = b2i b then pe else upd pe x (pe x ^^^ ((1 : Int32) <<< (nI y &&& 31))) := by first | exact (if_pos c_15).symm | exact (if_neg c_15).symm
      have qev : ev = if b2i (hasB (pe x) (nI y)) = b2i b then ev else evA (upd pe x (pe x ^^^ ((1 : Int32) <<< (nI y &&& 31)))) inn ev := by first | exact (if_pos c_15).symm | exact (if_neg c_15).symm
      have hP : va_P D vwCl (grW cI ad (if b2i (hasB (pe x) (nI y)) = b2i b then pe else upd pe x (pe x ^^^ ((1 : Int32) <<< (nI y &&& 31)))) inn (if b2i (hasB (pe x) (nI y)) = b2i b then ev else evA (upd pe x (pe x ^^^ ((1 : Int32) <<< (nI y &&& 31)))) inn ev)) H := grW_P qpe rfl qev hP
      have hrt : (b2i (hasB (pe x) (nI y)) : Int32) = b2i (hasB (pe x) (nI y)) := by rfl
      exact W.zret (v := b2i (hasB (pe x) (nI y))) hx hb hr (by rw [hrt]; exact nar_b2i _) (fun t ht _ => ⟨⟨_, (), rfl, hrt, by have e := hP; rw [← ht] at e; exact e⟩, hS.F ht⟩) hS.2.2 dX2_put_36
    ·
      refine lv_aload_n hx hb dX2_put_18 rfl (lv_at hl 1 rfl) ?_
      refine va_get (D := D) (ci := 3) (v := .ref (ad 1)) (C := RX2) (T := TX2) (N := 3) hx hb hts (fun _ h => List.mem_cons_of_mem _ (List.mem_append_right _ (h))) hown hK hP 0 rfl rfl 0 (by decide) (hts _ (List.mem_of_getElem? (i := 1) rfl)) (fun _ h9 => h9) rfl dX2_put_19 ?_
      refine lv_iload_n hx hb dX2_put_22 rfl (lv_at hl 2 rfl) ?_
      refine lv_dup2_11 hx hb dX2_put_23 rfl rfl ?_
      refine ld_i (k := x) hx hb hK hP 1 0 rfl rfl (by omega) (by decide) dX2_put_24 ?_
      refine lv_iconst (v := 1) hx hb dX2_put_25 (by decide) ?_
      refine lv_iload_n hx hb dX2_put_26 rfl (lv_at hl 3 rfl) ?_
      refine lv_ishl hx hb dX2_put_27 ?_
      refine lv_ixor hx hb dX2_put_28 ?_
      refine st_i (k := x) hx hb hK hP (gr_D hA) hS 1 0 rfl rfl (by omega) (by decide) dX2_put_29 (fun H locs hP _ hS => ?_)
      have hP : va_P D vwCl (grW cI ad (upd pe x ((pe x) ^^^ ((1 : Int32) <<< ((nI y) &&& 31)))) inn ev) H := hP
      refine lv_aload_n hx hb dX2_put_30 rfl (lv_at hl 1 rfl) ?_
      refine va_callv (va_runV (As := []) (rest := []) ⟨hx, hb, hml, hown, hts⟩ (k_X2_findEveryone l D cI cZ cO ad A (upd pe x ((pe x) ^^^ ((1 : Int32) <<< ((nI y) &&& 31)))) inn ev hA ) (cwV 0 hts gX2_put_X2_findEveryone rfl rfl rfl (by decide +kernel) ⟨Nat.le_of_ble_eq_true rfl, Nat.le_of_ble_eq_true rfl⟩) ⟨rd_blind, va_recv hK hP (ci := 3) (q0 := 0) rfl rfl, rd_pre hP hK hN⟩ rfl rfl hl.1 rfl (lv_room (Nat.le_of_ble_eq_true rfl)) dX2_put_31 ⟨Nat.le_of_ble_eq_true rfl, Nat.le_of_ble_eq_true rfl⟩) hS (fun q _ h => h) (fun q h => h) (fun u t H locs ht hvm hw hB hz1 hk1 hS => ?_)
      have hP := hB
      rw [ht] at hP
      have hP : va_P D vwCl (grW cI ad (upd pe x ((pe x) ^^^ ((1 : Int32) <<< ((nI y) &&& 31)))) inn (evA (upd pe x ((pe x) ^^^ ((1 : Int32) <<< ((nI y) &&& 31)))) inn ev)) H := hP
      refine lv_iload hx hb dX2_put_34 (lv_at hl 0 rfl) ?_
      subst hQ
      have hP : va_P D vwCl (grW cI ad (upd pe x ((pe x) ^^^ ((1 : Int32) <<< ((nI y) &&& 31)))) inn (evA (upd pe x ((pe x) ^^^ ((1 : Int32) <<< ((nI y) &&& 31)))) inn ev)) H := hP
      have qpe : upd pe x ((pe x) ^^^ ((1 : Int32) <<< ((nI y) &&& 31))) = if b2i (hasB (pe x) (nI y)) = b2i b then pe else upd pe x (pe x ^^^ ((1 : Int32) <<< (nI y &&& 31))) := by first | exact (if_pos c_15).symm | exact (if_neg c_15).symm
      have qev : evA (upd pe x ((pe x) ^^^ ((1 : Int32) <<< ((nI y) &&& 31)))) inn ev = if b2i (hasB (pe x) (nI y)) = b2i b then ev else evA (upd pe x (pe x ^^^ ((1 : Int32) <<< (nI y &&& 31)))) inn ev := by first | exact (if_pos c_15).symm | exact (if_neg c_15).symm
      have hP : va_P D vwCl (grW cI ad (if b2i (hasB (pe x) (nI y)) = b2i b then pe else upd pe x (pe x ^^^ ((1 : Int32) <<< (nI y &&& 31)))) inn (if b2i (hasB (pe x) (nI y)) = b2i b then ev else evA (upd pe x (pe x ^^^ ((1 : Int32) <<< (nI y &&& 31)))) inn ev)) H := grW_P qpe rfl qev hP
      have hrt : (b2i (hasB (pe x) (nI y)) : Int32) = b2i (hasB (pe x) (nI y)) := by rfl
      exact W.zret (v := b2i (hasB (pe x) (nI y))) hx hb hr (by rw [hrt]; exact nar_b2i _) (fun t ht _ => ⟨⟨_, (), rfl, hrt, by have e := hP; rw [← ht] at e; exact e⟩, hS.F ht⟩) hS.2.2 dX2_put_36
  exact go _ _ hP hS

set_option maxHeartbeats 800000 in
set_option maxRecDepth 100000 in
theorem k_X2_toggleInner (l : Launch) (D : va_G) (cI cZ cO : ClassId) (ad : Nat → Nat) (A : Nat → Prop) (pe : Nat → Int32) (inn : Nat → Int32) (ev : Nat → Int32) (hA : apD 4 A ad) (x : Nat) (y : Nat)  (hx6 : x < 6) : Met l yX2_toggleInner wsX2_toggleInner (rmr 3 69) (va_Pc [.ref (ad 0), .int (nI x), .int (nI y)] (rdP D ([(cI, .int), (cI, .int), (cO, .object "java/lang/Object")]) (grW cI ad pe inn ev))) (va_Qi (fun (r : Int32) (_ : Unit) => r = b2i (hasB (inn x ^^^ ((1 : Int32) <<< (nI y &&& 31))) (nI y))) (fun _ t => va_P D vwCl (grW cI ad pe (upd inn x (inn x ^^^ ((1 : Int32) <<< (nI y &&& 31)))) (evA pe (upd inn x (inn x ^^^ ((1 : Int32) <<< (nI y &&& 31)))) ev)) t.heap) A) 0 0 A := by
  refine Met.ofW (cc := cX2_toggleInner) (maxL := 3) (ret := (some .boolean)) (by decide) rfl ?_
  intro p e s m args below meth c s₁ B hml hv
  obtain ⟨hargs, hP, hK, hN⟩ := hv
  have hx := B.exec
  have hb := B.bytes
  have hr := B.returns
  have hts := atoms_spec (ws := wsX2_toggleInner) B.pre
  have hown : s.vm.findClass RX2 = some m.cls := findClass_of_methodNamed B.named
  have hlocks := B.notSynchronized
  have hen : entryFrame m args 3 = entryFrame m ([.ref (ad 0), .int (nI x), .int (nI y)] : List Value).toArray 3 := by rw [hargs]
  rw [hen]
  have hl := lv_entry ([.ref (ad 0), .int (nI x), .int (nI y)]) (n := 3) (Nat.le_of_ble_eq_true rfl)
  rw [lg_entry_eq]
  generalize (lg_sl ([.ref (ad 0), .int (nI x), .int (nI y)]) ++ List.replicate (3 - (lg_sl ([.ref (ad 0), .int (nI x), .int (nI y)])).length) Slot.unset).toArray = ls at hl ⊢
  have hl : lv_has ls 3 [(0, .ref (ad 0)), (1, .int (nI x)), (2, .int (nI y))] := hl
  have hS : va_S A s.heap s.heap [] := va_S.rf
  generalize hQ : MQ below (va_Qi (fun (r : Int32) (_ : Unit) => r = b2i (hasB (inn x ^^^ ((1 : Int32) <<< (nI y &&& 31))) (nI y))) (fun _ t => va_P D vwCl (grW cI ad pe (upd inn x (inn x ^^^ ((1 : Int32) <<< (nI y &&& 31)))) (evA pe (upd inn x (inn x ^^^ ((1 : Int32) <<< (nI y &&& 31)))) ev)) t.heap) A) args s 0 0 A = Q
  have go : ∀ (H : Heap) (locs : List Loc), va_P D vwCl (grW cI ad pe inn ev) H → va_S A s.heap H locs → W p l e (headSpec wsX2_toggleInner (rmr 3 69)).room s m args below meth c H locs 0 0 Q (F0 m 0 ls []) := by
    intro H locs hP hS
    refine lv_aload_n hx hb dX2_toggleInner_0 rfl (lv_at hl 0 rfl) ?_
    refine va_get (D := D) (ci := 3) (v := .ref (ad 2)) (C := RX2) (T := TX2) (N := 3) hx hb hts (fun _ h => List.mem_cons_of_mem _ (List.mem_append_right _ (h))) hown hK hP 0 rfl rfl 1 (by decide) (hts _ (List.mem_of_getElem? (i := 1) rfl)) (fun _ h9 => h9) rfl dX2_toggleInner_1 ?_
    refine lv_iload_n hx hb dX2_toggleInner_4 rfl (lv_at hl 1 rfl) ?_
    refine lv_dup2_11 hx hb dX2_toggleInner_5 rfl rfl ?_
    refine ld_i (k := x) hx hb hK hP 2 0 rfl rfl (by omega) (by decide) dX2_toggleInner_6 ?_
    refine lv_iconst (v := 1) hx hb dX2_toggleInner_7 (by decide) ?_
    refine lv_iload_n hx hb dX2_toggleInner_8 rfl (lv_at hl 2 rfl) ?_
    refine lv_ishl hx hb dX2_toggleInner_9 ?_
    refine lv_ixor hx hb dX2_toggleInner_10 ?_
    refine st_i (k := x) hx hb hK hP (gr_D hA) hS 2 0 rfl rfl (by omega) (by decide) dX2_toggleInner_11 (fun H locs hP _ hS => ?_)
    have hP : va_P D vwCl (grW cI ad pe (upd inn x ((inn x) ^^^ ((1 : Int32) <<< ((nI y) &&& 31)))) ev) H := hP
    refine lv_aload_n hx hb dX2_toggleInner_12 rfl (lv_at hl 0 rfl) ?_
    refine va_callv (va_runV (As := []) (rest := []) ⟨hx, hb, hml, hown, hts⟩ (k_X2_findEveryone l D cI cZ cO ad A pe (upd inn x ((inn x) ^^^ ((1 : Int32) <<< ((nI y) &&& 31)))) ev hA ) (cwV 0 hts gX2_toggleInner_X2_findEveryone rfl rfl rfl (by decide +kernel) ⟨Nat.le_of_ble_eq_true rfl, Nat.le_of_ble_eq_true rfl⟩) ⟨rd_blind, va_recv hK hP (ci := 3) (q0 := 0) rfl rfl, rd_pre hP hK hN⟩ rfl rfl hl.1 rfl (lv_room (Nat.le_of_ble_eq_true rfl)) dX2_toggleInner_13 ⟨Nat.le_of_ble_eq_true rfl, Nat.le_of_ble_eq_true rfl⟩) hS (fun q _ h => h) (fun q h => h) (fun u t H locs ht hvm hw hB hz1 hk1 hS => ?_)
    have hP := hB
    rw [ht] at hP
    have hP : va_P D vwCl (grW cI ad pe (upd inn x ((inn x) ^^^ ((1 : Int32) <<< ((nI y) &&& 31)))) (evA pe (upd inn x ((inn x) ^^^ ((1 : Int32) <<< ((nI y) &&& 31)))) ev)) H := hP
    refine lv_aload_n hx hb dX2_toggleInner_16 rfl (lv_at hl 0 rfl) ?_
    refine va_get (D := D) (ci := 3) (v := .ref (ad 2)) (C := RX2) (T := TX2) (N := 3) hx hb hts (fun _ h => List.mem_cons_of_mem _ (List.mem_append_right _ (h))) hown hK hP 0 rfl rfl 1 (by decide) (hts _ (List.mem_of_getElem? (i := 1) rfl)) (fun _ h9 => h9) rfl dX2_toggleInner_17 ?_
    refine lv_iload_n hx hb dX2_toggleInner_20 rfl (lv_at hl 1 rfl) ?_
    refine ld_i (k := x) hx hb hK hP 2 0 rfl rfl (by omega) (by decide) dX2_toggleInner_21 ?_
    refine top_eq (y := (inn x) ^^^ ((1 : Int32) <<< ((nI y) &&& 31))) pk_us ?_
    refine lv_iload_n hx hb dX2_toggleInner_22 rfl (lv_at hl 2 rfl) ?_
    refine vs_callSi (va_runSN (As := [.int ((inn x) ^^^ ((1 : Int32) <<< ((nI y) &&& 31))), .int (nI y)]) (rest := []) ⟨hx, hb, hml, hown, hts⟩ (k_X4_contains l ((inn x) ^^^ ((1 : Int32) <<< ((nI y) &&& 31))) (nI y)) ⟨va_cnB (host := RX4) 2 hts ggX2_toggleInner_X4_contains rfl rfl rfl hN.1 (hts _ (List.mem_of_getElem? (i := 14) rfl)) (by decide +kernel) ⟨Nat.le_of_ble_eq_true rfl, Nat.le_of_ble_eq_true rfl⟩, (hts _ (List.mem_of_getElem? (i := 13) rfl)), trivial⟩ ⟨nf_blind, fun U hU hW => ⟨rfl, trivial⟩⟩ rfl rfl hl.1 rfl (lv_room (Nat.le_of_ble_eq_true rfl)) dX2_toggleInner_23 ⟨Nat.le_of_ble_eq_true rfl, Nat.le_of_ble_eq_true rfl⟩) (fun r er => ?_)
    subst er
    subst hQ
    have hP : va_P D vwCl (grW cI ad pe (upd inn x ((inn x) ^^^ ((1 : Int32) <<< ((nI y) &&& 31)))) (evA pe (upd inn x ((inn x) ^^^ ((1 : Int32) <<< ((nI y) &&& 31)))) ev)) H := hP
    have qinn : upd inn x ((inn x) ^^^ ((1 : Int32) <<< ((nI y) &&& 31))) = upd inn x (inn x ^^^ ((1 : Int32) <<< (nI y &&& 31))) := by rfl
    have qev : evA pe (upd inn x ((inn x) ^^^ ((1 : Int32) <<< ((nI y) &&& 31)))) ev = evA pe (upd inn x (inn x ^^^ ((1 : Int32) <<< (nI y &&& 31)))) ev := by rfl
    have hP : va_P D vwCl (grW cI ad pe (upd inn x (inn x ^^^ ((1 : Int32) <<< (nI y &&& 31)))) (evA pe (upd inn x (inn x ^^^ ((1 : Int32) <<< (nI y &&& 31)))) ev)) H := grW_P rfl qinn qev hP
    have hrt : (b2i (hasB ((inn x) ^^^ ((1 : Int32) <<< ((nI y) &&& 31))) (nI y)) : Int32) = b2i (hasB (inn x ^^^ ((1 : Int32) <<< (nI y &&& 31))) (nI y)) := by rfl
    exact W.zret (v := b2i (hasB ((inn x) ^^^ ((1 : Int32) <<< ((nI y) &&& 31))) (nI y))) hx hb hr (by rw [hrt]; exact nar_b2i _) (fun t ht _ => ⟨⟨_, (), rfl, hrt, by have e := hP; rw [← ht] at e; exact e⟩, hS.F ht⟩) hS.2.2 dX2_toggleInner_26
  exact go _ _ hP hS

set_option maxHeartbeats 800000 in
set_option maxRecDepth 100000 in
theorem k_J6_bitCount_0f7a4 (l : Launch) (x0 : Int32) : Met l yJ6_bitCount_0f7a4 wsJ6_bitCount_0f7a4 (rmr 0 0) (va_Pc [.int x0] (fun _ => True)) (vp_Si (fun r => r = bcI x0)) 0 0 (fun _ => False) := by
  refine Met.ofW (cc := cJ6_bitCount_0f7a4) (maxL := 1) (ret := (some .int)) (by decide) rfl ?_
  intro p e s m args below meth c s₁ B hml hv
  obtain ⟨hargs, -⟩ := hv
  have hx := B.exec
  have hb := B.bytes
  have hr := B.returns
  have hts := atoms_spec (ws := wsJ6_bitCount_0f7a4) B.pre
  have hown : s.vm.findClass RJ6 = some m.cls := findClass_of_methodNamed B.named
  have hlocks := B.notSynchronized
  have hen : entryFrame m args 1 = entryFrame m ([.int x0] : List Value).toArray 1 := by rw [hargs]
  rw [hen]
  have hl := lv_entry ([.int x0]) (n := 1) (Nat.le_of_ble_eq_true rfl)
  rw [lg_entry_eq]
  generalize (lg_sl ([.int x0]) ++ List.replicate (1 - (lg_sl ([.int x0])).length) Slot.unset).toArray = ls at hl ⊢
  have hl : lv_has ls 1 [(0, .int x0)] := hl
  generalize hQ : MQ below (vp_Si (fun r => r = bcI x0)) args s 0 0 (fun _ => False) = Q
  refine lv_iload_n hx hb dJ6_bitCount_0f7a4_0 rfl (lv_at hl 0 rfl) ?_
  refine lv_iload_n hx hb dJ6_bitCount_0f7a4_1 rfl (lv_at hl 0 rfl) ?_
  refine lv_iconst (v := 1) hx hb dJ6_bitCount_0f7a4_2 (by decide) ?_
  refine lv_iushr (v := (x0.toUInt32 >>> ((1 : Int32).toUInt32 &&& Int32.toUInt32 31)).toInt32) hx hb dJ6_bitCount_0f7a4_3 rfl ?_
  refine lv_ldcw (v := 1431655765) hx hb hown (hts _ (List.mem_of_getElem? (i := 1) rfl)) dJ6_bitCount_0f7a4_4 ?_
  refine lv_iand hx hb dJ6_bitCount_0f7a4_7 ?_
  refine lv_isub hx hb dJ6_bitCount_0f7a4_8 ?_
  refine top_eq (y := bcA x0) (by rfl) ?_
  refine lv_istore_n (lv' := [(0, .int (bcA x0))]) hx hb dJ6_bitCount_0f7a4_9 rfl hl (by decide) rfl (fun ls hl => ?_)
  refine lv_iload_n hx hb dJ6_bitCount_0f7a4_10 rfl (lv_at hl 0 rfl) ?_
  refine lv_ldcw (v := 858993459) hx hb hown (hts _ (List.mem_of_getElem? (i := 2) rfl)) dJ6_bitCount_0f7a4_11 ?_
  refine lv_iand hx hb dJ6_bitCount_0f7a4_14 ?_
  refine lv_iload_n hx hb dJ6_bitCount_0f7a4_15 rfl (lv_at hl 0 rfl) ?_
  refine lv_iconst (v := 2) hx hb dJ6_bitCount_0f7a4_16 (by decide) ?_
  refine lv_iushr (v := ((bcA x0).toUInt32 >>> ((2 : Int32).toUInt32 &&& Int32.toUInt32 31)).toInt32) hx hb dJ6_bitCount_0f7a4_17 rfl ?_
  refine lv_ldcw (v := 858993459) hx hb hown (hts _ (List.mem_of_getElem? (i := 2) rfl)) dJ6_bitCount_0f7a4_18 ?_
  refine lv_iand hx hb dJ6_bitCount_0f7a4_21 ?_
  refine lv_iadd hx hb dJ6_bitCount_0f7a4_22 ?_
  refine top_eq (y := bcB (bcA x0)) (by rfl) ?_
  refine lv_istore_n (lv' := [(0, .int (bcB (bcA x0)))]) hx hb dJ6_bitCount_0f7a4_23 rfl hl (by decide) rfl (fun ls hl => ?_)
  refine lv_iload_n hx hb dJ6_bitCount_0f7a4_24 rfl (lv_at hl 0 rfl) ?_
  refine lv_iload_n hx hb dJ6_bitCount_0f7a4_25 rfl (lv_at hl 0 rfl) ?_
  refine lv_iconst (v := 4) hx hb dJ6_bitCount_0f7a4_26 (by decide) ?_
  refine lv_iushr (v := ((bcB (bcA x0)).toUInt32 >>> ((4 : Int32).toUInt32 &&& Int32.toUInt32 31)).toInt32) hx hb dJ6_bitCount_0f7a4_27 rfl ?_
  refine lv_iadd hx hb dJ6_bitCount_0f7a4_28 ?_
  refine lv_ldcw (v := 252645135) hx hb hown (hts _ (List.mem_of_getElem? (i := 3) rfl)) dJ6_bitCount_0f7a4_29 ?_
  refine lv_iand hx hb dJ6_bitCount_0f7a4_32 ?_
  refine top_eq (y := bcC (bcB (bcA x0))) (by rfl) ?_
  refine lv_istore_n (lv' := [(0, .int (bcC (bcB (bcA x0))))]) hx hb dJ6_bitCount_0f7a4_33 rfl hl (by decide) rfl (fun ls hl => ?_)
  refine lv_iload_n hx hb dJ6_bitCount_0f7a4_34 rfl (lv_at hl 0 rfl) ?_
  refine lv_iload_n hx hb dJ6_bitCount_0f7a4_35 rfl (lv_at hl 0 rfl) ?_
  refine lv_bipush (v := 8) hx hb dJ6_bitCount_0f7a4_36 (by decide) ?_
  refine lv_iushr (v := ((bcC (bcB (bcA x0))).toUInt32 >>> ((8 : Int32).toUInt32 &&& Int32.toUInt32 31)).toInt32) hx hb dJ6_bitCount_0f7a4_38 rfl ?_
  refine lv_iadd hx hb dJ6_bitCount_0f7a4_39 ?_
  refine top_eq (y := bcD (bcC (bcB (bcA x0)))) (by rfl) ?_
  refine lv_istore_n (lv' := [(0, .int (bcD (bcC (bcB (bcA x0)))))]) hx hb dJ6_bitCount_0f7a4_40 rfl hl (by decide) rfl (fun ls hl => ?_)
  refine lv_iload_n hx hb dJ6_bitCount_0f7a4_41 rfl (lv_at hl 0 rfl) ?_
  refine lv_iload_n hx hb dJ6_bitCount_0f7a4_42 rfl (lv_at hl 0 rfl) ?_
  refine lv_bipush (v := 16) hx hb dJ6_bitCount_0f7a4_43 (by decide) ?_
  refine lv_iushr (v := ((bcD (bcC (bcB (bcA x0)))).toUInt32 >>> ((16 : Int32).toUInt32 &&& Int32.toUInt32 31)).toInt32) hx hb dJ6_bitCount_0f7a4_45 rfl ?_
  refine lv_iadd hx hb dJ6_bitCount_0f7a4_46 ?_
  refine top_eq (y := bcE (bcD (bcC (bcB (bcA x0))))) (by rfl) ?_
  refine lv_istore_n (lv' := [(0, .int (bcE (bcD (bcC (bcB (bcA x0))))))]) hx hb dJ6_bitCount_0f7a4_47 rfl hl (by decide) rfl (fun ls hl => ?_)
  refine lv_iload_n hx hb dJ6_bitCount_0f7a4_48 rfl (lv_at hl 0 rfl) ?_
  refine lv_bipush (v := 63) hx hb dJ6_bitCount_0f7a4_49 (by decide) ?_
  refine lv_iand hx hb dJ6_bitCount_0f7a4_51 ?_
  subst hQ
  exact W.iret (v := (bcE (bcD (bcC (bcB (bcA x0))))) &&& 63) hx hb hr (fun t ht _ => ⟨_, rfl, (by rfl), ht⟩) (fun _ h => absurd h List.not_mem_nil) dJ6_bitCount_0f7a4_52

set_option maxHeartbeats 800000 in
set_option maxRecDepth 100000 in
theorem k_X3_sharedBy (l : Launch) (D : va_G) (cI cZ cO : ClassId) (ad : Nat → Nat) (he : Nat → Int32) (gv : Nat → Int32) (gp : Int32) (gb : Int32) (ob : Int32) (nm : Int32) (lo : Int32) (x0 : Int32)   : Met l yX3_sharedBy wsX3_sharedBy (rmr 1 21) (va_Pc [.ref (ad 0), .int x0] (rdP D ([(cI, .int), (cI, .int), (cO, .object "java/lang/Object")]) (mpW cI ad he gv gp gb ob nm lo))) (vp_Si (fun r => r = comm he x0 8)) 0 0 (fun _ => False) := by
  refine Met.ofW (cc := cX3_sharedBy) (maxL := 4) (ret := (some .int)) (by decide) rfl ?_
  intro p e s m args below meth c s₁ B hml hv
  obtain ⟨hargs, hP, hK, hN⟩ := hv
  have hx := B.exec
  have hb := B.bytes
  have hr := B.returns
  have hts := atoms_spec (ws := wsX3_sharedBy) B.pre
  have hown : s.vm.findClass RX3 = some m.cls := findClass_of_methodNamed B.named
  have hlocks := B.notSynchronized
  have hen : entryFrame m args 4 = entryFrame m ([.ref (ad 0), .int x0] : List Value).toArray 4 := by rw [hargs]
  rw [hen]
  have hl := lv_entry ([.ref (ad 0), .int x0]) (n := 4) (Nat.le_of_ble_eq_true rfl)
  rw [lg_entry_eq]
  generalize (lg_sl ([.ref (ad 0), .int x0]) ++ List.replicate (4 - (lg_sl ([.ref (ad 0), .int x0])).length) Slot.unset).toArray = ls at hl ⊢
  have hl : lv_has ls 4 [(0, .ref (ad 0)), (1, .int x0)] := hl
  generalize hQ : MQ below (vp_Si (fun r => r = comm he x0 8)) args s 0 0 (fun _ => False) = Q
  refine lv_iload_n hx hb dX3_sharedBy_0 rfl (lv_at hl 1 rfl) ?_
  refine lv_if_ne (tgt := 6) hx hb dX3_sharedBy_1 (by decide) (fun c_1 => ?_) (fun c_1 => ?_)
  ·
    refine lv_bipush (v := 7) hx hb dX3_sharedBy_6 (by decide) ?_
    refine lv_istore_n (lv' := [(2, .int 7), (0, .ref (ad 0)), (1, .int x0)]) hx hb dX3_sharedBy_8 rfl hl (by decide) rfl (fun ls hl => ?_)
    refine lv_iconst (v := 0) hx hb dX3_sharedBy_9 (by decide) ?_
    refine lv_istore_n (lv' := [(3, .int 0), (2, .int 7), (0, .ref (ad 0)), (1, .int x0)]) hx hb dX3_sharedBy_10 rfl hl (by decide) rfl (fun ls hl => ?_)
    have L_11 : ∀ fz i : Nat, i ≤ 8 → 8 - i < fz → ∀ (v2 : Int32), v2 = (comm he x0 i) → ∀ ls : Array Slot, lv_has ls 4 [(0, .ref (ad 0)), (1, .int x0), (3, .int (nI i)), (2, .int v2)] → W p l e (headSpec wsX3_sharedBy (rmr 1 21)).room s m args below meth c s.heap [] 0 0 Q (F0 m 11 ls []) := by
      intro fz
      induction fz with
      | zero => intro i _ h; exact absurd h (Nat.not_lt_zero _)
      | succ fz ih_11 =>
        intro i hi_11 hn_11 v2 ev2 ls hl
        subst ev2
        rcases Nat.lt_or_ge i 8 with h_i | h_i
        ·
          refine lv_iload_n hx hb dX3_sharedBy_11 rfl (lv_at hl 2 rfl) ?_
          refine lv_bipush (v := 8) hx hb dX3_sharedBy_12 (by decide) ?_
          refine lv_icmp_ge (tgt := 40) hx hb dX3_sharedBy_14 (by decide) (fun c_14 => absurd c_14 (lt_no h_i (by decide))) (fun c_14 => ?_)
          refine lv_iload_n hx hb dX3_sharedBy_17 rfl (lv_at hl 1 rfl) ?_
          refine lv_iload_n hx hb dX3_sharedBy_18 rfl (lv_at hl 2 rfl) ?_
          refine vs_callSi (va_runSN (As := [.int x0, .int (nI i)]) (rest := []) ⟨hx, hb, hml, hown, hts⟩ (k_X4_contains l x0 (nI i)) ⟨va_cnB (host := RX4) 2 hts ggX3_sharedBy_X4_contains rfl rfl rfl hN.2.1 (hts _ (List.mem_of_getElem? (i := 3) rfl)) (by decide +kernel) ⟨Nat.le_of_ble_eq_true rfl, Nat.le_of_ble_eq_true rfl⟩, (hts _ (List.mem_of_getElem? (i := 2) rfl)), trivial⟩ ⟨nf_blind, fun U hU hW => ⟨rfl, trivial⟩⟩ rfl rfl hl.1 rfl (lv_room (Nat.le_of_ble_eq_true rfl)) dX3_sharedBy_19 ⟨Nat.le_of_ble_eq_true rfl, Nat.le_of_ble_eq_true rfl⟩) (fun r er => ?_)
          subst er
          have J_34 : ∀ (y2 : Int32), y2 = (if (hasB x0 (nI i)) = true then (comm he x0 i) &&& (he i) else comm he x0 i) → ∀ ls : Array Slot, lv_has ls 4 [(0, .ref (ad 0)), (1, .int x0), (2, .int y2), (3, .int (nI i))] → W p l e (headSpec wsX3_sharedBy (rmr 1 21)).room s m args below meth c s.heap [] 0 0 Q (F0 m 34 ls []) := by
            intro y2 ey2 ls hl
            subst ey2
            refine lv_iinc (v := nI (i + 1)) (lv' := [(3, .int (nI (i + 1))), (0, .ref (ad 0)), (1, .int x0), (2, .int (if (hasB x0 (nI i)) = true then (comm he x0 i) &&& (he i) else comm he x0 i))]) hx hb dX3_sharedBy_34 hl (k := 3) rfl (by exact iinc_n _) (by decide) rfl (fun ls hl => ?_)
            refine lv_goto (tgt := 11) hx hb dX3_sharedBy_37 (by decide) ?_
            exact ih_11 (i + 1) (by omega) (by omega) _ (by exact comm_c he x0 i) ls (lv_sub hl [1, 2, 0, 3] rfl)
          refine lv_if_eq (tgt := 34) hx hb dX3_sharedBy_22 (by decide) (fun c_22 => ?_) (fun c_22 => ?_)
          ·
            have c_22 := b2i_0 c_22
            exact J_34 _ ((if_neg (b2i_bf c_22)).symm) ls (lv_sub hl [0, 1, 3, 2] rfl)
          ·
            have c_22 := b2i_1 c_22
            refine lv_iload_n hx hb dX3_sharedBy_25 rfl (lv_at hl 3 rfl) ?_
            refine lv_aload_n hx hb dX3_sharedBy_26 rfl (lv_at hl 0 rfl) ?_
            refine va_get (D := D) (ci := 4) (v := .ref (ad 1)) (C := RX3) (T := TX3) (N := 7) hx hb hts (fun _ h => List.mem_cons_of_mem _ (List.mem_append_right _ (h))) hown hK hP 0 rfl rfl 0 (by decide) (hts _ (List.mem_of_getElem? (i := 1) rfl)) (fun _ h9 => h9) rfl dX3_sharedBy_27 ?_
            refine lv_iload_n hx hb dX3_sharedBy_30 rfl (lv_at hl 2 rfl) ?_
            refine ld_i (k := i) hx hb hK hP 1 0 rfl rfl (by omega) (by decide) dX3_sharedBy_31 ?_
            refine lv_iand hx hb dX3_sharedBy_32 ?_
            refine lv_istore_n (lv' := [(2, .int ((comm he x0 i) &&& (he i))), (0, .ref (ad 0)), (1, .int x0), (3, .int (nI i))]) hx hb dX3_sharedBy_33 rfl hl (by decide) rfl (fun ls hl => ?_)
            exact J_34 _ ((if_pos c_22).symm) ls (lv_sub hl [1, 2, 0, 3] rfl)
        ·
          obtain rfl : 8 = i := by omega
          refine lv_iload_n hx hb dX3_sharedBy_11 rfl (lv_at hl 2 rfl) ?_
          refine lv_bipush (v := 8) hx hb dX3_sharedBy_12 (by decide) ?_
          refine lv_icmp_ge (tgt := 40) hx hb dX3_sharedBy_14 (by decide) (fun c_14 => ?_) (fun c_14 => absurd (lt_yes h_i (by decide)) c_14)
          refine lv_iload_n hx hb dX3_sharedBy_40 rfl (lv_at hl 3 rfl) ?_
          subst hQ
          exact W.iret (v := comm he x0 8) hx hb hr (fun t ht _ => ⟨_, rfl, (by rfl), ht⟩) (fun _ h => absurd h List.not_mem_nil) dX3_sharedBy_41
    exact L_11 (8 + 1) 0 (by omega) (by omega) _ (by exact (if_neg c_1).symm) ls (lv_sub hl [2, 3, 0, 1] rfl)
  ·
    refine lv_iconst (v := 0) hx hb dX3_sharedBy_4 (by decide) ?_
    subst hQ
    exact W.iret (v := 0) hx hb hr (fun t ht _ => ⟨_, rfl, (by rw [c_1]; exact (comm_0 he 8).symm), ht⟩) (fun _ h => absurd h List.not_mem_nil) dX3_sharedBy_5

set_option maxHeartbeats 800000 in
set_option maxRecDepth 100000 in
theorem k_X3_lossOf (l : Launch) (D : va_G) (cI cZ cO : ClassId) (ad : Nat → Nat) (he : Nat → Int32) (gv : Nat → Int32) (gp : Int32) (gb : Int32) (ob : Int32) (nm : Int32) (lo : Int32) (x : Nat)  (hx8 : x < 8) (hh : ∃ j, j < 8 ∧ he x = nI j) : Met l yX3_lossOf wsX3_lossOf (rmr 1 20) (va_Pc [.ref (ad 0), .int (nI x)] (rdP D ([(cI, .int), (cI, .int), (cO, .object "java/lang/Object")]) (mpW cI ad he gv gp gb ob nm lo))) (vp_Si (fun r => r = lossP he gv x)) 0 0 (fun _ => False) := by
  refine Met.ofW (cc := cX3_lossOf) (maxL := 2) (ret := (some .int)) (by decide) rfl ?_
  intro p e s m args below meth c s₁ B hml hv
  obtain ⟨hargs, hP, hK, hN⟩ := hv
  have hx := B.exec
  have hb := B.bytes
  have hr := B.returns
  have hts := atoms_spec (ws := wsX3_lossOf) B.pre
  have hown : s.vm.findClass RX3 = some m.cls := findClass_of_methodNamed B.named
  have hlocks := B.notSynchronized
  have hen : entryFrame m args 2 = entryFrame m ([.ref (ad 0), .int (nI x)] : List Value).toArray 2 := by rw [hargs]
  rw [hen]
  have hl := lv_entry ([.ref (ad 0), .int (nI x)]) (n := 2) (Nat.le_of_ble_eq_true rfl)
  rw [lg_entry_eq]
  generalize (lg_sl ([.ref (ad 0), .int (nI x)]) ++ List.replicate (2 - (lg_sl ([.ref (ad 0), .int (nI x)])).length) Slot.unset).toArray = ls at hl ⊢
  have hl : lv_has ls 2 [(0, .ref (ad 0)), (1, .int (nI x))] := hl
  generalize hQ : MQ below (vp_Si (fun r => r = lossP he gv x)) args s 0 0 (fun _ => False) = Q
  refine lv_aload_n hx hb dX3_lossOf_0 rfl (lv_at hl 0 rfl) ?_
  refine va_get (D := D) (ci := 4) (v := .ref (ad 1)) (C := RX3) (T := TX3) (N := 7) hx hb hts (fun _ h => List.mem_cons_of_mem _ (List.mem_append_right _ (h))) hown hK hP 0 rfl rfl 0 (by decide) (hts _ (List.mem_of_getElem? (i := 1) rfl)) (fun _ h9 => h9) rfl dX3_lossOf_1 ?_
  refine lv_iload_n hx hb dX3_lossOf_4 rfl (lv_at hl 1 rfl) ?_
  refine ld_i (k := x) hx hb hK hP 1 0 rfl rfl (by omega) (by decide) dX3_lossOf_5 ?_
  refine lv_aload_n hx hb dX3_lossOf_6 rfl (lv_at hl 0 rfl) ?_
  refine va_get (D := D) (ci := 4) (v := .ref (ad 2)) (C := RX3) (T := TX3) (N := 7) hx hb hts (fun _ h => List.mem_cons_of_mem _ (List.mem_append_right _ (h))) hown hK hP 0 rfl rfl 1 (by decide) (hts _ (List.mem_of_getElem? (i := 2) rfl)) (fun _ h9 => h9) rfl dX3_lossOf_7 ?_
  refine lv_iload_n hx hb dX3_lossOf_10 rfl (lv_at hl 1 rfl) ?_
  refine ld_i (k := x) hx hb hK hP 2 0 rfl rfl (by omega) (by decide) dX3_lossOf_11 ?_
  refine lv_iconst (v := (-1)) hx hb dX3_lossOf_12 (by decide) ?_
  refine lv_ixor hx hb dX3_lossOf_13 ?_
  refine lv_iand hx hb dX3_lossOf_14 ?_
  refine vp_callSi (W.runS (As := [.int ((he x) &&& ((gv x) ^^^ (-1)))]) (rest := []) ⟨hx, hb, hml, hown, hts⟩ (k_J6_bitCount_0f7a4 l ((he x) &&& ((gv x) ^^^ (-1)))) (va_cwS 1 hts gX3_lossOf_J6_bitCount_0f7a4 rfl rfl rfl (by decide +kernel) ⟨Nat.le_of_ble_eq_true rfl, Nat.le_of_ble_eq_true rfl⟩) ⟨nf_blind, fun U hU hW => ⟨rfl, trivial⟩⟩ rfl rfl hl.1 rfl (lv_room (Nat.le_of_ble_eq_true rfl)) dX3_lossOf_15 ⟨Nat.le_of_ble_eq_true rfl, Nat.le_of_ble_eq_true rfl⟩) (fun r er => ?_)
  subst er
  refine top_eq (y := lossP he gv x) (by exact bc_loss hh) ?_
  subst hQ
  exact W.iret (v := lossP he gv x) hx hb hr (fun t ht _ => ⟨_, rfl, (by rfl), ht⟩) (fun _ h => absurd h List.not_mem_nil) dX3_lossOf_18

set_option maxHeartbeats 800000 in
set_option maxRecDepth 100000 in
theorem k_X3_greatestLoser (l : Launch) (D : va_G) (cI cZ cO : ClassId) (ad : Nat → Nat) (he : Nat → Int32) (gv : Nat → Int32) (gp : Int32) (gb : Int32) (ob : Int32) (nm : Int32) (lo : Int32)   (hh : ∀ p, p < 8 → ∃ j, j < 8 ∧ he p = nI j)  : Met l yX3_greatestLoser wsX3_greatestLoser (rmr 2 41) (va_Pc [.ref (ad 0)] (rdP D ([(cI, .int), (cI, .int), (cO, .object "java/lang/Object")]) (mpW cI ad he gv gp gb ob nm lo))) (vp_Si (fun r => r = nI (wst he gv 8))) 0 0 (fun _ => False) := by
  refine Met.ofW (cc := cX3_greatestLoser) (maxL := 3) (ret := (some .int)) (by decide) rfl ?_
  intro p e s m args below meth c s₁ B hml hv
  obtain ⟨hargs, hP, hK, hN⟩ := hv
  have hx := B.exec
  have hb := B.bytes
  have hr := B.returns
  have hts := atoms_spec (ws := wsX3_greatestLoser) B.pre
  have hown : s.vm.findClass RX3 = some m.cls := findClass_of_methodNamed B.named
  have hlocks := B.notSynchronized
  have hen : entryFrame m args 3 = entryFrame m ([.ref (ad 0)] : List Value).toArray 3 := by rw [hargs]
  rw [hen]
  have hl := lv_entry ([.ref (ad 0)]) (n := 3) (Nat.le_of_ble_eq_true rfl)
  rw [lg_entry_eq]
  generalize (lg_sl ([.ref (ad 0)]) ++ List.replicate (3 - (lg_sl ([.ref (ad 0)])).length) Slot.unset).toArray = ls at hl ⊢
  have hl : lv_has ls 3 [(0, .ref (ad 0))] := hl
  generalize hQ : MQ below (vp_Si (fun r => r = nI (wst he gv 8))) args s 0 0 (fun _ => False) = Q
  refine lv_iconst (v := 0) hx hb dX3_greatestLoser_0 (by decide) ?_
  refine lv_istore_n (lv' := [(1, .int 0), (0, .ref (ad 0))]) hx hb dX3_greatestLoser_1 rfl hl (by decide) rfl (fun ls hl => ?_)
  refine lv_iconst (v := 1) hx hb dX3_greatestLoser_2 (by decide) ?_
  refine lv_istore_n (lv' := [(2, .int 1), (1, .int 0), (0, .ref (ad 0))]) hx hb dX3_greatestLoser_3 rfl hl (by decide) rfl (fun ls hl => ?_)
  have L_4 : ∀ fz i : Nat, i ≤ 8 → 8 - i < fz → ∀ (v1 : Int32), v1 = (nI (wst he gv i)) → ∀ ls : Array Slot, lv_has ls 3 [(0, .ref (ad 0)), (2, .int (nI i)), (1, .int v1)] → W p l e (headSpec wsX3_greatestLoser (rmr 2 41)).room s m args below meth c s.heap [] 0 0 Q (F0 m 4 ls []) := by
    intro fz
    induction fz with
    | zero => intro i _ h; exact absurd h (Nat.not_lt_zero _)
    | succ fz ih_4 =>
      intro i hi_4 hn_4 v1 ev1 ls hl
      subst ev1
      have hw8 := wst_lt he gv i hi_4
      rcases Nat.lt_or_ge i 8 with h_i | h_i
      ·
        refine lv_iload_n hx hb dX3_greatestLoser_4 rfl (lv_at hl 1 rfl) ?_
        refine lv_bipush (v := 8) hx hb dX3_greatestLoser_5 (by decide) ?_
        refine lv_icmp_ge (tgt := 31) hx hb dX3_greatestLoser_7 (by decide) (fun c_7 => absurd c_7 (lt_no h_i (by decide))) (fun c_7 => ?_)
        refine lv_aload_n hx hb dX3_greatestLoser_10 rfl (lv_at hl 0 rfl) ?_
        refine lv_iload_n hx hb dX3_greatestLoser_11 rfl (lv_at hl 1 rfl) ?_
        refine vp_callSi (W.runV (As := [.int (nI i)]) (rest := []) ⟨hx, hb, hml, hown, hts⟩ (k_X3_lossOf l D cI cZ cO ad he gv gp gb ob nm lo i (by omega) (hh i (by omega))) (cwV 1 hts gX3_greatestLoser_X3_lossOf rfl rfl rfl (by decide +kernel) ⟨Nat.le_of_ble_eq_true rfl, Nat.le_of_ble_eq_true rfl⟩) ⟨rd_blind, va_recv hK hP (ci := 4) (q0 := 0) rfl rfl, rd_pre hP hK hN⟩ rfl rfl hl.1 rfl (lv_room (Nat.le_of_ble_eq_true rfl)) dX3_greatestLoser_12 ⟨Nat.le_of_ble_eq_true rfl, Nat.le_of_ble_eq_true rfl⟩) (fun r er => ?_)
        subst er
        refine lv_aload_n hx hb dX3_greatestLoser_15 rfl (lv_at hl 0 rfl) ?_
        refine lv_iload_n hx hb dX3_greatestLoser_16 rfl (lv_at hl 2 rfl) ?_
        refine vp_callSi (W.runV (As := [.int (nI (wst he gv i))]) (rest := [.int (lossP he gv i)]) ⟨hx, hb, hml, hown, hts⟩ (k_X3_lossOf l D cI cZ cO ad he gv gp gb ob nm lo (wst he gv i) (by omega) (hh _ (by omega))) (cwV 1 hts gX3_greatestLoser_X3_lossOf rfl rfl rfl (by decide +kernel) ⟨Nat.le_of_ble_eq_true rfl, Nat.le_of_ble_eq_true rfl⟩) ⟨rd_blind, va_recv hK hP (ci := 4) (q0 := 0) rfl rfl, rd_pre hP hK hN⟩ rfl rfl hl.1 rfl (lv_room (Nat.le_of_ble_eq_true rfl)) dX3_greatestLoser_17 ⟨Nat.le_of_ble_eq_true rfl, Nat.le_of_ble_eq_true rfl⟩) (fun r er => ?_)
        subst er
        refine lv_icmp_le (tgt := 25) hx hb dX3_greatestLoser_20 (by decide) (fun c_20 => ?_) (fun c_20 => ?_)
        ·
          refine lv_iinc (v := nI (i + 1)) (lv' := [(2, .int (nI (i + 1))), (0, .ref (ad 0)), (1, .int (nI (wst he gv i)))]) hx hb dX3_greatestLoser_25 hl (k := 1) rfl (by exact iinc_n _) (by decide) rfl (fun ls hl => ?_)
          refine lv_goto (tgt := 4) hx hb dX3_greatestLoser_28 (by decide) ?_
          exact ih_4 (i + 1) (by omega) (by omega) _ (by first | exact wst_leC c_20 | exact wst_gtC c_20) ls (lv_sub hl [1, 0, 2] rfl)
        ·
          refine lv_iload_n hx hb dX3_greatestLoser_23 rfl (lv_at hl 1 rfl) ?_
          refine lv_istore_n (lv' := [(1, .int (nI i)), (0, .ref (ad 0)), (2, .int (nI i))]) hx hb dX3_greatestLoser_24 rfl hl (by decide) rfl (fun ls hl => ?_)
          refine lv_iinc (v := nI (i + 1)) (lv' := [(2, .int (nI (i + 1))), (1, .int (nI i)), (0, .ref (ad 0))]) hx hb dX3_greatestLoser_25 hl (k := 2) rfl (by exact iinc_n _) (by decide) rfl (fun ls hl => ?_)
          refine lv_goto (tgt := 4) hx hb dX3_greatestLoser_28 (by decide) ?_
          exact ih_4 (i + 1) (by omega) (by omega) _ (by first | exact wst_leC c_20 | exact wst_gtC c_20) ls (lv_sub hl [2, 0, 1] rfl)
      ·
        obtain rfl : 8 = i := by omega
        refine lv_iload_n hx hb dX3_greatestLoser_4 rfl (lv_at hl 1 rfl) ?_
        refine lv_bipush (v := 8) hx hb dX3_greatestLoser_5 (by decide) ?_
        refine lv_icmp_ge (tgt := 31) hx hb dX3_greatestLoser_7 (by decide) (fun c_7 => ?_) (fun c_7 => absurd (lt_yes h_i (by decide)) c_7)
        refine lv_iload_n hx hb dX3_greatestLoser_31 rfl (lv_at hl 2 rfl) ?_
        subst hQ
        exact W.iret (v := nI (wst he gv 8)) hx hb hr (fun t ht _ => ⟨_, rfl, (by rfl), ht⟩) (fun _ h => absurd h List.not_mem_nil) dX3_greatestLoser_32
  exact L_4 (8 + 1) 1 (by omega) (by omega) _ (by rw [wst_1]; rfl) ls (lv_sub hl [2, 0, 1] rfl)

set_option maxHeartbeats 800000 in
set_option maxRecDepth 100000 in
theorem k_X3_findBits (l : Launch) (D : va_G) (cI cZ cO : ClassId) (ad : Nat → Nat) (A : Nat → Prop) (he : Nat → Int32) (gv : Nat → Int32) (gp : Int32) (gb : Int32) (ob : Int32) (nm : Int32) (lo : Int32) (hA : apD 3 A ad) (x : Nat) (x1 : Int32)  (hh : ∀ p, p < 8 → ∃ j, j < 8 ∧ he p = nI j)  : Met l yX3_findBits wsX3_findBits (rmr 2 44) (va_Pc [.ref (ad 0), .int (nI x), .int x1] (rdP D ([(cI, .int), (cI, .int), (cO, .object "java/lang/Object")]) (mpW cI ad he gv gp gb ob nm lo))) (va_Qv (fun _ : Unit => True) (fun _ t => va_P D vwCl (mpW cI ad he (fillA gv (cV he x1 (nI x) nm) 8) gp (cGB he x1 (nI x) nm) (cOB he x1 (nI x) nm) nm (cLoss he x1 (nI x) nm)) t.heap) A) 0 0 A := by
  refine Met.ofW (cc := cX3_findBits) (maxL := 5) (ret := none) (by decide) rfl ?_
  intro p e s m args below meth c s₁ B hml hv
  obtain ⟨hargs, hP, hK, hN⟩ := hv
  have hx := B.exec
  have hb := B.bytes
  have hr := B.returns
  have hts := atoms_spec (ws := wsX3_findBits) B.pre
  have hown : s.vm.findClass RX3 = some m.cls := findClass_of_methodNamed B.named
  have hlocks := B.notSynchronized
  have hen : entryFrame m args 5 = entryFrame m ([.ref (ad 0), .int (nI x), .int x1] : List Value).toArray 5 := by rw [hargs]
  rw [hen]
  have hl := lv_entry ([.ref (ad 0), .int (nI x), .int x1]) (n := 5) (Nat.le_of_ble_eq_true rfl)
  rw [lg_entry_eq]
  generalize (lg_sl ([.ref (ad 0), .int (nI x), .int x1]) ++ List.replicate (5 - (lg_sl ([.ref (ad 0), .int (nI x), .int x1])).length) Slot.unset).toArray = ls at hl ⊢
  have hl : lv_has ls 5 [(0, .ref (ad 0)), (1, .int (nI x)), (2, .int x1)] := hl
  have hS : va_S A s.heap s.heap [] := va_S.rf
  generalize hQ : MQ below (va_Qv (fun _ : Unit => True) (fun _ t => va_P D vwCl (mpW cI ad he (fillA gv (cV he x1 (nI x) nm) 8) gp (cGB he x1 (nI x) nm) (cOB he x1 (nI x) nm) nm (cLoss he x1 (nI x) nm)) t.heap) A) args s 0 0 A = Q
  have go : ∀ (H : Heap) (locs : List Loc), va_P D vwCl (mpW cI ad he gv gp gb ob nm lo) H → va_S A s.heap H locs → W p l e (headSpec wsX3_findBits (rmr 2 44)).room s m args below meth c H locs 0 0 Q (F0 m 0 ls []) := by
    intro H locs hP hS
    refine lv_sipush (v := 255) hx hb dX3_findBits_0 (by decide) ?_
    refine lv_aload_n hx hb dX3_findBits_3 rfl (lv_at hl 0 rfl) ?_
    refine va_get (D := D) (ci := 4) (v := .int nm) (C := RX3) (T := TX3) (N := 7) hx hb hts (fun _ h => List.mem_cons_of_mem _ (List.mem_append_right _ (h))) hown hK hP 0 rfl rfl 5 (by decide) (hts _ (List.mem_of_getElem? (i := 1) rfl)) (fun _ h9 => h9) rfl dX3_findBits_4 ?_
    refine lv_iconst (v := (-1)) hx hb dX3_findBits_7 (by decide) ?_
    refine lv_ixor hx hb dX3_findBits_8 ?_
    refine lv_iand hx hb dX3_findBits_9 ?_
    refine lv_iconst (v := 1) hx hb dX3_findBits_10 (by decide) ?_
    refine lv_iload_n hx hb dX3_findBits_11 rfl (lv_at hl 1 rfl) ?_
    refine lv_ishl hx hb dX3_findBits_12 ?_
    refine lv_iconst (v := (-1)) hx hb dX3_findBits_13 (by decide) ?_
    refine lv_ixor hx hb dX3_findBits_14 ?_
    refine lv_iand hx hb dX3_findBits_15 ?_
    refine lv_istore_n (lv' := [(3, .int ((255 &&& (nm ^^^ (-1))) &&& (((1 : Int32) <<< ((nI x) &&& 31)) ^^^ (-1)))), (0, .ref (ad 0)), (1, .int (nI x)), (2, .int x1)]) hx hb dX3_findBits_16 rfl hl (by decide) rfl (fun ls hl => ?_)
    refine lv_aload_n hx hb dX3_findBits_17 rfl (lv_at hl 1 rfl) ?_
    refine lv_aload_n hx hb dX3_findBits_18 rfl (lv_at hl 1 rfl) ?_
    refine lv_iload_n hx hb dX3_findBits_19 rfl (lv_at hl 0 rfl) ?_
    refine lv_iload_n hx hb dX3_findBits_20 rfl (lv_at hl 3 rfl) ?_
    refine lv_iand hx hb dX3_findBits_21 ?_
    refine vp_callSi (W.runV (As := [.int (((255 &&& (nm ^^^ (-1))) &&& (((1 : Int32) <<< ((nI x) &&& 31)) ^^^ (-1))) &&& x1)]) (rest := [.ref (ad 0)]) ⟨hx, hb, hml, hown, hts⟩ (k_X3_sharedBy l D cI cZ cO ad he gv gp gb ob nm lo (((255 &&& (nm ^^^ (-1))) &&& (((1 : Int32) <<< ((nI x) &&& 31)) ^^^ (-1))) &&& x1)) (cwV 1 hts gX3_findBits_X3_sharedBy rfl rfl rfl (by decide +kernel) ⟨Nat.le_of_ble_eq_true rfl, Nat.le_of_ble_eq_true rfl⟩) ⟨rd_blind, va_recv hK hP (ci := 4) (q0 := 0) rfl rfl, rd_pre hP hK hN⟩ rfl rfl hl.1 rfl (lv_room (Nat.le_of_ble_eq_true rfl)) dX3_findBits_22 ⟨Nat.le_of_ble_eq_true rfl, Nat.le_of_ble_eq_true rfl⟩) (fun r er => ?_)
    subst er
    refine va_put (D := D) (ci := 4) (v := .int (comm he (((255 &&& (nm ^^^ (-1))) &&& (((1 : Int32) <<< ((nI x) &&& 31)) ^^^ (-1))) &&& x1) 8)) (ty := .int) (C := RX3) (T := TX3) (N := 7) hx hb hts (fun _ h => List.mem_cons_of_mem _ (List.mem_append_right _ (h))) tyX3 tyX3_ok nmX3 hown hK hP (mp_D hA) hS 0 rfl rfl 3 (by decide) (hts _ (List.mem_of_getElem? (i := 2) rfl)) (fun _ h9 => h9) rfl (by decide +kernel) rfl rfl (Nat.le_of_ble_eq_true rfl) dX3_findBits_25 (fun H locs hP _ hS => ?_)
    have hP : va_P D vwCl (mpW cI ad he gv gp (comm he (((255 &&& (nm ^^^ (-1))) &&& (((1 : Int32) <<< ((nI x) &&& 31)) ^^^ (-1))) &&& x1) 8) ob nm lo) H := hP
    refine lv_aload_n hx hb dX3_findBits_28 rfl (lv_at hl 1 rfl) ?_
    refine lv_aload_n hx hb dX3_findBits_29 rfl (lv_at hl 1 rfl) ?_
    refine lv_iload_n hx hb dX3_findBits_30 rfl (lv_at hl 0 rfl) ?_
    refine lv_iload_n hx hb dX3_findBits_31 rfl (lv_at hl 3 rfl) ?_
    refine lv_iconst (v := (-1)) hx hb dX3_findBits_32 (by decide) ?_
    refine lv_ixor hx hb dX3_findBits_33 ?_
    refine lv_iand hx hb dX3_findBits_34 ?_
    refine vp_callSi (W.runV (As := [.int (((255 &&& (nm ^^^ (-1))) &&& (((1 : Int32) <<< ((nI x) &&& 31)) ^^^ (-1))) &&& (x1 ^^^ (-1)))]) (rest := [.ref (ad 0)]) ⟨hx, hb, hml, hown, hts⟩ (k_X3_sharedBy l D cI cZ cO ad he gv gp (comm he (((255 &&& (nm ^^^ (-1))) &&& (((1 : Int32) <<< ((nI x) &&& 31)) ^^^ (-1))) &&& x1) 8) ob nm lo (((255 &&& (nm ^^^ (-1))) &&& (((1 : Int32) <<< ((nI x) &&& 31)) ^^^ (-1))) &&& (x1 ^^^ (-1)))) (cwV 1 hts gX3_findBits_X3_sharedBy rfl rfl rfl (by decide +kernel) ⟨Nat.le_of_ble_eq_true rfl, Nat.le_of_ble_eq_true rfl⟩) ⟨rd_blind, va_recv hK hP (ci := 4) (q0 := 0) rfl rfl, rd_pre hP hK hN⟩ rfl rfl hl.1 rfl (lv_room (Nat.le_of_ble_eq_true rfl)) dX3_findBits_35 ⟨Nat.le_of_ble_eq_true rfl, Nat.le_of_ble_eq_true rfl⟩) (fun r er => ?_)
    subst er
    refine va_put (D := D) (ci := 4) (v := .int (comm he (((255 &&& (nm ^^^ (-1))) &&& (((1 : Int32) <<< ((nI x) &&& 31)) ^^^ (-1))) &&& (x1 ^^^ (-1))) 8)) (ty := .int) (C := RX3) (T := TX3) (N := 7) hx hb hts (fun _ h => List.mem_cons_of_mem _ (List.mem_append_right _ (h))) tyX3 tyX3_ok nmX3 hown hK hP (mp_D hA) hS 0 rfl rfl 4 (by decide) (hts _ (List.mem_of_getElem? (i := 3) rfl)) (fun _ h9 => h9) rfl (by decide +kernel) rfl rfl (Nat.le_of_ble_eq_true rfl) dX3_findBits_38 (fun H locs hP _ hS => ?_)
    have hP : va_P D vwCl (mpW cI ad he gv gp (comm he (((255 &&& (nm ^^^ (-1))) &&& (((1 : Int32) <<< ((nI x) &&& 31)) ^^^ (-1))) &&& x1) 8) (comm he (((255 &&& (nm ^^^ (-1))) &&& (((1 : Int32) <<< ((nI x) &&& 31)) ^^^ (-1))) &&& (x1 ^^^ (-1))) 8) nm lo) H := hP
    have hP : va_P D vwCl (mpW cI ad he gv gp (cGB he x1 (nI x) nm) (cOB he x1 (nI x) nm) nm lo) H := hP
    refine lv_aload_n hx hb dX3_findBits_41 rfl (lv_at hl 1 rfl) ?_
    refine lv_iconst (v := 0) hx hb dX3_findBits_42 (by decide) ?_
    refine va_put (D := D) (ci := 4) (v := .int 0) (ty := .int) (C := RX3) (T := TX3) (N := 7) hx hb hts (fun _ h => List.mem_cons_of_mem _ (List.mem_append_right _ (h))) tyX3 tyX3_ok nmX3 hown hK hP (mp_D hA) hS 0 rfl rfl 6 (by decide) (hts _ (List.mem_of_getElem? (i := 4) rfl)) (fun _ h9 => h9) rfl (by decide +kernel) rfl rfl (Nat.le_of_ble_eq_true rfl) dX3_findBits_43 (fun H locs hP _ hS => ?_)
    have hP : va_P D vwCl (mpW cI ad he gv gp (cGB he x1 (nI x) nm) (cOB he x1 (nI x) nm) nm 0) H := hP
    refine lv_iconst (v := 0) hx hb dX3_findBits_46 (by decide) ?_
    refine lv_istore (lv' := [(4, .int 0), (3, .int ((255 &&& (nm ^^^ (-1))) &&& (((1 : Int32) <<< ((nI x) &&& 31)) ^^^ (-1)))), (0, .ref (ad 0)), (1, .int (nI x)), (2, .int x1)]) hx hb dX3_findBits_47 hl (by decide) rfl (fun ls hl => ?_)
    have L_49 : ∀ fz i : Nat, i ≤ 8 → 8 - i < fz → ∀ (kgv : Nat → Int32), kgv = (fillA gv (cV he x1 (nI x) nm) i) → ∀ (klo : Int32), klo = (lossS he (cV he x1 (nI x) nm) i) → ∀ (H : Heap) (locs : List Loc), va_P D vwCl (mpW cI ad he kgv gp (cGB he x1 (nI x) nm) (cOB he x1 (nI x) nm) nm klo) H → va_S A s.heap H locs → ∀ ls : Array Slot, lv_has ls 5 [(0, .ref (ad 0)), (1, .int (nI x)), (2, .int x1), (3, .int ((255 &&& (nm ^^^ (-1))) &&& (((1 : Int32) <<< ((nI x) &&& 31)) ^^^ (-1)))), (4, .int (nI i))] → W p l e (headSpec wsX3_findBits (rmr 2 44)).room s m args below meth c H locs 0 0 Q (F0 m 49 ls []) := by
      intro fz
      induction fz with
      | zero => intro i _ h; exact absurd h (Nat.not_lt_zero _)
      | succ fz ih_49 =>
        intro i hi_49 hn_49 kgv ekgv klo eklo H locs hP hS ls hl
        subst ekgv
        subst eklo
        rcases Nat.lt_or_ge i 8 with h_i | h_i
        ·
          refine lv_iload hx hb dX3_findBits_49 (lv_at hl 4 rfl) ?_
          refine lv_bipush (v := 8) hx hb dX3_findBits_51 (by decide) ?_
          refine lv_icmp_ge (tgt := 130) hx hb dX3_findBits_53 (by decide) (fun c_53 => absurd c_53 (lt_no h_i (by decide))) (fun c_53 => ?_)
          refine lv_iload_n hx hb dX3_findBits_56 rfl (lv_at hl 3 rfl) ?_
          refine lv_iload hx hb dX3_findBits_57 (lv_at hl 4 rfl) ?_
          refine vs_callSi (va_runSN (As := [.int ((255 &&& (nm ^^^ (-1))) &&& (((1 : Int32) <<< ((nI x) &&& 31)) ^^^ (-1))), .int (nI i)]) (rest := []) ⟨hx, hb, hml, hown, hts⟩ (k_X4_contains l ((255 &&& (nm ^^^ (-1))) &&& (((1 : Int32) <<< ((nI x) &&& 31)) ^^^ (-1))) (nI i)) ⟨va_cnB (host := RX4) 2 hts ggX3_findBits_X4_contains rfl rfl rfl hN.2.1 (hts _ (List.mem_of_getElem? (i := 13) rfl)) (by decide +kernel) ⟨Nat.le_of_ble_eq_true rfl, Nat.le_of_ble_eq_true rfl⟩, (hts _ (List.mem_of_getElem? (i := 12) rfl)), trivial⟩ ⟨nf_blind, fun U hU hW => ⟨rfl, trivial⟩⟩ rfl rfl hl.1 rfl (lv_room (Nat.le_of_ble_eq_true rfl)) dX3_findBits_59 ⟨Nat.le_of_ble_eq_true rfl, Nat.le_of_ble_eq_true rfl⟩) (fun r er => ?_)
          subst er
          refine lv_if_ne (tgt := 82) hx hb dX3_findBits_62 (by decide) (fun c_62 => ?_) (fun c_62 => ?_)
          ·
            have c_62 := b2i_1 c_62
            refine lv_aload_n hx hb dX3_findBits_82 rfl (lv_at hl 0 rfl) ?_
            refine va_get (D := D) (ci := 4) (v := .ref (ad 2)) (C := RX3) (T := TX3) (N := 7) hx hb hts (fun _ h => List.mem_cons_of_mem _ (List.mem_append_right _ (h))) hown hK hP 0 rfl rfl 1 (by decide) (hts _ (List.mem_of_getElem? (i := 5) rfl)) (fun _ h9 => h9) rfl dX3_findBits_83 ?_
            refine lv_iload hx hb dX3_findBits_86 (lv_at hl 4 rfl) ?_
            refine lv_iload_n hx hb dX3_findBits_88 rfl (lv_at hl 2 rfl) ?_
            refine lv_iload hx hb dX3_findBits_89 (lv_at hl 4 rfl) ?_
            refine vs_callSi (va_runSN (As := [.int x1, .int (nI i)]) (rest := [.int (nI i), .ref (ad 2)]) ⟨hx, hb, hml, hown, hts⟩ (k_X4_contains l x1 (nI i)) ⟨va_cnB (host := RX4) 2 hts ggX3_findBits_X4_contains rfl rfl rfl hN.2.1 (hts _ (List.mem_of_getElem? (i := 13) rfl)) (by decide +kernel) ⟨Nat.le_of_ble_eq_true rfl, Nat.le_of_ble_eq_true rfl⟩, (hts _ (List.mem_of_getElem? (i := 12) rfl)), trivial⟩ ⟨nf_blind, fun U hU hW => ⟨rfl, trivial⟩⟩ rfl rfl hl.1 rfl (lv_room (Nat.le_of_ble_eq_true rfl)) dX3_findBits_91 ⟨Nat.le_of_ble_eq_true rfl, Nat.le_of_ble_eq_true rfl⟩) (fun r er => ?_)
            subst er
            have J_108 : ∀ (z0 : Int32), z0 = (if (hasB x1 (nI i)) = true then cGB he x1 (nI x) nm else cOB he x1 (nI x) nm) → ∀ (H : Heap) (locs : List Loc), va_P D vwCl (mpW cI ad he (fillA gv (cV he x1 (nI x) nm) i) gp (cGB he x1 (nI x) nm) (cOB he x1 (nI x) nm) nm (lossS he (cV he x1 (nI x) nm) i)) H → va_S A s.heap H locs → ∀ ls : Array Slot, lv_has ls 5 [(0, .ref (ad 0)), (1, .int (nI x)), (2, .int x1), (3, .int ((255 &&& (nm ^^^ (-1))) &&& (((1 : Int32) <<< ((nI x) &&& 31)) ^^^ (-1)))), (4, .int (nI i))] → W p l e (headSpec wsX3_findBits (rmr 2 44)).room s m args below meth c H locs 0 0 Q (F0 m 108 ls [.int z0, .int (nI i), .ref (ad 2)]) := by
              intro z0 ez0 H locs hP hS ls hl
              subst ez0
              refine top_eq (y := cV he x1 (nI x) nm i) (by exact cV_t c_62) ?_
              refine st_i (k := i) hx hb hK hP (mp_D hA) hS 2 0 rfl rfl (by omega) (by decide) dX3_findBits_108 (fun H locs hP _ hS => ?_)
              have hP : va_P D vwCl (mpW cI ad he (upd (fillA gv (cV he x1 (nI x) nm) i) i (cV he x1 (nI x) nm i)) gp (cGB he x1 (nI x) nm) (cOB he x1 (nI x) nm) nm (lossS he (cV he x1 (nI x) nm) i)) H := hP
              refine lv_aload_n hx hb dX3_findBits_109 rfl (lv_at hl 0 rfl) ?_
              refine lv_dup hx hb dX3_findBits_110 rfl ?_
              refine va_get (D := D) (ci := 4) (v := .int (lossS he (cV he x1 (nI x) nm) i)) (C := RX3) (T := TX3) (N := 7) hx hb hts (fun _ h => List.mem_cons_of_mem _ (List.mem_append_right _ (h))) hown hK hP 0 rfl rfl 6 (by decide) (hts _ (List.mem_of_getElem? (i := 4) rfl)) (fun _ h9 => h9) rfl dX3_findBits_111 ?_
              refine lv_aload_n hx hb dX3_findBits_114 rfl (lv_at hl 0 rfl) ?_
              refine lv_iload hx hb dX3_findBits_115 (lv_at hl 4 rfl) ?_
              refine vp_callSi (W.runV (As := [.int (nI i)]) (rest := [.int (lossS he (cV he x1 (nI x) nm) i), .ref (ad 0)]) ⟨hx, hb, hml, hown, hts⟩ (k_X3_lossOf l D cI cZ cO ad he (upd (fillA gv (cV he x1 (nI x) nm) i) i (cV he x1 (nI x) nm i)) gp (cGB he x1 (nI x) nm) (cOB he x1 (nI x) nm) nm (lossS he (cV he x1 (nI x) nm) i) i (by omega) (hh i h_i)) (cwV 1 hts gX3_findBits_X3_lossOf rfl rfl rfl (by decide +kernel) ⟨Nat.le_of_ble_eq_true rfl, Nat.le_of_ble_eq_true rfl⟩) ⟨rd_blind, va_recv hK hP (ci := 4) (q0 := 0) rfl rfl, rd_pre hP hK hN⟩ rfl rfl hl.1 rfl (lv_room (Nat.le_of_ble_eq_true rfl)) dX3_findBits_117 ⟨Nat.le_of_ble_eq_true rfl, Nat.le_of_ble_eq_true rfl⟩) (fun r er => ?_)
              subst er
              refine top_eq (y := lossP he (cV he x1 (nI x) nm) i) (by exact lossP_u he _ i _) ?_
              refine lv_iadd hx hb dX3_findBits_120 ?_
              refine va_put (D := D) (ci := 4) (v := .int ((lossS he (cV he x1 (nI x) nm) i) + (lossP he (cV he x1 (nI x) nm) i))) (ty := .int) (C := RX3) (T := TX3) (N := 7) hx hb hts (fun _ h => List.mem_cons_of_mem _ (List.mem_append_right _ (h))) tyX3 tyX3_ok nmX3 hown hK hP (mp_D hA) hS 0 rfl rfl 6 (by decide) (hts _ (List.mem_of_getElem? (i := 4) rfl)) (fun _ h9 => h9) rfl (by decide +kernel) rfl rfl (Nat.le_of_ble_eq_true rfl) dX3_findBits_121 (fun H locs hP _ hS => ?_)
              have hP : va_P D vwCl (mpW cI ad he (upd (fillA gv (cV he x1 (nI x) nm) i) i (cV he x1 (nI x) nm i)) gp (cGB he x1 (nI x) nm) (cOB he x1 (nI x) nm) nm ((lossS he (cV he x1 (nI x) nm) i) + (lossP he (cV he x1 (nI x) nm) i))) H := hP
              refine lv_iinc (v := nI (i + 1)) (lv' := [(4, .int (nI (i + 1))), (0, .ref (ad 0)), (1, .int (nI x)), (2, .int x1), (3, .int ((255 &&& (nm ^^^ (-1))) &&& (((1 : Int32) <<< ((nI x) &&& 31)) ^^^ (-1))))]) hx hb dX3_findBits_124 hl (k := 4) rfl (by exact iinc_n _) (by decide) rfl (fun ls hl => ?_)
              refine lv_goto (tgt := 49) hx hb dX3_findBits_127 (by decide) ?_
              exact ih_49 (i + 1) (by omega) (by omega) _ (by rfl) _ (by rfl) _ _ hP hS ls (lv_sub hl [1, 2, 3, 4, 0] rfl)
            refine lv_if_eq (tgt := 104) hx hb dX3_findBits_94 (by decide) (fun c_94 => ?_) (fun c_94 => ?_)
            ·
              have c_94 := b2i_0 c_94
              refine lv_aload_n hx hb dX3_findBits_104 rfl (lv_at hl 0 rfl) ?_
              refine va_get (D := D) (ci := 4) (v := .int (cOB he x1 (nI x) nm)) (C := RX3) (T := TX3) (N := 7) hx hb hts (fun _ h => List.mem_cons_of_mem _ (List.mem_append_right _ (h))) hown hK hP 0 rfl rfl 4 (by decide) (hts _ (List.mem_of_getElem? (i := 3) rfl)) (fun _ h9 => h9) rfl dX3_findBits_105 ?_
              exact J_108 _ ((if_neg (b2i_bf c_94)).symm) _ _ hP hS ls (lv_sub hl [0, 1, 2, 3, 4] rfl)
            ·
              have c_94 := b2i_1 c_94
              refine lv_aload_n hx hb dX3_findBits_97 rfl (lv_at hl 0 rfl) ?_
              refine va_get (D := D) (ci := 4) (v := .int (cGB he x1 (nI x) nm)) (C := RX3) (T := TX3) (N := 7) hx hb hts (fun _ h => List.mem_cons_of_mem _ (List.mem_append_right _ (h))) hown hK hP 0 rfl rfl 3 (by decide) (hts _ (List.mem_of_getElem? (i := 2) rfl)) (fun _ h9 => h9) rfl dX3_findBits_98 ?_
              refine lv_goto (tgt := 108) hx hb dX3_findBits_101 (by decide) ?_
              exact J_108 _ ((if_pos c_94).symm) _ _ hP hS ls (lv_sub hl [0, 1, 2, 3, 4] rfl)
          ·
            have c_62 := b2i_0 c_62
            refine lv_aload_n hx hb dX3_findBits_65 rfl (lv_at hl 0 rfl) ?_
            refine va_get (D := D) (ci := 4) (v := .ref (ad 2)) (C := RX3) (T := TX3) (N := 7) hx hb hts (fun _ h => List.mem_cons_of_mem _ (List.mem_append_right _ (h))) hown hK hP 0 rfl rfl 1 (by decide) (hts _ (List.mem_of_getElem? (i := 5) rfl)) (fun _ h9 => h9) rfl dX3_findBits_66 ?_
            refine lv_iload hx hb dX3_findBits_69 (lv_at hl 4 rfl) ?_
            refine lv_aload_n hx hb dX3_findBits_71 rfl (lv_at hl 0 rfl) ?_
            refine va_get (D := D) (ci := 4) (v := .ref (ad 1)) (C := RX3) (T := TX3) (N := 7) hx hb hts (fun _ h => List.mem_cons_of_mem _ (List.mem_append_right _ (h))) hown hK hP 0 rfl rfl 0 (by decide) (hts _ (List.mem_of_getElem? (i := 6) rfl)) (fun _ h9 => h9) rfl dX3_findBits_72 ?_
            refine lv_iload hx hb dX3_findBits_75 (lv_at hl 4 rfl) ?_
            refine ld_i (k := i) hx hb hK hP 1 0 rfl rfl (by omega) (by decide) dX3_findBits_77 ?_
            refine top_eq (y := cV he x1 (nI x) nm i) (by exact cV_n c_62) ?_
            refine st_i (k := i) hx hb hK hP (mp_D hA) hS 2 0 rfl rfl (by omega) (by decide) dX3_findBits_78 (fun H locs hP _ hS => ?_)
            have hP : va_P D vwCl (mpW cI ad he (upd (fillA gv (cV he x1 (nI x) nm) i) i (cV he x1 (nI x) nm i)) gp (cGB he x1 (nI x) nm) (cOB he x1 (nI x) nm) nm (lossS he (cV he x1 (nI x) nm) i)) H := hP
            refine lv_goto (tgt := 109) hx hb dX3_findBits_79 (by decide) ?_
            refine lv_aload_n hx hb dX3_findBits_109 rfl (lv_at hl 0 rfl) ?_
            refine lv_dup hx hb dX3_findBits_110 rfl ?_
            refine va_get (D := D) (ci := 4) (v := .int (lossS he (cV he x1 (nI x) nm) i)) (C := RX3) (T := TX3) (N := 7) hx hb hts (fun _ h => List.mem_cons_of_mem _ (List.mem_append_right _ (h))) hown hK hP 0 rfl rfl 6 (by decide) (hts _ (List.mem_of_getElem? (i := 4) rfl)) (fun _ h9 => h9) rfl dX3_findBits_111 ?_
            refine lv_aload_n hx hb dX3_findBits_114 rfl (lv_at hl 0 rfl) ?_
            refine lv_iload hx hb dX3_findBits_115 (lv_at hl 4 rfl) ?_
            refine vp_callSi (W.runV (As := [.int (nI i)]) (rest := [.int (lossS he (cV he x1 (nI x) nm) i), .ref (ad 0)]) ⟨hx, hb, hml, hown, hts⟩ (k_X3_lossOf l D cI cZ cO ad he (upd (fillA gv (cV he x1 (nI x) nm) i) i (cV he x1 (nI x) nm i)) gp (cGB he x1 (nI x) nm) (cOB he x1 (nI x) nm) nm (lossS he (cV he x1 (nI x) nm) i) i (by omega) (hh i h_i)) (cwV 1 hts gX3_findBits_X3_lossOf rfl rfl rfl (by decide +kernel) ⟨Nat.le_of_ble_eq_true rfl, Nat.le_of_ble_eq_true rfl⟩) ⟨rd_blind, va_recv hK hP (ci := 4) (q0 := 0) rfl rfl, rd_pre hP hK hN⟩ rfl rfl hl.1 rfl (lv_room (Nat.le_of_ble_eq_true rfl)) dX3_findBits_117 ⟨Nat.le_of_ble_eq_true rfl, Nat.le_of_ble_eq_true rfl⟩) (fun r er => ?_)
            subst er
            refine top_eq (y := lossP he (cV he x1 (nI x) nm) i) (by exact lossP_u he _ i _) ?_
            refine lv_iadd hx hb dX3_findBits_120 ?_
            refine va_put (D := D) (ci := 4) (v := .int ((lossS he (cV he x1 (nI x) nm) i) + (lossP he (cV he x1 (nI x) nm) i))) (ty := .int) (C := RX3) (T := TX3) (N := 7) hx hb hts (fun _ h => List.mem_cons_of_mem _ (List.mem_append_right _ (h))) tyX3 tyX3_ok nmX3 hown hK hP (mp_D hA) hS 0 rfl rfl 6 (by decide) (hts _ (List.mem_of_getElem? (i := 4) rfl)) (fun _ h9 => h9) rfl (by decide +kernel) rfl rfl (Nat.le_of_ble_eq_true rfl) dX3_findBits_121 (fun H locs hP _ hS => ?_)
            have hP : va_P D vwCl (mpW cI ad he (upd (fillA gv (cV he x1 (nI x) nm) i) i (cV he x1 (nI x) nm i)) gp (cGB he x1 (nI x) nm) (cOB he x1 (nI x) nm) nm ((lossS he (cV he x1 (nI x) nm) i) + (lossP he (cV he x1 (nI x) nm) i))) H := hP
            refine lv_iinc (v := nI (i + 1)) (lv' := [(4, .int (nI (i + 1))), (0, .ref (ad 0)), (1, .int (nI x)), (2, .int x1), (3, .int ((255 &&& (nm ^^^ (-1))) &&& (((1 : Int32) <<< ((nI x) &&& 31)) ^^^ (-1))))]) hx hb dX3_findBits_124 hl (k := 4) rfl (by exact iinc_n _) (by decide) rfl (fun ls hl => ?_)
            refine lv_goto (tgt := 49) hx hb dX3_findBits_127 (by decide) ?_
            exact ih_49 (i + 1) (by omega) (by omega) _ (by rfl) _ (by rfl) _ _ hP hS ls (lv_sub hl [1, 2, 3, 4, 0] rfl)
        ·
          obtain rfl : 8 = i := by omega
          refine lv_iload hx hb dX3_findBits_49 (lv_at hl 4 rfl) ?_
          refine lv_bipush (v := 8) hx hb dX3_findBits_51 (by decide) ?_
          refine lv_icmp_ge (tgt := 130) hx hb dX3_findBits_53 (by decide) (fun c_53 => ?_) (fun c_53 => absurd (lt_yes h_i (by decide)) c_53)
          subst hQ
          have hP : va_P D vwCl (mpW cI ad he (fillA gv (cV he x1 (nI x) nm) 8) gp (cGB he x1 (nI x) nm) (cOB he x1 (nI x) nm) nm (lossS he (cV he x1 (nI x) nm) 8)) H := hP
          have qlo : lossS he (cV he x1 (nI x) nm) 8 = cLoss he x1 (nI x) nm := by rfl
          have hP : va_P D vwCl (mpW cI ad he (fillA gv (cV he x1 (nI x) nm) 8) gp (cGB he x1 (nI x) nm) (cOB he x1 (nI x) nm) nm (cLoss he x1 (nI x) nm)) H := mpW_P rfl rfl rfl rfl rfl rfl qlo hP
          exact W.vret hx hb hr (fun t ht _ => ⟨⟨(), rfl, trivial, by have e := hP; rw [← ht] at e; exact e⟩, hS.F ht⟩) hS.2.2 dX3_findBits_130
    exact L_49 (8 + 1) 0 (by omega) (by omega) _ (by rfl) _ (by rfl) _ _ hP hS ls (lv_sub hl [2, 3, 4, 1, 0] rfl)
  exact go _ _ hP hS

set_option maxHeartbeats 800000 in
set_option maxRecDepth 100000 in
theorem k_X3_make (l : Launch) (D : va_G) (cI cZ cO : ClassId) (ad : Nat → Nat) (A : Nat → Prop) (he : Nat → Int32) (gv : Nat → Int32) (gp : Int32) (gb : Int32) (ob : Int32) (nm : Int32) (lo : Int32) (hA : apD 3 A ad) (x : Nat) (gi : Int32) (mm : Int32)  (hh : ∀ p, p < 8 → ∃ j, j < 8 ∧ he p = nI j)  : Met l yX3_make wsX3_make (rmr 3 68) (va_Pc [.ref (ad 0), .int (nI x), .int gi, .int mm] (rdP D ([(cI, .int), (cI, .int), (cO, .object "java/lang/Object")]) (mpW cI ad he gv gp gb ob nm lo))) (va_Qv (fun _ : Unit => True) (fun _ t => va_P D vwCl (mpW cI ad he (fillA gv (cV he mm (nI x) (cNm he mm (nI x) 3)) 8) gi (cGB he mm (nI x) (cNm he mm (nI x) 3)) (cOB he mm (nI x) (cNm he mm (nI x) 3)) (cNm he mm (nI x) 3) (cLoss he mm (nI x) (cNm he mm (nI x) 3))) t.heap) A) 0 0 A := by
  refine Met.ofW (cc := cX3_make) (maxL := 5) (ret := none) (by decide) rfl ?_
  intro p e s m args below meth c s₁ B hml hv
  obtain ⟨hargs, hP, hK, hN⟩ := hv
  have hx := B.exec
  have hb := B.bytes
  have hr := B.returns
  have hts := atoms_spec (ws := wsX3_make) B.pre
  have hown : s.vm.findClass RX3 = some m.cls := findClass_of_methodNamed B.named
  have hlocks := B.notSynchronized
  have hen : entryFrame m args 5 = entryFrame m ([.ref (ad 0), .int (nI x), .int gi, .int mm] : List Value).toArray 5 := by rw [hargs]
  rw [hen]
  have hl := lv_entry ([.ref (ad 0), .int (nI x), .int gi, .int mm]) (n := 5) (Nat.le_of_ble_eq_true rfl)
  rw [lg_entry_eq]
  generalize (lg_sl ([.ref (ad 0), .int (nI x), .int gi, .int mm]) ++ List.replicate (5 - (lg_sl ([.ref (ad 0), .int (nI x), .int gi, .int mm])).length) Slot.unset).toArray = ls at hl ⊢
  have hl : lv_has ls 5 [(0, .ref (ad 0)), (1, .int (nI x)), (2, .int gi), (3, .int mm)] := hl
  have hS : va_S A s.heap s.heap [] := va_S.rf
  generalize hQ : MQ below (va_Qv (fun _ : Unit => True) (fun _ t => va_P D vwCl (mpW cI ad he (fillA gv (cV he mm (nI x) (cNm he mm (nI x) 3)) 8) gi (cGB he mm (nI x) (cNm he mm (nI x) 3)) (cOB he mm (nI x) (cNm he mm (nI x) 3)) (cNm he mm (nI x) 3) (cLoss he mm (nI x) (cNm he mm (nI x) 3))) t.heap) A) args s 0 0 A = Q
  have go : ∀ (H : Heap) (locs : List Loc), va_P D vwCl (mpW cI ad he gv gp gb ob nm lo) H → va_S A s.heap H locs → W p l e (headSpec wsX3_make (rmr 3 68)).room s m args below meth c H locs 0 0 Q (F0 m 0 ls []) := by
    intro H locs hP hS
    refine lv_aload_n hx hb dX3_make_0 rfl (lv_at hl 0 rfl) ?_
    refine lv_iload_n hx hb dX3_make_1 rfl (lv_at hl 2 rfl) ?_
    refine va_put (D := D) (ci := 4) (v := .int gi) (ty := .int) (C := RX3) (T := TX3) (N := 7) hx hb hts (fun _ h => List.mem_cons_of_mem _ (List.mem_append_right _ (h))) tyX3 tyX3_ok nmX3 hown hK hP (mp_D hA) hS 0 rfl rfl 2 (by decide) (hts _ (List.mem_of_getElem? (i := 1) rfl)) (fun _ h9 => h9) rfl (by decide +kernel) rfl rfl (Nat.le_of_ble_eq_true rfl) dX3_make_2 (fun H locs hP _ hS => ?_)
    have hP : va_P D vwCl (mpW cI ad he gv gi gb ob nm lo) H := hP
    refine lv_aload_n hx hb dX3_make_5 rfl (lv_at hl 0 rfl) ?_
    refine lv_iconst (v := 0) hx hb dX3_make_6 (by decide) ?_
    refine va_put (D := D) (ci := 4) (v := .int 0) (ty := .int) (C := RX3) (T := TX3) (N := 7) hx hb hts (fun _ h => List.mem_cons_of_mem _ (List.mem_append_right _ (h))) tyX3 tyX3_ok nmX3 hown hK hP (mp_D hA) hS 0 rfl rfl 5 (by decide) (hts _ (List.mem_of_getElem? (i := 2) rfl)) (fun _ h9 => h9) rfl (by decide +kernel) rfl rfl (Nat.le_of_ble_eq_true rfl) dX3_make_7 (fun H locs hP _ hS => ?_)
    have hP : va_P D vwCl (mpW cI ad he gv gi gb ob 0 lo) H := hP
    refine lv_aload_n hx hb dX3_make_10 rfl (lv_at hl 0 rfl) ?_
    refine lv_iload_n hx hb dX3_make_11 rfl (lv_at hl 1 rfl) ?_
    refine lv_iload_n hx hb dX3_make_12 rfl (lv_at hl 3 rfl) ?_
    refine va_callv (va_runV (As := [.int (nI x), .int mm]) (rest := []) ⟨hx, hb, hml, hown, hts⟩ (k_X3_findBits l D cI cZ cO ad A he gv gi gb ob 0 lo hA x mm hh) (cwV 2 hts gX3_make_X3_findBits rfl rfl rfl (by decide +kernel) ⟨Nat.le_of_ble_eq_true rfl, Nat.le_of_ble_eq_true rfl⟩) ⟨rd_blind, va_recv hK hP (ci := 4) (q0 := 0) rfl rfl, rd_pre hP hK hN⟩ rfl rfl hl.1 rfl (lv_room (Nat.le_of_ble_eq_true rfl)) dX3_make_13 ⟨Nat.le_of_ble_eq_true rfl, Nat.le_of_ble_eq_true rfl⟩) hS (fun q _ h => h) (fun q h => h) (fun u t H locs ht hvm hw hB hz1 hk1 hS => ?_)
    have hP := hB
    rw [ht] at hP
    have hP : va_P D vwCl (mpW cI ad he (fillA gv (cV he mm (nI x) 0) 8) gi (cGB he mm (nI x) 0) (cOB he mm (nI x) 0) 0 (cLoss he mm (nI x) 0)) H := hP
    refine lv_iconst (v := 0) hx hb dX3_make_16 (by decide) ?_
    refine lv_istore (lv' := [(4, .int 0), (0, .ref (ad 0)), (1, .int (nI x)), (2, .int gi), (3, .int mm)]) hx hb dX3_make_17 hl (by decide) rfl (fun ls hl => ?_)
    have L_19 : ∀ fz k : Nat, k ≤ 3 → 3 - k < fz → ∀ (knm : Int32), knm = (cNm he mm (nI x) k) → ∀ (kgb : Int32), kgb = (cGB he mm (nI x) (cNm he mm (nI x) k)) → ∀ (kob : Int32), kob = (cOB he mm (nI x) (cNm he mm (nI x) k)) → ∀ (klo : Int32), klo = (cLoss he mm (nI x) (cNm he mm (nI x) k)) → ∀ (kgv : Nat → Int32), kgv = (fillA gv (cV he mm (nI x) (cNm he mm (nI x) k)) 8) → ∀ (H : Heap) (locs : List Loc), va_P D vwCl (mpW cI ad he kgv gi kgb kob knm klo) H → va_S A s.heap H locs → ∀ ls : Array Slot, lv_has ls 5 [(0, .ref (ad 0)), (1, .int (nI x)), (2, .int gi), (3, .int mm), (4, .int (nI k))] → W p l e (headSpec wsX3_make (rmr 3 68)).room s m args below meth c H locs 0 0 Q (F0 m 19 ls []) := by
      intro fz
      induction fz with
      | zero => intro k _ h; exact absurd h (Nat.not_lt_zero _)
      | succ fz ih_19 =>
        intro k hi_19 hn_19 knm eknm kgb ekgb kob ekob klo eklo kgv ekgv H locs hP hS ls hl
        subst eknm
        subst ekgb
        subst ekob
        subst eklo
        subst ekgv
        rcases Nat.lt_or_ge k 3 with h_k | h_k
        ·
          refine lv_iload hx hb dX3_make_19 (lv_at hl 4 rfl) ?_
          refine lv_iconst (v := 3) hx hb dX3_make_21 (by decide) ?_
          refine lv_icmp_ge (tgt := 59) hx hb dX3_make_22 (by decide) (fun c_22 => absurd c_22 (lt_no h_k (by decide))) (fun c_22 => ?_)
          refine lv_aload_n hx hb dX3_make_25 rfl (lv_at hl 0 rfl) ?_
          refine va_get (D := D) (ci := 4) (v := .int (cLoss he mm (nI x) (cNm he mm (nI x) k))) (C := RX3) (T := TX3) (N := 7) hx hb hts (fun _ h => List.mem_cons_of_mem _ (List.mem_append_right _ (h))) hown hK hP 0 rfl rfl 6 (by decide) (hts _ (List.mem_of_getElem? (i := 3) rfl)) (fun _ h9 => h9) rfl dX3_make_26 ?_
          refine lv_if_le (tgt := 59) hx hb dX3_make_29 (by decide) (fun c_29 => ?_) (fun c_29 => ?_)
          ·
            subst hQ
            have hP : va_P D vwCl (mpW cI ad he (fillA gv (cV he mm (nI x) (cNm he mm (nI x) k)) 8) gi (cGB he mm (nI x) (cNm he mm (nI x) k)) (cOB he mm (nI x) (cNm he mm (nI x) k)) (cNm he mm (nI x) k) (cLoss he mm (nI x) (cNm he mm (nI x) k))) H := hP
            have qgv : fillA gv (cV he mm (nI x) (cNm he mm (nI x) k)) 8 = fillA gv (cV he mm (nI x) (cNm he mm (nI x) 3)) 8 := by first | (rw [cNm_3 (k := k) (by omega) c_29]) | rfl
            have qgb : cGB he mm (nI x) (cNm he mm (nI x) k) = cGB he mm (nI x) (cNm he mm (nI x) 3) := by first | (rw [cNm_3 (k := k) (by omega) c_29]) | rfl
            have qob : cOB he mm (nI x) (cNm he mm (nI x) k) = cOB he mm (nI x) (cNm he mm (nI x) 3) := by first | (rw [cNm_3 (k := k) (by omega) c_29]) | rfl
            have qnm : (cNm he mm (nI x) k) = (cNm he mm (nI x) 3) := by first | (rw [cNm_3 (k := k) (by omega) c_29]) | rfl
            have qlo : cLoss he mm (nI x) (cNm he mm (nI x) k) = cLoss he mm (nI x) (cNm he mm (nI x) 3) := by first | (rw [cNm_3 (k := k) (by omega) c_29]) | rfl
            have hP : va_P D vwCl (mpW cI ad he (fillA gv (cV he mm (nI x) (cNm he mm (nI x) 3)) 8) gi (cGB he mm (nI x) (cNm he mm (nI x) 3)) (cOB he mm (nI x) (cNm he mm (nI x) 3)) (cNm he mm (nI x) 3) (cLoss he mm (nI x) (cNm he mm (nI x) 3))) H := mpW_P rfl qgv rfl qgb qob qnm qlo hP
            exact W.vret hx hb hr (fun t ht _ => ⟨⟨(), rfl, trivial, by have e := hP; rw [← ht] at e; exact e⟩, hS.F ht⟩) hS.2.2 dX3_make_59
          ·
            refine lv_aload_n hx hb dX3_make_32 rfl (lv_at hl 0 rfl) ?_
            refine lv_dup hx hb dX3_make_33 rfl ?_
            refine va_get (D := D) (ci := 4) (v := .int (cNm he mm (nI x) k)) (C := RX3) (T := TX3) (N := 7) hx hb hts (fun _ h => List.mem_cons_of_mem _ (List.mem_append_right _ (h))) hown hK hP 0 rfl rfl 5 (by decide) (hts _ (List.mem_of_getElem? (i := 2) rfl)) (fun _ h9 => h9) rfl dX3_make_34 ?_
            refine lv_iconst (v := 1) hx hb dX3_make_37 (by decide) ?_
            refine lv_aload_n hx hb dX3_make_38 rfl (lv_at hl 0 rfl) ?_
            refine vp_callSi (W.runV (As := []) (rest := [.int 1, .int (cNm he mm (nI x) k), .ref (ad 0)]) ⟨hx, hb, hml, hown, hts⟩ (k_X3_greatestLoser l D cI cZ cO ad he (fillA gv (cV he mm (nI x) (cNm he mm (nI x) k)) 8) gi (cGB he mm (nI x) (cNm he mm (nI x) k)) (cOB he mm (nI x) (cNm he mm (nI x) k)) (cNm he mm (nI x) k) (cLoss he mm (nI x) (cNm he mm (nI x) k))  hh) (cwV 0 hts gX3_make_X3_greatestLoser rfl rfl rfl (by decide +kernel) ⟨Nat.le_of_ble_eq_true rfl, Nat.le_of_ble_eq_true rfl⟩) ⟨rd_blind, va_recv hK hP (ci := 4) (q0 := 0) rfl rfl, rd_pre hP hK hN⟩ rfl rfl hl.1 rfl (lv_room (Nat.le_of_ble_eq_true rfl)) dX3_make_39 ⟨Nat.le_of_ble_eq_true rfl, Nat.le_of_ble_eq_true rfl⟩) (fun r er => ?_)
            subst er
            refine top_eq (y := nI (wst he (cV he mm (nI x) (cNm he mm (nI x) k)) 8)) (by rw [wst_fill 8 (by decide)]) ?_
            refine lv_ishl hx hb dX3_make_42 ?_
            refine lv_ior hx hb dX3_make_43 ?_
            refine va_put (D := D) (ci := 4) (v := .int ((cNm he mm (nI x) k) ||| ((1 : Int32) <<< ((nI (wst he (cV he mm (nI x) (cNm he mm (nI x) k)) 8)) &&& 31)))) (ty := .int) (C := RX3) (T := TX3) (N := 7) hx hb hts (fun _ h => List.mem_cons_of_mem _ (List.mem_append_right _ (h))) tyX3 tyX3_ok nmX3 hown hK hP (mp_D hA) hS 0 rfl rfl 5 (by decide) (hts _ (List.mem_of_getElem? (i := 2) rfl)) (fun _ h9 => h9) rfl (by decide +kernel) rfl rfl (Nat.le_of_ble_eq_true rfl) dX3_make_44 (fun H locs hP _ hS => ?_)
            have hP : va_P D vwCl (mpW cI ad he (fillA gv (cV he mm (nI x) (cNm he mm (nI x) k)) 8) gi (cGB he mm (nI x) (cNm he mm (nI x) k)) (cOB he mm (nI x) (cNm he mm (nI x) k)) ((cNm he mm (nI x) k) ||| ((1 : Int32) <<< ((nI (wst he (cV he mm (nI x) (cNm he mm (nI x) k)) 8)) &&& 31))) (cLoss he mm (nI x) (cNm he mm (nI x) k))) H := hP
            refine lv_aload_n hx hb dX3_make_47 rfl (lv_at hl 0 rfl) ?_
            refine lv_iload_n hx hb dX3_make_48 rfl (lv_at hl 1 rfl) ?_
            refine lv_iload_n hx hb dX3_make_49 rfl (lv_at hl 3 rfl) ?_
            refine va_callv (va_runV (As := [.int (nI x), .int mm]) (rest := []) ⟨hx, hb, hml, hown, hts⟩ (k_X3_findBits l D cI cZ cO ad A he (fillA gv (cV he mm (nI x) (cNm he mm (nI x) k)) 8) gi (cGB he mm (nI x) (cNm he mm (nI x) k)) (cOB he mm (nI x) (cNm he mm (nI x) k)) ((cNm he mm (nI x) k) ||| ((1 : Int32) <<< ((nI (wst he (cV he mm (nI x) (cNm he mm (nI x) k)) 8)) &&& 31))) (cLoss he mm (nI x) (cNm he mm (nI x) k)) hA x mm hh) (cwV 2 hts gX3_make_X3_findBits rfl rfl rfl (by decide +kernel) ⟨Nat.le_of_ble_eq_true rfl, Nat.le_of_ble_eq_true rfl⟩) ⟨rd_blind, va_recv hK hP (ci := 4) (q0 := 0) rfl rfl, rd_pre hP hK hN⟩ rfl rfl hl.1 rfl (lv_room (Nat.le_of_ble_eq_true rfl)) dX3_make_50 ⟨Nat.le_of_ble_eq_true rfl, Nat.le_of_ble_eq_true rfl⟩) hS (fun q _ h => h) (fun q h => h) (fun u t H locs ht hvm hw hB hz1 hk1 hS => ?_)
            have hP := hB
            rw [ht] at hP
            have hP : va_P D vwCl (mpW cI ad he (fillA (fillA gv (cV he mm (nI x) (cNm he mm (nI x) k)) 8) (cV he mm (nI x) ((cNm he mm (nI x) k) ||| ((1 : Int32) <<< ((nI (wst he (cV he mm (nI x) (cNm he mm (nI x) k)) 8)) &&& 31)))) 8) gi (cGB he mm (nI x) ((cNm he mm (nI x) k) ||| ((1 : Int32) <<< ((nI (wst he (cV he mm (nI x) (cNm he mm (nI x) k)) 8)) &&& 31)))) (cOB he mm (nI x) ((cNm he mm (nI x) k) ||| ((1 : Int32) <<< ((nI (wst he (cV he mm (nI x) (cNm he mm (nI x) k)) 8)) &&& 31)))) ((cNm he mm (nI x) k) ||| ((1 : Int32) <<< ((nI (wst he (cV he mm (nI x) (cNm he mm (nI x) k)) 8)) &&& 31))) (cLoss he mm (nI x) ((cNm he mm (nI x) k) ||| ((1 : Int32) <<< ((nI (wst he (cV he mm (nI x) (cNm he mm (nI x) k)) 8)) &&& 31))))) H := hP
            refine lv_iinc (v := nI (k + 1)) (lv' := [(4, .int (nI (k + 1))), (0, .ref (ad 0)), (1, .int (nI x)), (2, .int gi), (3, .int mm)]) hx hb dX3_make_53 hl (k := 4) rfl (by exact iinc_n _) (by decide) rfl (fun ls hl => ?_)
            refine lv_goto (tgt := 19) hx hb dX3_make_56 (by decide) ?_
            exact ih_19 (k + 1) (by omega) (by omega) _ (by exact (cNm_s c_29).symm) _ (by rw [cNm_s c_29]) _ (by rw [cNm_s c_29]) _ (by rw [cNm_s c_29]) _ (by rw [cNm_s c_29]; exact fillA_fillA _ _ _ _) _ _ hP hS ls (lv_sub hl [1, 2, 3, 4, 0] rfl)
        ·
          obtain rfl : 3 = k := by omega
          refine lv_iload hx hb dX3_make_19 (lv_at hl 4 rfl) ?_
          refine lv_iconst (v := 3) hx hb dX3_make_21 (by decide) ?_
          refine lv_icmp_ge (tgt := 59) hx hb dX3_make_22 (by decide) (fun c_22 => ?_) (fun c_22 => absurd (lt_yes h_k (by decide)) c_22)
          subst hQ
          have hP : va_P D vwCl (mpW cI ad he (fillA gv (cV he mm (nI x) (cNm he mm (nI x) 3)) 8) gi (cGB he mm (nI x) (cNm he mm (nI x) 3)) (cOB he mm (nI x) (cNm he mm (nI x) 3)) (cNm he mm (nI x) 3) (cLoss he mm (nI x) (cNm he mm (nI x) 3))) H := hP
          exact W.vret hx hb hr (fun t ht _ => ⟨⟨(), rfl, trivial, by have e := hP; rw [← ht] at e; exact e⟩, hS.F ht⟩) hS.2.2 dX3_make_59
    exact L_19 (3 + 1) 0 (by omega) (by omega) _ (by rfl) _ (by rfl) _ (by rfl) _ (by rfl) _ (by rfl) _ _ hP hS ls (lv_sub hl [1, 2, 3, 4, 0] rfl)
  exact go _ _ hP hS
