set_option maxHeartbeats 800000 in
set_option maxRecDepth 100000 in
theorem k_X5_fits (l : Launch) (D : va_G) (cI cZ : ClassId) (ad : Nat → Nat) (A : Nat → Prop) (F : Nat → Nat → Int32) (ow : Nat → Int32) (mp : Nat → Int32) (nm : Int32) (gb : Int32) (ob : Int32) (ik : Nat → Int32) (kp : Nat → Int32) (tu : Nat → Int32) (g : Nat → Int32) (hA : apD 16 A ad) (x : Nat) (gi : Int32)  (hx20 : x < 20) (hg : gi = -1 ∨ ∃ k, k < 6 ∧ gi = nI k) : Met l yX5_fits wsX5_fits (rmr 3 69) (va_Pc [.ref (ad 0), .int (nI x), .int gi] (rdP D ([(cI, .int), (cZ, .boolean)]) (mdW cI cZ ad F ow mp nm gb ob ik kp tu g))) (va_Qi (fun (r : Int32) (_ : Unit) => r = ftLoss ow (mMem F (i2n gi)) gi (F 4 x) nm) (fun _ t => va_P D vwCl (mdW cI cZ ad F ow (fillA mp (ftV ow (mMem F (i2n gi)) gi (F 4 x) nm) 8) nm (ftGB ow (mMem F (i2n gi)) gi (F 4 x) nm) (ftOB ow (mMem F (i2n gi)) gi (F 4 x) nm) ik kp tu g) t.heap) A) 0 0 A := by
  refine Met.ofW (cc := cX5_fits) (maxL := 7) (ret := (some .int)) (by decide) rfl ?_
  intro p e s m args below meth c s₁ B hml hv
  obtain ⟨hargs, hP, hK, hN⟩ := hv
  have hx := B.exec
  have hb := B.bytes
  have hr := B.returns
  have hts := atoms_spec (ws := wsX5_fits) B.pre
  have hown : s.vm.findClass RX5 = some m.cls := findClass_of_methodNamed B.named
  have hlocks := B.notSynchronized
  have hen : entryFrame m args 7 = entryFrame m ([.ref (ad 0), .int (nI x), .int gi] : List Value).toArray 7 := by rw [hargs]
  rw [hen]
  have hl := lv_entry ([.ref (ad 0), .int (nI x), .int gi]) (n := 7) (Nat.le_of_ble_eq_true rfl)
  rw [lg_entry_eq]
  generalize (lg_sl ([.ref (ad 0), .int (nI x), .int gi]) ++ List.replicate (7 - (lg_sl ([.ref (ad 0), .int (nI x), .int gi])).length) Slot.unset).toArray = ls at hl ⊢
  have hl : lv_has ls 7 [(0, .ref (ad 0)), (1, .int (nI x)), (2, .int gi)] := hl
  have hS : va_S A s.heap s.heap [] := va_S.rf
  generalize hQ : MQ below (va_Qi (fun (r : Int32) (_ : Unit) => r = ftLoss ow (mMem F (i2n gi)) gi (F 4 x) nm) (fun _ t => va_P D vwCl (mdW cI cZ ad F ow (fillA mp (ftV ow (mMem F (i2n gi)) gi (F 4 x) nm) 8) nm (ftGB ow (mMem F (i2n gi)) gi (F 4 x) nm) (ftOB ow (mMem F (i2n gi)) gi (F 4 x) nm) ik kp tu g) t.heap) A) args s 0 0 A = Q
  have go : ∀ (H : Heap) (locs : List Loc), va_P D vwCl (mdW cI cZ ad F ow mp nm gb ob ik kp tu g) H → va_S A s.heap H locs → W p l e (headSpec wsX5_fits (rmr 3 69)).room s m args below meth c H locs 0 0 Q (F0 m 0 ls []) := by
    intro H locs hP hS
    refine lv_sipush (v := 255) hx hb dX5_fits_0 (by decide) ?_
    refine lv_aload_n hx hb dX5_fits_3 rfl (lv_at hl 0 rfl) ?_
    refine va_get (D := D) (ci := 6) (v := .int nm) (C := RX5) (T := TX5) (N := 20) hx hb hts (fun _ h => List.mem_cons_of_mem _ (List.mem_append_right _ (h))) hown hK hP 0 rfl rfl 13 (by decide) (hts _ (List.mem_of_getElem? (i := 1) rfl)) (fun _ h9 => h9) rfl dX5_fits_4 ?_
    refine lv_iconst (v := (-1)) hx hb dX5_fits_7 (by decide) ?_
    refine lv_ixor hx hb dX5_fits_8 ?_
    refine lv_iand hx hb dX5_fits_9 ?_
    refine lv_iconst (v := 1) hx hb dX5_fits_10 (by decide) ?_
    refine lv_aload_n hx hb dX5_fits_11 rfl (lv_at hl 0 rfl) ?_
    refine va_get (D := D) (ci := 6) (v := .ref (ad 4)) (C := RX5) (T := TX5) (N := 20) hx hb hts (fun _ h => List.mem_cons_of_mem _ (List.mem_append_right _ (h))) hown hK hP 0 rfl rfl 3 (by decide) (hts _ (List.mem_of_getElem? (i := 2) rfl)) (fun _ h9 => h9) rfl dX5_fits_12 ?_
    refine lv_iload_n hx hb dX5_fits_15 rfl (lv_at hl 1 rfl) ?_
    refine ld_i (k := x) hx hb hK hP 4 0 rfl rfl (by omega) (by decide) dX5_fits_16 ?_
    refine lv_ishl hx hb dX5_fits_17 ?_
    refine lv_iconst (v := (-1)) hx hb dX5_fits_18 (by decide) ?_
    refine lv_ixor hx hb dX5_fits_19 ?_
    refine lv_iand hx hb dX5_fits_20 ?_
    refine lv_istore_n (lv' := [(3, .int ((255 &&& (nm ^^^ (-1))) &&& (((1 : Int32) <<< (((F 4) x) &&& 31)) ^^^ (-1)))), (0, .ref (ad 0)), (1, .int (nI x)), (2, .int gi)]) hx hb dX5_fits_21 rfl hl (by decide) rfl (fun ls hl => ?_)
    refine lv_iload_n hx hb dX5_fits_22 rfl (lv_at hl 3 rfl) ?_
    refine lv_iconst (v := (-1)) hx hb dX5_fits_23 (by decide) ?_
    have J_38 : ∀ (z0 : Int32), z0 = (ftG (mMem F (i2n gi)) gi (F 4 x) nm) → ∀ (H : Heap) (locs : List Loc), va_P D vwCl (mdW cI cZ ad F ow mp nm gb ob ik kp tu g) H → va_S A s.heap H locs → ∀ ls : Array Slot, lv_has ls 7 [(0, .ref (ad 0)), (1, .int (nI x)), (2, .int gi), (3, .int ((255 &&& (nm ^^^ (-1))) &&& (((1 : Int32) <<< (((F 4) x) &&& 31)) ^^^ (-1))))] → W p l e (headSpec wsX5_fits (rmr 3 69)).room s m args below meth c H locs 0 0 Q (F0 m 38 ls [.int z0]) := by
      intro z0 ez0 H locs hP hS ls hl
      subst ez0
      refine lv_istore (lv' := [(4, .int (ftG (mMem F (i2n gi)) gi (F 4 x) nm)), (0, .ref (ad 0)), (1, .int (nI x)), (2, .int gi), (3, .int ((255 &&& (nm ^^^ (-1))) &&& (((1 : Int32) <<< (((F 4) x) &&& 31)) ^^^ (-1))))]) hx hb dX5_fits_38 hl (by decide) rfl (fun ls hl => ?_)
      refine lv_aload_n hx hb dX5_fits_40 rfl (lv_at hl 1 rfl) ?_
      refine lv_aload_n hx hb dX5_fits_41 rfl (lv_at hl 1 rfl) ?_
      refine lv_iload hx hb dX5_fits_42 (lv_at hl 0 rfl) ?_
      refine vp_callSi (W.runV (As := [.int (ftG (mMem F (i2n gi)) gi (F 4 x) nm)]) (rest := [.ref (ad 0)]) ⟨hx, hb, hml, hown, hts⟩ (k_X5_common l D cI cZ ad F ow mp nm gb ob ik kp tu g (ftG (mMem F (i2n gi)) gi (F 4 x) nm)) (cwV 1 hts gX5_fits_X5_common rfl rfl rfl (by decide +kernel) ⟨Nat.le_of_ble_eq_true rfl, Nat.le_of_ble_eq_true rfl⟩) ⟨rd_blind, va_recv hK hP (ci := 6) (q0 := 0) rfl rfl, rd_pre hP hK hN⟩ rfl rfl hl.1 rfl (lv_room (Nat.le_of_ble_eq_true rfl)) dX5_fits_44 ⟨Nat.le_of_ble_eq_true rfl, Nat.le_of_ble_eq_true rfl⟩) (fun r er => ?_)
      subst er
      refine va_put (D := D) (ci := 6) (v := .int (comm ow (ftG (mMem F (i2n gi)) gi (F 4 x) nm) 8)) (ty := .int) (C := RX5) (T := TX5) (N := 20) hx hb hts (fun _ h => List.mem_cons_of_mem _ (List.mem_append_right _ (h))) tyX5 tyX5_ok nmX5 hown hK hP (md_D hA) hS 0 rfl rfl 14 (by decide) (hts _ (List.mem_of_getElem? (i := 3) rfl)) (fun _ h9 => h9) rfl (by decide +kernel) rfl rfl (Nat.le_of_ble_eq_true rfl) dX5_fits_47 (fun H locs hP _ hS => ?_)
      have hP : va_P D vwCl (mdW cI cZ ad F ow mp nm (comm ow (ftG (mMem F (i2n gi)) gi (F 4 x) nm) 8) ob ik kp tu g) H := hP
      refine lv_aload_n hx hb dX5_fits_50 rfl (lv_at hl 1 rfl) ?_
      refine lv_aload_n hx hb dX5_fits_51 rfl (lv_at hl 1 rfl) ?_
      refine lv_iload_n hx hb dX5_fits_52 rfl (lv_at hl 4 rfl) ?_
      refine lv_iload hx hb dX5_fits_53 (lv_at hl 0 rfl) ?_
      refine lv_iconst (v := (-1)) hx hb dX5_fits_55 (by decide) ?_
      refine lv_ixor hx hb dX5_fits_56 ?_
      refine lv_iand hx hb dX5_fits_57 ?_
      refine vp_callSi (W.runV (As := [.int (((255 &&& (nm ^^^ (-1))) &&& (((1 : Int32) <<< (((F 4) x) &&& 31)) ^^^ (-1))) &&& ((ftG (mMem F (i2n gi)) gi (F 4 x) nm) ^^^ (-1)))]) (rest := [.ref (ad 0)]) ⟨hx, hb, hml, hown, hts⟩ (k_X5_common l D cI cZ ad F ow mp nm (comm ow (ftG (mMem F (i2n gi)) gi (F 4 x) nm) 8) ob ik kp tu g (((255 &&& (nm ^^^ (-1))) &&& (((1 : Int32) <<< (((F 4) x) &&& 31)) ^^^ (-1))) &&& ((ftG (mMem F (i2n gi)) gi (F 4 x) nm) ^^^ (-1)))) (cwV 1 hts gX5_fits_X5_common rfl rfl rfl (by decide +kernel) ⟨Nat.le_of_ble_eq_true rfl, Nat.le_of_ble_eq_true rfl⟩) ⟨rd_blind, va_recv hK hP (ci := 6) (q0 := 0) rfl rfl, rd_pre hP hK hN⟩ rfl rfl hl.1 rfl (lv_room (Nat.le_of_ble_eq_true rfl)) dX5_fits_58 ⟨Nat.le_of_ble_eq_true rfl, Nat.le_of_ble_eq_true rfl⟩) (fun r er => ?_)
      subst er
      refine va_put (D := D) (ci := 6) (v := .int (comm ow (((255 &&& (nm ^^^ (-1))) &&& (((1 : Int32) <<< (((F 4) x) &&& 31)) ^^^ (-1))) &&& ((ftG (mMem F (i2n gi)) gi (F 4 x) nm) ^^^ (-1))) 8)) (ty := .int) (C := RX5) (T := TX5) (N := 20) hx hb hts (fun _ h => List.mem_cons_of_mem _ (List.mem_append_right _ (h))) tyX5 tyX5_ok nmX5 hown hK hP (md_D hA) hS 0 rfl rfl 15 (by decide) (hts _ (List.mem_of_getElem? (i := 4) rfl)) (fun _ h9 => h9) rfl (by decide +kernel) rfl rfl (Nat.le_of_ble_eq_true rfl) dX5_fits_61 (fun H locs hP _ hS => ?_)
      have hP : va_P D vwCl (mdW cI cZ ad F ow mp nm (comm ow (ftG (mMem F (i2n gi)) gi (F 4 x) nm) 8) (comm ow (((255 &&& (nm ^^^ (-1))) &&& (((1 : Int32) <<< (((F 4) x) &&& 31)) ^^^ (-1))) &&& ((ftG (mMem F (i2n gi)) gi (F 4 x) nm) ^^^ (-1))) 8) ik kp tu g) H := hP
      refine lv_iconst (v := 0) hx hb dX5_fits_64 (by decide) ?_
      refine lv_istore (lv' := [(5, .int 0), (4, .int (ftG (mMem F (i2n gi)) gi (F 4 x) nm)), (0, .ref (ad 0)), (1, .int (nI x)), (2, .int gi), (3, .int ((255 &&& (nm ^^^ (-1))) &&& (((1 : Int32) <<< (((F 4) x) &&& 31)) ^^^ (-1))))]) hx hb dX5_fits_65 hl (by decide) rfl (fun ls hl => ?_)
      refine lv_iconst (v := 0) hx hb dX5_fits_67 (by decide) ?_
      refine lv_istore (lv' := [(6, .int 0), (5, .int 0), (4, .int (ftG (mMem F (i2n gi)) gi (F 4 x) nm)), (0, .ref (ad 0)), (1, .int (nI x)), (2, .int gi), (3, .int ((255 &&& (nm ^^^ (-1))) &&& (((1 : Int32) <<< (((F 4) x) &&& 31)) ^^^ (-1))))]) hx hb dX5_fits_68 hl (by decide) rfl (fun ls hl => ?_)
      have L_70 : ∀ fz i : Nat, i ≤ 8 → 8 - i < fz → ∀ (v5 : Int32), v5 = (lossS ow (ftV ow (mMem F (i2n gi)) gi (F 4 x) nm) i) → ∀ (kmp : Nat → Int32), kmp = (fillA mp (ftV ow (mMem F (i2n gi)) gi (F 4 x) nm) i) → ∀ (H : Heap) (locs : List Loc), va_P D vwCl (mdW cI cZ ad F ow kmp nm (comm ow (ftG (mMem F (i2n gi)) gi (F 4 x) nm) 8) (comm ow (((255 &&& (nm ^^^ (-1))) &&& (((1 : Int32) <<< (((F 4) x) &&& 31)) ^^^ (-1))) &&& ((ftG (mMem F (i2n gi)) gi (F 4 x) nm) ^^^ (-1))) 8) ik kp tu g) H → va_S A s.heap H locs → ∀ ls : Array Slot, lv_has ls 7 [(0, .ref (ad 0)), (1, .int (nI x)), (2, .int gi), (3, .int ((255 &&& (nm ^^^ (-1))) &&& (((1 : Int32) <<< (((F 4) x) &&& 31)) ^^^ (-1)))), (4, .int (ftG (mMem F (i2n gi)) gi (F 4 x) nm)), (6, .int (nI i)), (5, .int v5)] → W p l e (headSpec wsX5_fits (rmr 3 69)).room s m args below meth c H locs 0 0 Q (F0 m 70 ls []) := by
        intro fz
        induction fz with
        | zero => intro i _ h; exact absurd h (Nat.not_lt_zero _)
        | succ fz ih_70 =>
          intro i hi_70 hn_70 v5 ev5 kmp ekmp H locs hP hS ls hl
          subst ev5
          subst ekmp
          rcases Nat.lt_or_ge i 8 with h_i | h_i
          ·
            refine lv_iload hx hb dX5_fits_70 (lv_at hl 5 rfl) ?_
            refine lv_bipush (v := 8) hx hb dX5_fits_72 (by decide) ?_
            refine lv_icmp_ge (tgt := 174) hx hb dX5_fits_74 (by decide) (fun c_74 => absurd c_74 (lt_no h_i (by decide))) (fun c_74 => ?_)
            refine lv_aload_n hx hb dX5_fits_77 rfl (lv_at hl 0 rfl) ?_
            refine va_get (D := D) (ci := 6) (v := .ref (ad 12)) (C := RX5) (T := TX5) (N := 20) hx hb hts (fun _ h => List.mem_cons_of_mem _ (List.mem_append_right _ (h))) hown hK hP 0 rfl rfl 12 (by decide) (hts _ (List.mem_of_getElem? (i := 5) rfl)) (fun _ h9 => h9) rfl dX5_fits_78 ?_
            refine lv_iload hx hb dX5_fits_81 (lv_at hl 5 rfl) ?_
            refine lv_iload hx hb dX5_fits_83 (lv_at hl 5 rfl) ?_
            refine lv_aload_n hx hb dX5_fits_85 rfl (lv_at hl 0 rfl) ?_
            refine va_get (D := D) (ci := 6) (v := .ref (ad 4)) (C := RX5) (T := TX5) (N := 20) hx hb hts (fun _ h => List.mem_cons_of_mem _ (List.mem_append_right _ (h))) hown hK hP 0 rfl rfl 3 (by decide) (hts _ (List.mem_of_getElem? (i := 2) rfl)) (fun _ h9 => h9) rfl dX5_fits_86 ?_
            refine lv_iload_n hx hb dX5_fits_89 rfl (lv_at hl 1 rfl) ?_
            refine ld_i (k := x) hx hb hK hP 4 0 rfl rfl (by omega) (by decide) dX5_fits_90 ?_
            have J_142 : ∀ (z0 : Int32), z0 = (ftV ow (mMem F (i2n gi)) gi (F 4 x) nm i) → ∀ (H : Heap) (locs : List Loc), va_P D vwCl (mdW cI cZ ad F ow (fillA mp (ftV ow (mMem F (i2n gi)) gi (F 4 x) nm) i) nm (comm ow (ftG (mMem F (i2n gi)) gi (F 4 x) nm) 8) (comm ow (((255 &&& (nm ^^^ (-1))) &&& (((1 : Int32) <<< (((F 4) x) &&& 31)) ^^^ (-1))) &&& ((ftG (mMem F (i2n gi)) gi (F 4 x) nm) ^^^ (-1))) 8) ik kp tu g) H → va_S A s.heap H locs → ∀ ls : Array Slot, lv_has ls 7 [(0, .ref (ad 0)), (1, .int (nI x)), (2, .int gi), (3, .int ((255 &&& (nm ^^^ (-1))) &&& (((1 : Int32) <<< (((F 4) x) &&& 31)) ^^^ (-1)))), (4, .int (ftG (mMem F (i2n gi)) gi (F 4 x) nm)), (5, .int (lossS ow (ftV ow (mMem F (i2n gi)) gi (F 4 x) nm) i)), (6, .int (nI i))] → W p l e (headSpec wsX5_fits (rmr 3 69)).room s m args below meth c H locs 0 0 Q (F0 m 142 ls [.int z0, .int (nI i), .ref (ad 12)]) := by
              intro z0 ez0 H locs hP hS ls hl
              subst ez0
              refine st_i (k := i) hx hb hK hP (md_D hA) hS 12 0 rfl rfl (by omega) (by decide) dX5_fits_142 (fun H locs hP _ hS => ?_)
              have hP : va_P D vwCl (mdW cI cZ ad F ow (upd (fillA mp (ftV ow (mMem F (i2n gi)) gi (F 4 x) nm) i) i (ftV ow (mMem F (i2n gi)) gi (F 4 x) nm i)) nm (comm ow (ftG (mMem F (i2n gi)) gi (F 4 x) nm) 8) (comm ow (((255 &&& (nm ^^^ (-1))) &&& (((1 : Int32) <<< (((F 4) x) &&& 31)) ^^^ (-1))) &&& ((ftG (mMem F (i2n gi)) gi (F 4 x) nm) ^^^ (-1))) 8) ik kp tu g) H := hP
              refine lv_iload hx hb dX5_fits_143 (lv_at hl 5 rfl) ?_
              refine lv_aload_n hx hb dX5_fits_145 rfl (lv_at hl 0 rfl) ?_
              refine va_get (D := D) (ci := 6) (v := .ref (ad 11)) (C := RX5) (T := TX5) (N := 20) hx hb hts (fun _ h => List.mem_cons_of_mem _ (List.mem_append_right _ (h))) hown hK hP 0 rfl rfl 11 (by decide) (hts _ (List.mem_of_getElem? (i := 6) rfl)) (fun _ h9 => h9) rfl dX5_fits_146 ?_
              refine lv_iload hx hb dX5_fits_149 (lv_at hl 6 rfl) ?_
              refine ld_i (k := i) hx hb hK hP 11 0 rfl rfl (by omega) (by decide) dX5_fits_151 ?_
              refine lv_aload_n hx hb dX5_fits_152 rfl (lv_at hl 0 rfl) ?_
              refine va_get (D := D) (ci := 6) (v := .ref (ad 12)) (C := RX5) (T := TX5) (N := 20) hx hb hts (fun _ h => List.mem_cons_of_mem _ (List.mem_append_right _ (h))) hown hK hP 0 rfl rfl 12 (by decide) (hts _ (List.mem_of_getElem? (i := 5) rfl)) (fun _ h9 => h9) rfl dX5_fits_153 ?_
              refine lv_iload hx hb dX5_fits_156 (lv_at hl 6 rfl) ?_
              refine ld_i (k := i) hx hb hK hP 12 0 rfl rfl (by omega) (by decide) dX5_fits_158 ?_
              refine top_eq (y := ftV ow (mMem F (i2n gi)) gi (F 4 x) nm i) pk_us ?_
              refine lv_iconst (v := (-1)) hx hb dX5_fits_159 (by decide) ?_
              refine lv_ixor hx hb dX5_fits_160 ?_
              refine lv_iand hx hb dX5_fits_161 ?_
              refine vp_callSi (W.runS (As := [.int ((ow i) &&& ((ftV ow (mMem F (i2n gi)) gi (F 4 x) nm i) ^^^ (-1)))]) (rest := [.int (lossS ow (ftV ow (mMem F (i2n gi)) gi (F 4 x) nm) i)]) ⟨hx, hb, hml, hown, hts⟩ (k_X5_size l ((ow i) &&& ((ftV ow (mMem F (i2n gi)) gi (F 4 x) nm i) ^^^ (-1)))) (va_cwS 1 hts gX5_fits_X5_size rfl rfl rfl (by decide +kernel) ⟨Nat.le_of_ble_eq_true rfl, Nat.le_of_ble_eq_true rfl⟩) ⟨nf_blind, fun U hU hW => ⟨rfl, trivial⟩⟩ rfl rfl hl.1 rfl (lv_room (Nat.le_of_ble_eq_true rfl)) dX5_fits_162 ⟨Nat.le_of_ble_eq_true rfl, Nat.le_of_ble_eq_true rfl⟩) (fun r er => ?_)
              subst er
              refine lv_iadd hx hb dX5_fits_165 ?_
              refine lv_istore (lv' := [(5, .int ((lossS ow (ftV ow (mMem F (i2n gi)) gi (F 4 x) nm) i) + (sizeI ((ow i) &&& ((ftV ow (mMem F (i2n gi)) gi (F 4 x) nm i) ^^^ (-1))) 8))), (0, .ref (ad 0)), (1, .int (nI x)), (2, .int gi), (3, .int ((255 &&& (nm ^^^ (-1))) &&& (((1 : Int32) <<< (((F 4) x) &&& 31)) ^^^ (-1)))), (4, .int (ftG (mMem F (i2n gi)) gi (F 4 x) nm)), (6, .int (nI i))]) hx hb dX5_fits_166 hl (by decide) rfl (fun ls hl => ?_)
              refine lv_iinc (v := nI (i + 1)) (lv' := [(6, .int (nI (i + 1))), (5, .int ((lossS ow (ftV ow (mMem F (i2n gi)) gi (F 4 x) nm) i) + (sizeI ((ow i) &&& ((ftV ow (mMem F (i2n gi)) gi (F 4 x) nm i) ^^^ (-1))) 8))), (0, .ref (ad 0)), (1, .int (nI x)), (2, .int gi), (3, .int ((255 &&& (nm ^^^ (-1))) &&& (((1 : Int32) <<< (((F 4) x) &&& 31)) ^^^ (-1)))), (4, .int (ftG (mMem F (i2n gi)) gi (F 4 x) nm))]) hx hb dX5_fits_168 hl (k := 6) rfl (by exact iinc_n _) (by decide) rfl (fun ls hl => ?_)
              refine lv_goto (tgt := 70) hx hb dX5_fits_171 (by decide) ?_
              exact ih_70 (i + 1) (by omega) (by omega) _ (by rfl) _ (by rfl) _ _ hP hS ls (lv_sub hl [2, 3, 4, 5, 6, 0, 1] rfl)
            refine lv_icmp_ne (tgt := 99) hx hb dX5_fits_91 (by decide) (fun c_91 => ?_) (fun c_91 => ?_)
            ·
              refine lv_aload_n hx hb dX5_fits_99 rfl (lv_at hl 0 rfl) ?_
              refine va_get (D := D) (ci := 6) (v := .int nm) (C := RX5) (T := TX5) (N := 20) hx hb hts (fun _ h => List.mem_cons_of_mem _ (List.mem_append_right _ (h))) hown hK hP 0 rfl rfl 13 (by decide) (hts _ (List.mem_of_getElem? (i := 1) rfl)) (fun _ h9 => h9) rfl dX5_fits_100 ?_
              refine lv_iload hx hb dX5_fits_103 (lv_at hl 5 rfl) ?_
              refine vp_callSi (W.runS (As := [.int nm, .int (nI i)]) (rest := [.int (nI i), .ref (ad 12)]) ⟨hx, hb, hml, hown, hts⟩ (k_X5_has l nm (nI i)) (va_cwS 2 hts gX5_fits_X5_has rfl rfl rfl (by decide +kernel) ⟨Nat.le_of_ble_eq_true rfl, Nat.le_of_ble_eq_true rfl⟩) ⟨nf_blind, fun U hU hW => ⟨rfl, trivial⟩⟩ rfl rfl hl.1 rfl (lv_room (Nat.le_of_ble_eq_true rfl)) dX5_fits_105 ⟨Nat.le_of_ble_eq_true rfl, Nat.le_of_ble_eq_true rfl⟩) (fun r er => ?_)
              subst er
              refine lv_if_eq (tgt := 121) hx hb dX5_fits_108 (by decide) (fun c_108 => ?_) (fun c_108 => ?_)
              ·
                have c_108 := b2i_0 c_108
                refine lv_iload hx hb dX5_fits_121 (lv_at hl 4 rfl) ?_
                refine lv_iload hx hb dX5_fits_123 (lv_at hl 5 rfl) ?_
                refine vp_callSi (W.runS (As := [.int (ftG (mMem F (i2n gi)) gi (F 4 x) nm), .int (nI i)]) (rest := [.int (nI i), .ref (ad 12)]) ⟨hx, hb, hml, hown, hts⟩ (k_X5_has l (ftG (mMem F (i2n gi)) gi (F 4 x) nm) (nI i)) (va_cwS 2 hts gX5_fits_X5_has rfl rfl rfl (by decide +kernel) ⟨Nat.le_of_ble_eq_true rfl, Nat.le_of_ble_eq_true rfl⟩) ⟨nf_blind, fun U hU hW => ⟨rfl, trivial⟩⟩ rfl rfl hl.1 rfl (lv_room (Nat.le_of_ble_eq_true rfl)) dX5_fits_125 ⟨Nat.le_of_ble_eq_true rfl, Nat.le_of_ble_eq_true rfl⟩) (fun r er => ?_)
                subst er
                refine lv_if_eq (tgt := 138) hx hb dX5_fits_128 (by decide) (fun c_128 => ?_) (fun c_128 => ?_)
                ·
                  have c_128 := b2i_0 c_128
                  refine lv_aload_n hx hb dX5_fits_138 rfl (lv_at hl 0 rfl) ?_
                  refine va_get (D := D) (ci := 6) (v := .int (comm ow (((255 &&& (nm ^^^ (-1))) &&& (((1 : Int32) <<< (((F 4) x) &&& 31)) ^^^ (-1))) &&& ((ftG (mMem F (i2n gi)) gi (F 4 x) nm) ^^^ (-1))) 8)) (C := RX5) (T := TX5) (N := 20) hx hb hts (fun _ h => List.mem_cons_of_mem _ (List.mem_append_right _ (h))) hown hK hP 0 rfl rfl 15 (by decide) (hts _ (List.mem_of_getElem? (i := 4) rfl)) (fun _ h9 => h9) rfl dX5_fits_139 ?_
                  exact J_142 _ (((if_neg c_91).trans ((if_neg (b2i_bf c_108)).trans (if_neg (b2i_bf c_128)))).symm) _ _ hP hS ls (lv_sub hl [0, 1, 2, 3, 4, 6, 5] rfl)
                ·
                  have c_128 := b2i_1 c_128
                  refine lv_aload_n hx hb dX5_fits_131 rfl (lv_at hl 0 rfl) ?_
                  refine va_get (D := D) (ci := 6) (v := .int (comm ow (ftG (mMem F (i2n gi)) gi (F 4 x) nm) 8)) (C := RX5) (T := TX5) (N := 20) hx hb hts (fun _ h => List.mem_cons_of_mem _ (List.mem_append_right _ (h))) hown hK hP 0 rfl rfl 14 (by decide) (hts _ (List.mem_of_getElem? (i := 3) rfl)) (fun _ h9 => h9) rfl dX5_fits_132 ?_
                  refine lv_goto (tgt := 142) hx hb dX5_fits_135 (by decide) ?_
                  exact J_142 _ (((if_neg c_91).trans ((if_neg (b2i_bf c_108)).trans (if_pos c_128))).symm) _ _ hP hS ls (lv_sub hl [0, 1, 2, 3, 4, 6, 5] rfl)
              ·
                have c_108 := b2i_1 c_108
                refine lv_aload_n hx hb dX5_fits_111 rfl (lv_at hl 0 rfl) ?_
                refine va_get (D := D) (ci := 6) (v := .ref (ad 11)) (C := RX5) (T := TX5) (N := 20) hx hb hts (fun _ h => List.mem_cons_of_mem _ (List.mem_append_right _ (h))) hown hK hP 0 rfl rfl 11 (by decide) (hts _ (List.mem_of_getElem? (i := 6) rfl)) (fun _ h9 => h9) rfl dX5_fits_112 ?_
                refine lv_iload hx hb dX5_fits_115 (lv_at hl 5 rfl) ?_
                refine ld_i (k := i) hx hb hK hP 11 0 rfl rfl (by omega) (by decide) dX5_fits_117 ?_
                refine lv_goto (tgt := 142) hx hb dX5_fits_118 (by decide) ?_
                exact J_142 _ (((if_neg c_91).trans (if_pos c_108)).symm) _ _ hP hS ls (lv_sub hl [0, 1, 2, 3, 4, 6, 5] rfl)
            ·
              refine lv_bipush (v := 7) hx hb dX5_fits_94 (by decide) ?_
              refine lv_goto (tgt := 142) hx hb dX5_fits_96 (by decide) ?_
              exact J_142 _ ((if_pos c_91).symm) _ _ hP hS ls (lv_sub hl [0, 1, 2, 3, 4, 6, 5] rfl)
          ·
            obtain rfl : 8 = i := by omega
            refine lv_iload hx hb dX5_fits_70 (lv_at hl 5 rfl) ?_
            refine lv_bipush (v := 8) hx hb dX5_fits_72 (by decide) ?_
            refine lv_icmp_ge (tgt := 174) hx hb dX5_fits_74 (by decide) (fun c_74 => ?_) (fun c_74 => absurd (lt_yes h_i (by decide)) c_74)
            refine lv_iload hx hb dX5_fits_174 (lv_at hl 6 rfl) ?_
            subst hQ
            have hP : va_P D vwCl (mdW cI cZ ad F ow (fillA mp (ftV ow (mMem F (i2n gi)) gi (F 4 x) nm) 8) nm (comm ow (ftG (mMem F (i2n gi)) gi (F 4 x) nm) 8) (comm ow (((255 &&& (nm ^^^ (-1))) &&& (((1 : Int32) <<< (((F 4) x) &&& 31)) ^^^ (-1))) &&& ((ftG (mMem F (i2n gi)) gi (F 4 x) nm) ^^^ (-1))) 8) ik kp tu g) H := hP
            have qgb : comm ow (ftG (mMem F (i2n gi)) gi (F 4 x) nm) 8 = ftGB ow (mMem F (i2n gi)) gi (F 4 x) nm := by rfl
            have qob : comm ow (((255 &&& (nm ^^^ (-1))) &&& (((1 : Int32) <<< (((F 4) x) &&& 31)) ^^^ (-1))) &&& ((ftG (mMem F (i2n gi)) gi (F 4 x) nm) ^^^ (-1))) 8 = ftOB ow (mMem F (i2n gi)) gi (F 4 x) nm := by rfl
            have hP : va_P D vwCl (mdW cI cZ ad F ow (fillA mp (ftV ow (mMem F (i2n gi)) gi (F 4 x) nm) 8) nm (ftGB ow (mMem F (i2n gi)) gi (F 4 x) nm) (ftOB ow (mMem F (i2n gi)) gi (F 4 x) nm) ik kp tu g) H := mdW_P rfl rfl rfl rfl qgb qob rfl rfl rfl rfl hP
            exact W.iret (v := lossS ow (ftV ow (mMem F (i2n gi)) gi (F 4 x) nm) 8) hx hb hr (fun t ht _ => ⟨⟨_, (), rfl, (by rfl), by have e := hP; rw [← ht] at e; exact e⟩, hS.F ht⟩) hS.2.2 dX5_fits_176
      exact L_70 (8 + 1) 0 (by omega) (by omega) _ (by rfl) _ (by rfl) _ _ hP hS ls (lv_sub hl [3, 4, 5, 6, 2, 0, 1] rfl)
    refine lv_icmp_ne (tgt := 31) hx hb dX5_fits_24 (by decide) (fun c_24 => ?_) (fun c_24 => ?_)
    ·
      refine lv_aload_n hx hb dX5_fits_31 rfl (lv_at hl 1 rfl) ?_
      refine lv_iload_n hx hb dX5_fits_32 rfl (lv_at hl 3 rfl) ?_
      refine top_eq (y := nI (i2n gi)) (by exact grp_nat hg c_24) ?_
      refine vp_callSi (W.runV (As := [.int (nI (i2n gi))]) (rest := []) ⟨hx, hb, hml, hown, hts⟩ (k_X5_membersOf l D cI cZ ad F ow mp nm gb ob ik kp tu g (i2n gi)) (cwV 1 hts gX5_fits_X5_membersOf rfl rfl rfl (by decide +kernel) ⟨Nat.le_of_ble_eq_true rfl, Nat.le_of_ble_eq_true rfl⟩) ⟨rd_blind, va_recv hK hP (ci := 6) (q0 := 0) rfl rfl, rd_pre hP hK hN⟩ rfl rfl hl.1 rfl (lv_room (Nat.le_of_ble_eq_true rfl)) dX5_fits_33 ⟨Nat.le_of_ble_eq_true rfl, Nat.le_of_ble_eq_true rfl⟩) (fun r er => ?_)
      subst er
      refine lv_iload_n hx hb dX5_fits_36 rfl (lv_at hl 0 rfl) ?_
      refine lv_iand hx hb dX5_fits_37 ?_
      exact J_38 _ ((if_neg c_24).symm) _ _ hP hS ls (lv_sub hl [1, 2, 3, 0] rfl)
    ·
      refine lv_iconst (v := 0) hx hb dX5_fits_27 (by decide) ?_
      refine lv_goto (tgt := 38) hx hb dX5_fits_28 (by decide) ?_
      exact J_38 _ ((if_pos c_24).symm) _ _ hP hS ls (lv_sub hl [1, 2, 3, 0] rfl)
  exact go _ _ hP hS

set_option maxHeartbeats 800000 in
set_option maxRecDepth 100000 in
theorem k_X5_maps (l : Launch) (D : va_G) (cI cZ : ClassId) (ad : Nat → Nat) (A : Nat → Prop) (F : Nat → Nat → Int32) (ow : Nat → Int32) (mp : Nat → Int32) (nm : Int32) (gb : Int32) (ob : Int32) (ik : Nat → Int32) (kp : Nat → Int32) (tu : Nat → Int32) (g : Nat → Int32) (hA : apD 16 A ad) (x : Nat) (gi : Int32)  (nn : Nat) (hM : okM F g nn) (hxn : x < nn) (hg : gi = -1 ∨ ∃ k, k < 6 ∧ gi = nI k) : Met l yX5_maps wsX5_maps (rmr 5 119) (va_Pc [.ref (ad 0), .int (nI x), .int gi] (rdP D ([(cI, .int), (cZ, .boolean)]) (mdW cI cZ ad F ow mp nm gb ob ik kp tu g))) (va_Qi (fun (r : Int32) (_ : Unit) => r = mL F ow x gi) (fun _ t => va_P D vwCl (mdW cI cZ ad F (mOwn F ow x) (fillA mp (mV F ow x gi) 8) (mN F ow x gi) (mGB F ow x gi) (mOB F ow x gi) ik kp tu g) t.heap) A) 0 0 A := by
  refine Met.ofW (cc := cX5_maps) (maxL := 7) (ret := (some .int)) (by decide) rfl ?_
  intro p e s m args below meth c s₁ B hml hv
  obtain ⟨hargs, hP, hK, hN⟩ := hv
  have hx := B.exec
  have hb := B.bytes
  have hr := B.returns
  have hts := atoms_spec (ws := wsX5_maps) B.pre
  have hown : s.vm.findClass RX5 = some m.cls := findClass_of_methodNamed B.named
  have hlocks := B.notSynchronized
  have hen : entryFrame m args 7 = entryFrame m ([.ref (ad 0), .int (nI x), .int gi] : List Value).toArray 7 := by rw [hargs]
  rw [hen]
  have hl := lv_entry ([.ref (ad 0), .int (nI x), .int gi]) (n := 7) (Nat.le_of_ble_eq_true rfl)
  rw [lg_entry_eq]
  generalize (lg_sl ([.ref (ad 0), .int (nI x), .int gi]) ++ List.replicate (7 - (lg_sl ([.ref (ad 0), .int (nI x), .int gi])).length) Slot.unset).toArray = ls at hl ⊢
  have hl : lv_has ls 7 [(0, .ref (ad 0)), (1, .int (nI x)), (2, .int gi)] := hl
  have hS : va_S A s.heap s.heap [] := va_S.rf
  generalize hQ : MQ below (va_Qi (fun (r : Int32) (_ : Unit) => r = mL F ow x gi) (fun _ t => va_P D vwCl (mdW cI cZ ad F (mOwn F ow x) (fillA mp (mV F ow x gi) 8) (mN F ow x gi) (mGB F ow x gi) (mOB F ow x gi) ik kp tu g) t.heap) A) args s 0 0 A = Q
  have go : ∀ (H : Heap) (locs : List Loc), va_P D vwCl (mdW cI cZ ad F ow mp nm gb ob ik kp tu g) H → va_S A s.heap H locs → W p l e (headSpec wsX5_maps (rmr 5 119)).room s m args below meth c H locs 0 0 Q (F0 m 0 ls []) := by
    intro H locs hP hS
    have hnn := hM.2.1.2
    refine lv_iconst (v := 0) hx hb dX5_maps_0 (by decide) ?_
    refine lv_istore_n (lv' := [(3, .int 0), (0, .ref (ad 0)), (1, .int (nI x)), (2, .int gi)]) hx hb dX5_maps_1 rfl hl (by decide) rfl (fun ls hl => ?_)
    have L_2 : ∀ fz i : Nat, i ≤ 8 → 8 - i < fz → ∀ (kow : Nat → Int32), kow = (fillA ow (fun p => mRights F p x) i) → ∀ (H : Heap) (locs : List Loc), va_P D vwCl (mdW cI cZ ad F kow mp nm gb ob ik kp tu g) H → va_S A s.heap H locs → ∀ ls : Array Slot, lv_has ls 7 [(0, .ref (ad 0)), (1, .int (nI x)), (2, .int gi), (3, .int (nI i))] → W p l e (headSpec wsX5_maps (rmr 5 119)).room s m args below meth c H locs 0 0 Q (F0 m 2 ls []) := by
      intro fz
      induction fz with
      | zero => intro i _ h; exact absurd h (Nat.not_lt_zero _)
      | succ fz ih_2 =>
        intro i hi_2 hn_2 kow ekow H locs hP hS ls hl
        subst ekow
        rcases Nat.lt_or_ge i 8 with h_i | h_i
        ·
          refine lv_iload_n hx hb dX5_maps_2 rfl (lv_at hl 3 rfl) ?_
          refine lv_bipush (v := 8) hx hb dX5_maps_3 (by decide) ?_
          refine lv_icmp_ge (tgt := 26) hx hb dX5_maps_5 (by decide) (fun c_5 => absurd c_5 (lt_no h_i (by decide))) (fun c_5 => ?_)
          refine lv_aload_n hx hb dX5_maps_8 rfl (lv_at hl 0 rfl) ?_
          refine va_get (D := D) (ci := 6) (v := .ref (ad 11)) (C := RX5) (T := TX5) (N := 20) hx hb hts (fun _ h => List.mem_cons_of_mem _ (List.mem_append_right _ (h))) hown hK hP 0 rfl rfl 11 (by decide) (hts _ (List.mem_of_getElem? (i := 1) rfl)) (fun _ h9 => h9) rfl dX5_maps_9 ?_
          refine lv_iload_n hx hb dX5_maps_12 rfl (lv_at hl 3 rfl) ?_
          refine lv_aload_n hx hb dX5_maps_13 rfl (lv_at hl 0 rfl) ?_
          refine lv_iload_n hx hb dX5_maps_14 rfl (lv_at hl 3 rfl) ?_
          refine lv_iload_n hx hb dX5_maps_15 rfl (lv_at hl 1 rfl) ?_
          refine vp_callSi (W.runV (As := [.int (nI i), .int (nI x)]) (rest := [.int (nI i), .ref (ad 11)]) ⟨hx, hb, hml, hown, hts⟩ (k_X5_rightsOf l D cI cZ ad F (fillA ow (fun p => mRights F p x) i) mp nm gb ob ik kp tu g i x nn hM hxn) (cwV 2 hts gX5_maps_X5_rightsOf rfl rfl rfl (by decide +kernel) ⟨Nat.le_of_ble_eq_true rfl, Nat.le_of_ble_eq_true rfl⟩) ⟨rd_blind, va_recv hK hP (ci := 6) (q0 := 0) rfl rfl, rd_pre hP hK hN⟩ rfl rfl hl.1 rfl (lv_room (Nat.le_of_ble_eq_true rfl)) dX5_maps_16 ⟨Nat.le_of_ble_eq_true rfl, Nat.le_of_ble_eq_true rfl⟩) (fun r er => ?_)
          subst er
          refine st_i (k := i) hx hb hK hP (md_D hA) hS 11 0 rfl rfl (by omega) (by decide) dX5_maps_19 (fun H locs hP _ hS => ?_)
          have hP : va_P D vwCl (mdW cI cZ ad F (upd (fillA ow (fun p => mRights F p x) i) i (mRights F i x)) mp nm gb ob ik kp tu g) H := hP
          refine lv_iinc (v := nI (i + 1)) (lv' := [(3, .int (nI (i + 1))), (0, .ref (ad 0)), (1, .int (nI x)), (2, .int gi)]) hx hb dX5_maps_20 hl (k := 3) rfl (by exact iinc_n _) (by decide) rfl (fun ls hl => ?_)
          refine lv_goto (tgt := 2) hx hb dX5_maps_23 (by decide) ?_
          exact ih_2 (i + 1) (by omega) (by omega) _ (by rfl) _ _ hP hS ls (lv_sub hl [1, 2, 3, 0] rfl)
        ·
          obtain rfl : 8 = i := by omega
          refine lv_iload_n hx hb dX5_maps_2 rfl (lv_at hl 3 rfl) ?_
          refine lv_bipush (v := 8) hx hb dX5_maps_3 (by decide) ?_
          refine lv_icmp_ge (tgt := 26) hx hb dX5_maps_5 (by decide) (fun c_5 => ?_) (fun c_5 => absurd (lt_yes h_i (by decide)) c_5)
          have hP : va_P D vwCl (mdW cI cZ ad F (mOwn F ow x) mp nm gb ob ik kp tu g) H := hP
          refine lv_aload_n hx hb dX5_maps_26 rfl (lv_at hl 0 rfl) ?_
          refine lv_iconst (v := 0) hx hb dX5_maps_27 (by decide) ?_
          refine va_put (D := D) (ci := 6) (v := .int 0) (ty := .int) (C := RX5) (T := TX5) (N := 20) hx hb hts (fun _ h => List.mem_cons_of_mem _ (List.mem_append_right _ (h))) tyX5 tyX5_ok nmX5 hown hK hP (md_D hA) hS 0 rfl rfl 13 (by decide) (hts _ (List.mem_of_getElem? (i := 2) rfl)) (fun _ h9 => h9) rfl (by decide +kernel) rfl rfl (Nat.le_of_ble_eq_true rfl) dX5_maps_28 (fun H locs hP _ hS => ?_)
          have hP : va_P D vwCl (mdW cI cZ ad F (mOwn F ow x) mp 0 gb ob ik kp tu g) H := hP
          refine lv_aload_n hx hb dX5_maps_31 rfl (lv_at hl 0 rfl) ?_
          refine lv_iload_n hx hb dX5_maps_32 rfl (lv_at hl 1 rfl) ?_
          refine lv_iload_n hx hb dX5_maps_33 rfl (lv_at hl 2 rfl) ?_
          refine va_calli (va_runV (As := [.int (nI x), .int gi]) (rest := []) ⟨hx, hb, hml, hown, hts⟩ (k_X5_fits l D cI cZ ad A F (mOwn F ow x) mp 0 gb ob ik kp tu g hA x gi (by omega) hg) (cwV 2 hts gX5_maps_X5_fits rfl rfl rfl (by decide +kernel) ⟨Nat.le_of_ble_eq_true rfl, Nat.le_of_ble_eq_true rfl⟩) ⟨rd_blind, va_recv hK hP (ci := 6) (q0 := 0) rfl rfl, rd_pre hP hK hN⟩ rfl rfl hl.1 rfl (lv_room (Nat.le_of_ble_eq_true rfl)) dX5_maps_34 ⟨Nat.le_of_ble_eq_true rfl, Nat.le_of_ble_eq_true rfl⟩) hS (fun q _ h => h) (fun q h => h) (fun r u t H locs ht hvm hw hB hz1 hk1 hS => ?_)
          have hP := hB
          rw [ht] at hP
          subst hw
          have hP : va_P D vwCl (mdW cI cZ ad F (mOwn F ow x) (fillA mp (ftV (mOwn F ow x) (mMem F (i2n gi)) gi ((F 4) x) 0) 8) 0 (ftGB (mOwn F ow x) (mMem F (i2n gi)) gi ((F 4) x) 0) (ftOB (mOwn F ow x) (mMem F (i2n gi)) gi ((F 4) x) 0) ik kp tu g) H := hP
          refine lv_istore_n (lv' := [(3, .int (ftLoss (mOwn F ow x) (mMem F (i2n gi)) gi ((F 4) x) 0)), (0, .ref (ad 0)), (1, .int (nI x)), (2, .int gi)]) hx hb dX5_maps_37 rfl hl (by decide) rfl (fun ls hl => ?_)
          refine lv_iconst (v := 0) hx hb dX5_maps_38 (by decide) ?_
          refine lv_istore (lv' := [(4, .int 0), (3, .int (ftLoss (mOwn F ow x) (mMem F (i2n gi)) gi ((F 4) x) 0)), (0, .ref (ad 0)), (1, .int (nI x)), (2, .int gi)]) hx hb dX5_maps_39 hl (by decide) rfl (fun ls hl => ?_)
          have L_41 : ∀ fz k : Nat, k ≤ 3 → 3 - k < fz → ∀ (v3 : Int32), v3 = (ftLoss (mOwn F ow x) (mMm F gi) gi (F 4 x) (mNm (mOwn F ow x) (mMm F gi) gi (F 4 x) k)) → ∀ (kmp : Nat → Int32), kmp = (fillA mp (ftV (mOwn F ow x) (mMm F gi) gi (F 4 x) (mNm (mOwn F ow x) (mMm F gi) gi (F 4 x) k)) 8) → ∀ (knm : Int32), knm = (mNm (mOwn F ow x) (mMm F gi) gi (F 4 x) k) → ∀ (kgb : Int32), kgb = (ftGB (mOwn F ow x) (mMm F gi) gi (F 4 x) (mNm (mOwn F ow x) (mMm F gi) gi (F 4 x) k)) → ∀ (kob : Int32), kob = (ftOB (mOwn F ow x) (mMm F gi) gi (F 4 x) (mNm (mOwn F ow x) (mMm F gi) gi (F 4 x) k)) → ∀ (H : Heap) (locs : List Loc), va_P D vwCl (mdW cI cZ ad F (mOwn F ow x) kmp knm kgb kob ik kp tu g) H → va_S A s.heap H locs → ∀ ls : Array Slot, lv_has ls 7 [(0, .ref (ad 0)), (1, .int (nI x)), (2, .int gi), (4, .int (nI k)), (3, .int v3)] → W p l e (headSpec wsX5_maps (rmr 5 119)).room s m args below meth c H locs 0 0 Q (F0 m 41 ls []) := by
            intro fz
            induction fz with
            | zero => intro k _ h; exact absurd h (Nat.not_lt_zero _)
            | succ fz ih_41 =>
              intro k hi_41 hn_41 v3 ev3 kmp ekmp knm eknm kgb ekgb kob ekob H locs hP hS ls hl
              subst ev3
              subst ekmp
              subst eknm
              subst ekgb
              subst ekob
              rcases Nat.lt_or_ge k 3 with h_k | h_k
              ·
                refine lv_iload hx hb dX5_maps_41 (lv_at hl 3 rfl) ?_
                refine lv_iconst (v := 3) hx hb dX5_maps_43 (by decide) ?_
                refine lv_icmp_ge (tgt := 148) hx hb dX5_maps_44 (by decide) (fun c_44 => absurd c_44 (lt_no h_k (by decide))) (fun c_44 => ?_)
                refine lv_iload_n hx hb dX5_maps_47 rfl (lv_at hl 4 rfl) ?_
                refine lv_if_le (tgt := 148) hx hb dX5_maps_48 (by decide) (fun c_48 => ?_) (fun c_48 => ?_)
                ·
                  refine lv_iload_n hx hb dX5_maps_148 rfl (lv_at hl 4 rfl) ?_
                  subst hQ
                  have hP : va_P D vwCl (mdW cI cZ ad F (mOwn F ow x) (fillA mp (ftV (mOwn F ow x) (mMm F gi) gi (F 4 x) (mNm (mOwn F ow x) (mMm F gi) gi (F 4 x) k)) 8) (mNm (mOwn F ow x) (mMm F gi) gi (F 4 x) k) (ftGB (mOwn F ow x) (mMm F gi) gi (F 4 x) (mNm (mOwn F ow x) (mMm F gi) gi (F 4 x) k)) (ftOB (mOwn F ow x) (mMm F gi) gi (F 4 x) (mNm (mOwn F ow x) (mMm F gi) gi (F 4 x) k)) ik kp tu g) H := hP
                  have qmp : fillA mp (ftV (mOwn F ow x) (mMm F gi) gi (F 4 x) (mNm (mOwn F ow x) (mMm F gi) gi (F 4 x) k)) 8 = fillA mp (mV F ow x gi) 8 := by first | (unfold mV mN; rw [mNm_3 (k := k) (by omega) c_48]) | rfl
                  have qnm : (mNm (mOwn F ow x) (mMm F gi) gi (F 4 x) k) = mN F ow x gi := by first | (unfold mN; rw [mNm_3 (k := k) (by omega) c_48]) | rfl
                  have qgb : ftGB (mOwn F ow x) (mMm F gi) gi (F 4 x) (mNm (mOwn F ow x) (mMm F gi) gi (F 4 x) k) = mGB F ow x gi := by first | (unfold mGB mN; rw [mNm_3 (k := k) (by omega) c_48]) | rfl
                  have qob : ftOB (mOwn F ow x) (mMm F gi) gi (F 4 x) (mNm (mOwn F ow x) (mMm F gi) gi (F 4 x) k) = mOB F ow x gi := by first | (unfold mOB mN; rw [mNm_3 (k := k) (by omega) c_48]) | rfl
                  have hP : va_P D vwCl (mdW cI cZ ad F (mOwn F ow x) (fillA mp (mV F ow x gi) 8) (mN F ow x gi) (mGB F ow x gi) (mOB F ow x gi) ik kp tu g) H := mdW_P rfl rfl qmp qnm qgb qob rfl rfl rfl rfl hP
                  exact W.iret (v := ftLoss (mOwn F ow x) (mMm F gi) gi (F 4 x) (mNm (mOwn F ow x) (mMm F gi) gi (F 4 x) k)) hx hb hr (fun t ht _ => ⟨⟨_, (), rfl, (by first | (unfold mL mN; rw [mNm_3 (k := k) (by omega) c_48]) | rfl), by have e := hP; rw [← ht] at e; exact e⟩, hS.F ht⟩) hS.2.2 dX5_maps_149
                ·
                  refine lv_iconst (v := 0) hx hb dX5_maps_51 (by decide) ?_
                  refine lv_istore (lv' := [(5, .int 0), (0, .ref (ad 0)), (1, .int (nI x)), (2, .int gi), (4, .int (nI k)), (3, .int (ftLoss (mOwn F ow x) (mMm F gi) gi (F 4 x) (mNm (mOwn F ow x) (mMm F gi) gi (F 4 x) k)))]) hx hb dX5_maps_52 hl (by decide) rfl (fun ls hl => ?_)
                  refine lv_iconst (v := 1) hx hb dX5_maps_54 (by decide) ?_
                  refine lv_istore (lv' := [(6, .int 1), (5, .int 0), (0, .ref (ad 0)), (1, .int (nI x)), (2, .int gi), (4, .int (nI k)), (3, .int (ftLoss (mOwn F ow x) (mMm F gi) gi (F 4 x) (mNm (mOwn F ow x) (mMm F gi) gi (F 4 x) k)))]) hx hb dX5_maps_55 hl (by decide) rfl (fun ls hl => ?_)
                  have L_57 : ∀ fz i : Nat, i ≤ 8 → 8 - i < fz → ∀ (v5 : Int32), v5 = (nI (wst (mOwn F ow x) (ftV (mOwn F ow x) (mMm F gi) gi (F 4 x) (mNm (mOwn F ow x) (mMm F gi) gi (F 4 x) k)) i)) → ∀ (H : Heap) (locs : List Loc), va_P D vwCl (mdW cI cZ ad F (mOwn F ow x) (fillA mp (ftV (mOwn F ow x) (mMm F gi) gi (F 4 x) (mNm (mOwn F ow x) (mMm F gi) gi (F 4 x) k)) 8) (mNm (mOwn F ow x) (mMm F gi) gi (F 4 x) k) (ftGB (mOwn F ow x) (mMm F gi) gi (F 4 x) (mNm (mOwn F ow x) (mMm F gi) gi (F 4 x) k)) (ftOB (mOwn F ow x) (mMm F gi) gi (F 4 x) (mNm (mOwn F ow x) (mMm F gi) gi (F 4 x) k)) ik kp tu g) H → va_S A s.heap H locs → ∀ ls : Array Slot, lv_has ls 7 [(0, .ref (ad 0)), (1, .int (nI x)), (2, .int gi), (3, .int (ftLoss (mOwn F ow x) (mMm F gi) gi (F 4 x) (mNm (mOwn F ow x) (mMm F gi) gi (F 4 x) k))), (4, .int (nI k)), (6, .int (nI i)), (5, .int v5)] → W p l e (headSpec wsX5_maps (rmr 5 119)).room s m args below meth c H locs 0 0 Q (F0 m 57 ls []) := by
                    intro fz
                    induction fz with
                    | zero => intro i _ h; exact absurd h (Nat.not_lt_zero _)
                    | succ fz ih_57 =>
                      intro i hi_57 hn_57 v5 ev5 H locs hP hS ls hl
                      subst ev5
                      have hw8 := wst_lt (mOwn F ow x) (ftV (mOwn F ow x) (mMm F gi) gi (F 4 x) (mNm (mOwn F ow x) (mMm F gi) gi (F 4 x) k)) i hi_57
                      rcases Nat.lt_or_ge i 8 with h_i | h_i
                      ·
                        refine lv_iload hx hb dX5_maps_57 (lv_at hl 5 rfl) ?_
                        refine lv_bipush (v := 8) hx hb dX5_maps_59 (by decide) ?_
                        refine lv_icmp_ge (tgt := 122) hx hb dX5_maps_61 (by decide) (fun c_61 => absurd c_61 (lt_no h_i (by decide))) (fun c_61 => ?_)
                        refine lv_aload_n hx hb dX5_maps_64 rfl (lv_at hl 0 rfl) ?_
                        refine va_get (D := D) (ci := 6) (v := .ref (ad 11)) (C := RX5) (T := TX5) (N := 20) hx hb hts (fun _ h => List.mem_cons_of_mem _ (List.mem_append_right _ (h))) hown hK hP 0 rfl rfl 11 (by decide) (hts _ (List.mem_of_getElem? (i := 1) rfl)) (fun _ h9 => h9) rfl dX5_maps_65 ?_
                        refine lv_iload hx hb dX5_maps_68 (lv_at hl 5 rfl) ?_
                        refine ld_i (k := i) hx hb hK hP 11 0 rfl rfl (by omega) (by decide) dX5_maps_70 ?_
                        refine lv_aload_n hx hb dX5_maps_71 rfl (lv_at hl 0 rfl) ?_
                        refine va_get (D := D) (ci := 6) (v := .ref (ad 12)) (C := RX5) (T := TX5) (N := 20) hx hb hts (fun _ h => List.mem_cons_of_mem _ (List.mem_append_right _ (h))) hown hK hP 0 rfl rfl 12 (by decide) (hts _ (List.mem_of_getElem? (i := 3) rfl)) (fun _ h9 => h9) rfl dX5_maps_72 ?_
                        refine lv_iload hx hb dX5_maps_75 (lv_at hl 5 rfl) ?_
                        refine ld_i (k := i) hx hb hK hP 12 0 rfl rfl (by omega) (by decide) dX5_maps_77 ?_
                        refine lv_iconst (v := (-1)) hx hb dX5_maps_78 (by decide) ?_
                        refine lv_ixor hx hb dX5_maps_79 ?_
                        refine lv_iand hx hb dX5_maps_80 ?_
                        refine vp_callSi (W.runS (As := [.int (((mOwn F ow x) i) &&& (((fillA mp (ftV (mOwn F ow x) (mMm F gi) gi (F 4 x) (mNm (mOwn F ow x) (mMm F gi) gi (F 4 x) k)) 8) i) ^^^ (-1)))]) (rest := []) ⟨hx, hb, hml, hown, hts⟩ (k_X5_size l (((mOwn F ow x) i) &&& (((fillA mp (ftV (mOwn F ow x) (mMm F gi) gi (F 4 x) (mNm (mOwn F ow x) (mMm F gi) gi (F 4 x) k)) 8) i) ^^^ (-1)))) (va_cwS 1 hts gX5_maps_X5_size rfl rfl rfl (by decide +kernel) ⟨Nat.le_of_ble_eq_true rfl, Nat.le_of_ble_eq_true rfl⟩) ⟨nf_blind, fun U hU hW => ⟨rfl, trivial⟩⟩ rfl rfl hl.1 rfl (lv_room (Nat.le_of_ble_eq_true rfl)) dX5_maps_81 ⟨Nat.le_of_ble_eq_true rfl, Nat.le_of_ble_eq_true rfl⟩) (fun r er => ?_)
                        subst er
                        refine lv_aload_n hx hb dX5_maps_84 rfl (lv_at hl 0 rfl) ?_
                        refine va_get (D := D) (ci := 6) (v := .ref (ad 11)) (C := RX5) (T := TX5) (N := 20) hx hb hts (fun _ h => List.mem_cons_of_mem _ (List.mem_append_right _ (h))) hown hK hP 0 rfl rfl 11 (by decide) (hts _ (List.mem_of_getElem? (i := 1) rfl)) (fun _ h9 => h9) rfl dX5_maps_85 ?_
                        refine lv_iload hx hb dX5_maps_88 (lv_at hl 6 rfl) ?_
                        refine ld_i (k := wst (mOwn F ow x) (ftV (mOwn F ow x) (mMm F gi) gi (F 4 x) (mNm (mOwn F ow x) (mMm F gi) gi (F 4 x) k)) i) hx hb hK hP 11 0 rfl rfl (by omega) (by decide) dX5_maps_90 ?_
                        refine lv_aload_n hx hb dX5_maps_91 rfl (lv_at hl 0 rfl) ?_
                        refine va_get (D := D) (ci := 6) (v := .ref (ad 12)) (C := RX5) (T := TX5) (N := 20) hx hb hts (fun _ h => List.mem_cons_of_mem _ (List.mem_append_right _ (h))) hown hK hP 0 rfl rfl 12 (by decide) (hts _ (List.mem_of_getElem? (i := 3) rfl)) (fun _ h9 => h9) rfl dX5_maps_92 ?_
                        refine lv_iload hx hb dX5_maps_95 (lv_at hl 6 rfl) ?_
                        refine ld_i (k := wst (mOwn F ow x) (ftV (mOwn F ow x) (mMm F gi) gi (F 4 x) (mNm (mOwn F ow x) (mMm F gi) gi (F 4 x) k)) i) hx hb hK hP 12 0 rfl rfl (by omega) (by decide) dX5_maps_97 ?_
                        refine lv_iconst (v := (-1)) hx hb dX5_maps_98 (by decide) ?_
                        refine lv_ixor hx hb dX5_maps_99 ?_
                        refine lv_iand hx hb dX5_maps_100 ?_
                        refine vp_callSi (W.runS (As := [.int (((mOwn F ow x) (wst (mOwn F ow x) (ftV (mOwn F ow x) (mMm F gi) gi (F 4 x) (mNm (mOwn F ow x) (mMm F gi) gi (F 4 x) k)) i)) &&& (((fillA mp (ftV (mOwn F ow x) (mMm F gi) gi (F 4 x) (mNm (mOwn F ow x) (mMm F gi) gi (F 4 x) k)) 8) (wst (mOwn F ow x) (ftV (mOwn F ow x) (mMm F gi) gi (F 4 x) (mNm (mOwn F ow x) (mMm F gi) gi (F 4 x) k)) i)) ^^^ (-1)))]) (rest := [.int (sizeI (((mOwn F ow x) i) &&& (((fillA mp (ftV (mOwn F ow x) (mMm F gi) gi (F 4 x) (mNm (mOwn F ow x) (mMm F gi) gi (F 4 x) k)) 8) i) ^^^ (-1))) 8)]) ⟨hx, hb, hml, hown, hts⟩ (k_X5_size l (((mOwn F ow x) (wst (mOwn F ow x) (ftV (mOwn F ow x) (mMm F gi) gi (F 4 x) (mNm (mOwn F ow x) (mMm F gi) gi (F 4 x) k)) i)) &&& (((fillA mp (ftV (mOwn F ow x) (mMm F gi) gi (F 4 x) (mNm (mOwn F ow x) (mMm F gi) gi (F 4 x) k)) 8) (wst (mOwn F ow x) (ftV (mOwn F ow x) (mMm F gi) gi (F 4 x) (mNm (mOwn F ow x) (mMm F gi) gi (F 4 x) k)) i)) ^^^ (-1)))) (va_cwS 1 hts gX5_maps_X5_size rfl rfl rfl (by decide +kernel) ⟨Nat.le_of_ble_eq_true rfl, Nat.le_of_ble_eq_true rfl⟩) ⟨nf_blind, fun U hU hW => ⟨rfl, trivial⟩⟩ rfl rfl hl.1 rfl (lv_room (Nat.le_of_ble_eq_true rfl)) dX5_maps_101 ⟨Nat.le_of_ble_eq_true rfl, Nat.le_of_ble_eq_true rfl⟩) (fun r er => ?_)
                        subst er
                        refine lv_icmp_le (tgt := 112) hx hb dX5_maps_104 (by decide) (fun c_104 => ?_) (fun c_104 => ?_)
                        ·
                          refine lv_iload hx hb dX5_maps_112 (lv_at hl 6 rfl) ?_
                          refine lv_istore (lv' := [(5, .int (nI (wst (mOwn F ow x) (ftV (mOwn F ow x) (mMm F gi) gi (F 4 x) (mNm (mOwn F ow x) (mMm F gi) gi (F 4 x) k)) i))), (0, .ref (ad 0)), (1, .int (nI x)), (2, .int gi), (3, .int (ftLoss (mOwn F ow x) (mMm F gi) gi (F 4 x) (mNm (mOwn F ow x) (mMm F gi) gi (F 4 x) k))), (4, .int (nI k)), (6, .int (nI i))]) hx hb dX5_maps_114 hl (by decide) rfl (fun ls hl => ?_)
                          refine lv_iinc (v := nI (i + 1)) (lv' := [(6, .int (nI (i + 1))), (5, .int (nI (wst (mOwn F ow x) (ftV (mOwn F ow x) (mMm F gi) gi (F 4 x) (mNm (mOwn F ow x) (mMm F gi) gi (F 4 x) k)) i))), (0, .ref (ad 0)), (1, .int (nI x)), (2, .int gi), (3, .int (ftLoss (mOwn F ow x) (mMm F gi) gi (F 4 x) (mNm (mOwn F ow x) (mMm F gi) gi (F 4 x) k))), (4, .int (nI k))]) hx hb dX5_maps_116 hl (k := 6) rfl (by exact iinc_n _) (by decide) rfl (fun ls hl => ?_)
                          refine lv_goto (tgt := 57) hx hb dX5_maps_119 (by decide) ?_
                          exact ih_57 (i + 1) (by omega) (by omega) _ (by first | exact wst_le h_i c_104 | exact wst_gt h_i c_104) _ _ hP hS ls (lv_sub hl [2, 3, 4, 5, 6, 0, 1] rfl)
                        ·
                          refine lv_iload hx hb dX5_maps_107 (lv_at hl 5 rfl) ?_
                          refine lv_goto (tgt := 114) hx hb dX5_maps_109 (by decide) ?_
                          refine lv_istore (lv' := [(5, .int (nI i)), (0, .ref (ad 0)), (1, .int (nI x)), (2, .int gi), (3, .int (ftLoss (mOwn F ow x) (mMm F gi) gi (F 4 x) (mNm (mOwn F ow x) (mMm F gi) gi (F 4 x) k))), (4, .int (nI k)), (6, .int (nI i))]) hx hb dX5_maps_114 hl (by decide) rfl (fun ls hl => ?_)
                          refine lv_iinc (v := nI (i + 1)) (lv' := [(6, .int (nI (i + 1))), (5, .int (nI i)), (0, .ref (ad 0)), (1, .int (nI x)), (2, .int gi), (3, .int (ftLoss (mOwn F ow x) (mMm F gi) gi (F 4 x) (mNm (mOwn F ow x) (mMm F gi) gi (F 4 x) k))), (4, .int (nI k))]) hx hb dX5_maps_116 hl (k := 6) rfl (by exact iinc_n _) (by decide) rfl (fun ls hl => ?_)
                          refine lv_goto (tgt := 57) hx hb dX5_maps_119 (by decide) ?_
                          exact ih_57 (i + 1) (by omega) (by omega) _ (by first | exact wst_le h_i c_104 | exact wst_gt h_i c_104) _ _ hP hS ls (lv_sub hl [2, 3, 4, 5, 6, 0, 1] rfl)
                      ·
                        obtain rfl : 8 = i := by omega
                        refine lv_iload hx hb dX5_maps_57 (lv_at hl 5 rfl) ?_
                        refine lv_bipush (v := 8) hx hb dX5_maps_59 (by decide) ?_
                        refine lv_icmp_ge (tgt := 122) hx hb dX5_maps_61 (by decide) (fun c_61 => ?_) (fun c_61 => absurd (lt_yes h_i (by decide)) c_61)
                        refine lv_aload_n hx hb dX5_maps_122 rfl (lv_at hl 0 rfl) ?_
                        refine lv_dup hx hb dX5_maps_123 rfl ?_
                        refine va_get (D := D) (ci := 6) (v := .int (mNm (mOwn F ow x) (mMm F gi) gi (F 4 x) k)) (C := RX5) (T := TX5) (N := 20) hx hb hts (fun _ h => List.mem_cons_of_mem _ (List.mem_append_right _ (h))) hown hK hP 0 rfl rfl 13 (by decide) (hts _ (List.mem_of_getElem? (i := 2) rfl)) (fun _ h9 => h9) rfl dX5_maps_124 ?_
                        refine lv_iconst (v := 1) hx hb dX5_maps_127 (by decide) ?_
                        refine lv_iload hx hb dX5_maps_128 (lv_at hl 6 rfl) ?_
                        refine lv_ishl hx hb dX5_maps_130 ?_
                        refine lv_ior hx hb dX5_maps_131 ?_
                        refine va_put (D := D) (ci := 6) (v := .int ((mNm (mOwn F ow x) (mMm F gi) gi (F 4 x) k) ||| ((1 : Int32) <<< ((nI (wst (mOwn F ow x) (ftV (mOwn F ow x) (mMm F gi) gi (F 4 x) (mNm (mOwn F ow x) (mMm F gi) gi (F 4 x) k)) 8)) &&& 31)))) (ty := .int) (C := RX5) (T := TX5) (N := 20) hx hb hts (fun _ h => List.mem_cons_of_mem _ (List.mem_append_right _ (h))) tyX5 tyX5_ok nmX5 hown hK hP (md_D hA) hS 0 rfl rfl 13 (by decide) (hts _ (List.mem_of_getElem? (i := 2) rfl)) (fun _ h9 => h9) rfl (by decide +kernel) rfl rfl (Nat.le_of_ble_eq_true rfl) dX5_maps_132 (fun H locs hP _ hS => ?_)
                        have hP : va_P D vwCl (mdW cI cZ ad F (mOwn F ow x) (fillA mp (ftV (mOwn F ow x) (mMm F gi) gi (F 4 x) (mNm (mOwn F ow x) (mMm F gi) gi (F 4 x) k)) 8) ((mNm (mOwn F ow x) (mMm F gi) gi (F 4 x) k) ||| ((1 : Int32) <<< ((nI (wst (mOwn F ow x) (ftV (mOwn F ow x) (mMm F gi) gi (F 4 x) (mNm (mOwn F ow x) (mMm F gi) gi (F 4 x) k)) 8)) &&& 31))) (ftGB (mOwn F ow x) (mMm F gi) gi (F 4 x) (mNm (mOwn F ow x) (mMm F gi) gi (F 4 x) k)) (ftOB (mOwn F ow x) (mMm F gi) gi (F 4 x) (mNm (mOwn F ow x) (mMm F gi) gi (F 4 x) k)) ik kp tu g) H := hP
                        refine lv_aload_n hx hb dX5_maps_135 rfl (lv_at hl 0 rfl) ?_
                        refine lv_iload_n hx hb dX5_maps_136 rfl (lv_at hl 1 rfl) ?_
                        refine lv_iload_n hx hb dX5_maps_137 rfl (lv_at hl 2 rfl) ?_
                        refine va_calli (va_runV (As := [.int (nI x), .int gi]) (rest := []) ⟨hx, hb, hml, hown, hts⟩ (k_X5_fits l D cI cZ ad A F (mOwn F ow x) (fillA mp (ftV (mOwn F ow x) (mMm F gi) gi (F 4 x) (mNm (mOwn F ow x) (mMm F gi) gi (F 4 x) k)) 8) ((mNm (mOwn F ow x) (mMm F gi) gi (F 4 x) k) ||| ((1 : Int32) <<< ((nI (wst (mOwn F ow x) (ftV (mOwn F ow x) (mMm F gi) gi (F 4 x) (mNm (mOwn F ow x) (mMm F gi) gi (F 4 x) k)) 8)) &&& 31))) (ftGB (mOwn F ow x) (mMm F gi) gi (F 4 x) (mNm (mOwn F ow x) (mMm F gi) gi (F 4 x) k)) (ftOB (mOwn F ow x) (mMm F gi) gi (F 4 x) (mNm (mOwn F ow x) (mMm F gi) gi (F 4 x) k)) ik kp tu g hA x gi (by omega) hg) (cwV 2 hts gX5_maps_X5_fits rfl rfl rfl (by decide +kernel) ⟨Nat.le_of_ble_eq_true rfl, Nat.le_of_ble_eq_true rfl⟩) ⟨rd_blind, va_recv hK hP (ci := 6) (q0 := 0) rfl rfl, rd_pre hP hK hN⟩ rfl rfl hl.1 rfl (lv_room (Nat.le_of_ble_eq_true rfl)) dX5_maps_138 ⟨Nat.le_of_ble_eq_true rfl, Nat.le_of_ble_eq_true rfl⟩) hS (fun q _ h => h) (fun q h => h) (fun r u t H locs ht hvm hw hB hz1 hk1 hS => ?_)
                        have hP := hB
                        rw [ht] at hP
                        subst hw
                        have hP : va_P D vwCl (mdW cI cZ ad F (mOwn F ow x) (fillA (fillA mp (ftV (mOwn F ow x) (mMm F gi) gi (F 4 x) (mNm (mOwn F ow x) (mMm F gi) gi (F 4 x) k)) 8) (ftV (mOwn F ow x) (mMem F (i2n gi)) gi ((F 4) x) ((mNm (mOwn F ow x) (mMm F gi) gi (F 4 x) k) ||| ((1 : Int32) <<< ((nI (wst (mOwn F ow x) (ftV (mOwn F ow x) (mMm F gi) gi (F 4 x) (mNm (mOwn F ow x) (mMm F gi) gi (F 4 x) k)) 8)) &&& 31)))) 8) ((mNm (mOwn F ow x) (mMm F gi) gi (F 4 x) k) ||| ((1 : Int32) <<< ((nI (wst (mOwn F ow x) (ftV (mOwn F ow x) (mMm F gi) gi (F 4 x) (mNm (mOwn F ow x) (mMm F gi) gi (F 4 x) k)) 8)) &&& 31))) (ftGB (mOwn F ow x) (mMem F (i2n gi)) gi ((F 4) x) ((mNm (mOwn F ow x) (mMm F gi) gi (F 4 x) k) ||| ((1 : Int32) <<< ((nI (wst (mOwn F ow x) (ftV (mOwn F ow x) (mMm F gi) gi (F 4 x) (mNm (mOwn F ow x) (mMm F gi) gi (F 4 x) k)) 8)) &&& 31)))) (ftOB (mOwn F ow x) (mMem F (i2n gi)) gi ((F 4) x) ((mNm (mOwn F ow x) (mMm F gi) gi (F 4 x) k) ||| ((1 : Int32) <<< ((nI (wst (mOwn F ow x) (ftV (mOwn F ow x) (mMm F gi) gi (F 4 x) (mNm (mOwn F ow x) (mMm F gi) gi (F 4 x) k)) 8)) &&& 31)))) ik kp tu g) H := hP
                        refine lv_istore_n (lv' := [(3, .int (ftLoss (mOwn F ow x) (mMem F (i2n gi)) gi ((F 4) x) ((mNm (mOwn F ow x) (mMm F gi) gi (F 4 x) k) ||| ((1 : Int32) <<< ((nI (wst (mOwn F ow x) (ftV (mOwn F ow x) (mMm F gi) gi (F 4 x) (mNm (mOwn F ow x) (mMm F gi) gi (F 4 x) k)) 8)) &&& 31))))), (0, .ref (ad 0)), (1, .int (nI x)), (2, .int gi), (4, .int (nI k)), (6, .int (nI 8)), (5, .int (nI (wst (mOwn F ow x) (ftV (mOwn F ow x) (mMm F gi) gi (F 4 x) (mNm (mOwn F ow x) (mMm F gi) gi (F 4 x) k)) 8)))]) hx hb dX5_maps_141 rfl hl (by decide) rfl (fun ls hl => ?_)
                        refine lv_iinc (v := nI (k + 1)) (lv' := [(4, .int (nI (k + 1))), (3, .int (ftLoss (mOwn F ow x) (mMem F (i2n gi)) gi ((F 4) x) ((mNm (mOwn F ow x) (mMm F gi) gi (F 4 x) k) ||| ((1 : Int32) <<< ((nI (wst (mOwn F ow x) (ftV (mOwn F ow x) (mMm F gi) gi (F 4 x) (mNm (mOwn F ow x) (mMm F gi) gi (F 4 x) k)) 8)) &&& 31))))), (0, .ref (ad 0)), (1, .int (nI x)), (2, .int gi), (6, .int (nI 8)), (5, .int (nI (wst (mOwn F ow x) (ftV (mOwn F ow x) (mMm F gi) gi (F 4 x) (mNm (mOwn F ow x) (mMm F gi) gi (F 4 x) k)) 8)))]) hx hb dX5_maps_142 hl (k := 4) rfl (by exact iinc_n _) (by decide) rfl (fun ls hl => ?_)
                        refine lv_goto (tgt := 41) hx hb dX5_maps_145 (by decide) ?_
                        exact ih_41 (k + 1) (by omega) (by omega) _ (by rw [mNm_s c_48]; try rfl) _ (by rw [mNm_s c_48]; exact fillA_fillA _ _ _ _) _ (by exact (mNm_s c_48).symm) _ (by rw [mNm_s c_48]; try rfl) _ (by rw [mNm_s c_48]; try rfl) _ _ hP hS ls (lv_sub hl [2, 3, 4, 0, 1] rfl)
                  exact L_57 (8 + 1) 1 (by omega) (by omega) _ (by rw [wst_1]; rfl) _ _ hP hS ls (lv_sub hl [2, 3, 4, 6, 5, 0, 1] rfl)
              ·
                obtain rfl : 3 = k := by omega
                refine lv_iload hx hb dX5_maps_41 (lv_at hl 3 rfl) ?_
                refine lv_iconst (v := 3) hx hb dX5_maps_43 (by decide) ?_
                refine lv_icmp_ge (tgt := 148) hx hb dX5_maps_44 (by decide) (fun c_44 => ?_) (fun c_44 => absurd (lt_yes h_k (by decide)) c_44)
                refine lv_iload_n hx hb dX5_maps_148 rfl (lv_at hl 4 rfl) ?_
                subst hQ
                have hP : va_P D vwCl (mdW cI cZ ad F (mOwn F ow x) (fillA mp (ftV (mOwn F ow x) (mMm F gi) gi (F 4 x) (mNm (mOwn F ow x) (mMm F gi) gi (F 4 x) 3)) 8) (mNm (mOwn F ow x) (mMm F gi) gi (F 4 x) 3) (ftGB (mOwn F ow x) (mMm F gi) gi (F 4 x) (mNm (mOwn F ow x) (mMm F gi) gi (F 4 x) 3)) (ftOB (mOwn F ow x) (mMm F gi) gi (F 4 x) (mNm (mOwn F ow x) (mMm F gi) gi (F 4 x) 3)) ik kp tu g) H := hP
                have qmp : fillA mp (ftV (mOwn F ow x) (mMm F gi) gi (F 4 x) (mNm (mOwn F ow x) (mMm F gi) gi (F 4 x) 3)) 8 = fillA mp (mV F ow x gi) 8 := by first | (unfold mV mN; rw [mNm_3 (k := k) (by omega) c_48]) | rfl
                have qnm : (mNm (mOwn F ow x) (mMm F gi) gi (F 4 x) 3) = mN F ow x gi := by first | (unfold mN; rw [mNm_3 (k := k) (by omega) c_48]) | rfl
                have qgb : ftGB (mOwn F ow x) (mMm F gi) gi (F 4 x) (mNm (mOwn F ow x) (mMm F gi) gi (F 4 x) 3) = mGB F ow x gi := by first | (unfold mGB mN; rw [mNm_3 (k := k) (by omega) c_48]) | rfl
                have qob : ftOB (mOwn F ow x) (mMm F gi) gi (F 4 x) (mNm (mOwn F ow x) (mMm F gi) gi (F 4 x) 3) = mOB F ow x gi := by first | (unfold mOB mN; rw [mNm_3 (k := k) (by omega) c_48]) | rfl
                have hP : va_P D vwCl (mdW cI cZ ad F (mOwn F ow x) (fillA mp (mV F ow x gi) 8) (mN F ow x gi) (mGB F ow x gi) (mOB F ow x gi) ik kp tu g) H := mdW_P rfl rfl qmp qnm qgb qob rfl rfl rfl rfl hP
                exact W.iret (v := ftLoss (mOwn F ow x) (mMm F gi) gi (F 4 x) (mNm (mOwn F ow x) (mMm F gi) gi (F 4 x) 3)) hx hb hr (fun t ht _ => ⟨⟨_, (), rfl, (by first | (unfold mL mN; rw [mNm_3 (k := k) (by omega) c_48]) | rfl), by have e := hP; rw [← ht] at e; exact e⟩, hS.F ht⟩) hS.2.2 dX5_maps_149
          exact L_41 (3 + 1) 0 (by omega) (by omega) _ (by rfl) _ (by rfl) _ (by rfl) _ (by rfl) _ (by rfl) _ _ hP hS ls (lv_sub hl [2, 3, 4, 0, 1] rfl)
    exact L_2 (8 + 1) 0 (by omega) (by omega) _ (by rfl) _ _ hP hS ls (lv_sub hl [1, 2, 3, 0] rfl)
  exact go _ _ hP hS

set_option maxHeartbeats 800000 in
set_option maxRecDepth 100000 in
theorem k_X5_mapsBest (l : Launch) (D : va_G) (cI cZ : ClassId) (ad : Nat → Nat) (A : Nat → Prop) (F : Nat → Nat → Int32) (ow : Nat → Int32) (mp : Nat → Int32) (nm : Int32) (gb : Int32) (ob : Int32) (ik : Nat → Int32) (kp : Nat → Int32) (tu : Nat → Int32) (g : Nat → Int32) (hA : apD 16 A ad) (x : Nat)  (nn : Nat) (hM : okM F g nn) (hxn : x < nn) : Met l yX5_mapsBest wsX5_mapsBest (rmr 6 145) (va_Pc [.ref (ad 0), .int (nI x)] (rdP D ([(cI, .int), (cZ, .boolean)]) (mdW cI cZ ad F ow mp nm gb ob ik kp tu g))) (va_Qi (fun (r : Int32) (_ : Unit) => r = mBest F ow x) (fun _ t => va_P D vwCl (mdW cI cZ ad F (mOwn F ow x) (fillA mp (mV F ow x (mBest F ow x)) 8) (mN F ow x (mBest F ow x)) (mGB F ow x (mBest F ow x)) (mOB F ow x (mBest F ow x)) ik kp tu g) t.heap) A) 0 0 A := by
  refine Met.ofW (cc := cX5_mapsBest) (maxL := 6) (ret := (some .int)) (by decide) rfl ?_
  intro p e s m args below meth c s₁ B hml hv
  obtain ⟨hargs, hP, hK, hN⟩ := hv
  have hx := B.exec
  have hb := B.bytes
  have hr := B.returns
  have hts := atoms_spec (ws := wsX5_mapsBest) B.pre
  have hown : s.vm.findClass RX5 = some m.cls := findClass_of_methodNamed B.named
  have hlocks := B.notSynchronized
  have hen : entryFrame m args 6 = entryFrame m ([.ref (ad 0), .int (nI x)] : List Value).toArray 6 := by rw [hargs]
  rw [hen]
  have hl := lv_entry ([.ref (ad 0), .int (nI x)]) (n := 6) (Nat.le_of_ble_eq_true rfl)
  rw [lg_entry_eq]
  generalize (lg_sl ([.ref (ad 0), .int (nI x)]) ++ List.replicate (6 - (lg_sl ([.ref (ad 0), .int (nI x)])).length) Slot.unset).toArray = ls at hl ⊢
  have hl : lv_has ls 6 [(0, .ref (ad 0)), (1, .int (nI x))] := hl
  have hS : va_S A s.heap s.heap [] := va_S.rf
  generalize hQ : MQ below (va_Qi (fun (r : Int32) (_ : Unit) => r = mBest F ow x) (fun _ t => va_P D vwCl (mdW cI cZ ad F (mOwn F ow x) (fillA mp (mV F ow x (mBest F ow x)) 8) (mN F ow x (mBest F ow x)) (mGB F ow x (mBest F ow x)) (mOB F ow x (mBest F ow x)) ik kp tu g) t.heap) A) args s 0 0 A = Q
  have go : ∀ (H : Heap) (locs : List Loc), va_P D vwCl (mdW cI cZ ad F ow mp nm gb ob ik kp tu g) H → va_S A s.heap H locs → W p l e (headSpec wsX5_mapsBest (rmr 6 145)).room s m args below meth c H locs 0 0 Q (F0 m 0 ls []) := by
    intro H locs hP hS
    refine lv_iconst (v := (-1)) hx hb dX5_mapsBest_0 (by decide) ?_
    refine lv_istore_n (lv' := [(2, .int (-1)), (0, .ref (ad 0)), (1, .int (nI x))]) hx hb dX5_mapsBest_1 rfl hl (by decide) rfl (fun ls hl => ?_)
    refine lv_aload_n hx hb dX5_mapsBest_2 rfl (lv_at hl 1 rfl) ?_
    refine lv_iload_n hx hb dX5_mapsBest_3 rfl (lv_at hl 2 rfl) ?_
    refine lv_iconst (v := (-1)) hx hb dX5_mapsBest_4 (by decide) ?_
    refine va_calli (va_runV (As := [.int (nI x), .int (-1)]) (rest := []) ⟨hx, hb, hml, hown, hts⟩ (k_X5_maps l D cI cZ ad A F ow mp nm gb ob ik kp tu g hA x (-1) nn hM hxn (Or.inl rfl)) (cwV 2 hts gX5_mapsBest_X5_maps rfl rfl rfl (by decide +kernel) ⟨Nat.le_of_ble_eq_true rfl, Nat.le_of_ble_eq_true rfl⟩) ⟨rd_blind, va_recv hK hP (ci := 6) (q0 := 0) rfl rfl, rd_pre hP hK hN⟩ rfl rfl hl.1 rfl (lv_room (Nat.le_of_ble_eq_true rfl)) dX5_mapsBest_5 ⟨Nat.le_of_ble_eq_true rfl, Nat.le_of_ble_eq_true rfl⟩) hS (fun q _ h => h) (fun q h => h) (fun r u t H locs ht hvm hw hB hz1 hk1 hS => ?_)
    have hP := hB
    rw [ht] at hP
    subst hw
    have hP : va_P D vwCl (mdW cI cZ ad F (mOwn F ow x) (fillA mp (mV F ow x (-1)) 8) (mN F ow x (-1)) (mGB F ow x (-1)) (mOB F ow x (-1)) ik kp tu g) H := hP
    refine lv_istore_n (lv' := [(3, .int (mL F ow x (-1))), (2, .int (-1)), (0, .ref (ad 0)), (1, .int (nI x))]) hx hb dX5_mapsBest_8 rfl hl (by decide) rfl (fun ls hl => ?_)
    refine lv_iconst (v := 0) hx hb dX5_mapsBest_9 (by decide) ?_
    refine lv_istore (lv' := [(4, .int 0), (3, .int (mL F ow x (-1))), (2, .int (-1)), (0, .ref (ad 0)), (1, .int (nI x))]) hx hb dX5_mapsBest_10 hl (by decide) rfl (fun ls hl => ?_)
    have L_12 : ∀ fz i : Nat, i ≤ 6 → 6 - i < fz → ∀ (v2 : Int32), v2 = ((mB F ow x i).1) → ∀ (v3 : Int32), v3 = ((mB F ow x i).2) → ∀ (kmp : Nat → Int32), kmp = (fillA mp (mV F ow x (lastG i)) 8) → ∀ (kow : Nat → Int32), kow = (mOwn F ow x) → ∀ (knm : Int32), knm = (mN F ow x (lastG i)) → ∀ (kgb : Int32), kgb = (mGB F ow x (lastG i)) → ∀ (kob : Int32), kob = (mOB F ow x (lastG i)) → ∀ (H : Heap) (locs : List Loc), va_P D vwCl (mdW cI cZ ad F kow kmp knm kgb kob ik kp tu g) H → va_S A s.heap H locs → ∀ ls : Array Slot, lv_has ls 6 [(0, .ref (ad 0)), (1, .int (nI x)), (4, .int (nI i)), (2, .int v2), (3, .int v3)] → W p l e (headSpec wsX5_mapsBest (rmr 6 145)).room s m args below meth c H locs 0 0 Q (F0 m 12 ls []) := by
      intro fz
      induction fz with
      | zero => intro i _ h; exact absurd h (Nat.not_lt_zero _)
      | succ fz ih_12 =>
        intro i hi_12 hn_12 v2 ev2 v3 ev3 kmp ekmp kow ekow knm eknm kgb ekgb kob ekob H locs hP hS ls hl
        subst ev2
        subst ev3
        subst ekmp
        subst ekow
        subst eknm
        subst ekgb
        subst ekob
        rcases Nat.lt_or_ge i 6 with h_i | h_i
        ·
          refine lv_iload hx hb dX5_mapsBest_12 (lv_at hl 2 rfl) ?_
          refine lv_bipush (v := 6) hx hb dX5_mapsBest_14 (by decide) ?_
          refine lv_icmp_ge (tgt := 60) hx hb dX5_mapsBest_16 (by decide) (fun c_16 => absurd c_16 (lt_no h_i (by decide))) (fun c_16 => ?_)
          refine lv_aload_n hx hb dX5_mapsBest_19 rfl (lv_at hl 0 rfl) ?_
          refine lv_iload_n hx hb dX5_mapsBest_20 rfl (lv_at hl 1 rfl) ?_
          refine lv_iload hx hb dX5_mapsBest_21 (lv_at hl 2 rfl) ?_
          refine va_calli (va_runV (As := [.int (nI x), .int (nI i)]) (rest := []) ⟨hx, hb, hml, hown, hts⟩ (k_X5_maps l D cI cZ ad A F (mOwn F ow x) (fillA mp (mV F ow x (lastG i)) 8) (mN F ow x (lastG i)) (mGB F ow x (lastG i)) (mOB F ow x (lastG i)) ik kp tu g hA x (nI i) nn hM hxn (Or.inr ⟨i, h_i, rfl⟩)) (cwV 2 hts gX5_mapsBest_X5_maps rfl rfl rfl (by decide +kernel) ⟨Nat.le_of_ble_eq_true rfl, Nat.le_of_ble_eq_true rfl⟩) ⟨rd_blind, va_recv hK hP (ci := 6) (q0 := 0) rfl rfl, rd_pre hP hK hN⟩ rfl rfl hl.1 rfl (lv_room (Nat.le_of_ble_eq_true rfl)) dX5_mapsBest_23 ⟨Nat.le_of_ble_eq_true rfl, Nat.le_of_ble_eq_true rfl⟩) hS (fun q _ h => h) (fun q h => h) (fun r u t H locs ht hvm hw hB hz1 hk1 hS => ?_)
          have hP := hB
          rw [ht] at hP
          subst hw
          have hP : va_P D vwCl (mdW cI cZ ad F (mOwn F (mOwn F ow x) x) (fillA (fillA mp (mV F ow x (lastG i)) 8) (mV F (mOwn F ow x) x (nI i)) 8) (mN F (mOwn F ow x) x (nI i)) (mGB F (mOwn F ow x) x (nI i)) (mOB F (mOwn F ow x) x (nI i)) ik kp tu g) H := hP
          refine top_eq (y := mL F ow x (nI i)) (by exact mL_again F ow x _) ?_
          refine lv_istore (lv' := [(5, .int (mL F ow x (nI i))), (0, .ref (ad 0)), (1, .int (nI x)), (4, .int (nI i)), (2, .int ((mB F ow x i).1)), (3, .int ((mB F ow x i).2))]) hx hb dX5_mapsBest_26 hl (by decide) rfl (fun ls hl => ?_)
          refine lv_iload hx hb dX5_mapsBest_28 (lv_at hl 0 rfl) ?_
          refine lv_iload_n hx hb dX5_mapsBest_30 rfl (lv_at hl 5 rfl) ?_
          have J_40 : ∀ (z0 : Int32), z0 = (if ((mB F ow x i).2) ≤ (mL F ow x (nI i)) then (mB F ow x i).1 else nI i) → ∀ (H : Heap) (locs : List Loc), va_P D vwCl (mdW cI cZ ad F (mOwn F (mOwn F ow x) x) (fillA (fillA mp (mV F ow x (lastG i)) 8) (mV F (mOwn F ow x) x (nI i)) 8) (mN F (mOwn F ow x) x (nI i)) (mGB F (mOwn F ow x) x (nI i)) (mOB F (mOwn F ow x) x (nI i)) ik kp tu g) H → va_S A s.heap H locs → ∀ ls : Array Slot, lv_has ls 6 [(0, .ref (ad 0)), (1, .int (nI x)), (2, .int ((mB F ow x i).1)), (3, .int ((mB F ow x i).2)), (4, .int (nI i)), (5, .int (mL F ow x (nI i)))] → W p l e (headSpec wsX5_mapsBest (rmr 6 145)).room s m args below meth c H locs 0 0 Q (F0 m 40 ls [.int z0]) := by
            intro z0 ez0 H locs hP hS ls hl
            subst ez0
            refine lv_istore_n (lv' := [(2, .int (if ((mB F ow x i).2) ≤ (mL F ow x (nI i)) then (mB F ow x i).1 else nI i)), (0, .ref (ad 0)), (1, .int (nI x)), (3, .int ((mB F ow x i).2)), (4, .int (nI i)), (5, .int (mL F ow x (nI i)))]) hx hb dX5_mapsBest_40 rfl hl (by decide) rfl (fun ls hl => ?_)
            refine lv_iload hx hb dX5_mapsBest_41 (lv_at hl 5 rfl) ?_
            refine lv_iload_n hx hb dX5_mapsBest_43 rfl (lv_at hl 3 rfl) ?_
            have J_53 : ∀ (z0 : Int32), z0 = (if ((mB F ow x i).2) ≤ (mL F ow x (nI i)) then (mB F ow x i).2 else mL F ow x (nI i)) → ∀ (H : Heap) (locs : List Loc), va_P D vwCl (mdW cI cZ ad F (mOwn F (mOwn F ow x) x) (fillA (fillA mp (mV F ow x (lastG i)) 8) (mV F (mOwn F ow x) x (nI i)) 8) (mN F (mOwn F ow x) x (nI i)) (mGB F (mOwn F ow x) x (nI i)) (mOB F (mOwn F ow x) x (nI i)) ik kp tu g) H → va_S A s.heap H locs → ∀ ls : Array Slot, lv_has ls 6 [(0, .ref (ad 0)), (1, .int (nI x)), (2, .int (if ((mB F ow x i).2) ≤ (mL F ow x (nI i)) then (mB F ow x i).1 else nI i)), (3, .int ((mB F ow x i).2)), (4, .int (nI i)), (5, .int (mL F ow x (nI i)))] → W p l e (headSpec wsX5_mapsBest (rmr 6 145)).room s m args below meth c H locs 0 0 Q (F0 m 53 ls [.int z0]) := by
              intro z0 ez0 H locs hP hS ls hl
              subst ez0
              refine lv_istore_n (lv' := [(3, .int (if ((mB F ow x i).2) ≤ (mL F ow x (nI i)) then (mB F ow x i).2 else mL F ow x (nI i))), (0, .ref (ad 0)), (1, .int (nI x)), (2, .int (if ((mB F ow x i).2) ≤ (mL F ow x (nI i)) then (mB F ow x i).1 else nI i)), (4, .int (nI i)), (5, .int (mL F ow x (nI i)))]) hx hb dX5_mapsBest_53 rfl hl (by decide) rfl (fun ls hl => ?_)
              refine lv_iinc (v := nI (i + 1)) (lv' := [(4, .int (nI (i + 1))), (3, .int (if ((mB F ow x i).2) ≤ (mL F ow x (nI i)) then (mB F ow x i).2 else mL F ow x (nI i))), (0, .ref (ad 0)), (1, .int (nI x)), (2, .int (if ((mB F ow x i).2) ≤ (mL F ow x (nI i)) then (mB F ow x i).1 else nI i)), (5, .int (mL F ow x (nI i)))]) hx hb dX5_mapsBest_54 hl (k := 4) rfl (by exact iinc_n _) (by decide) rfl (fun ls hl => ?_)
              refine lv_goto (tgt := 12) hx hb dX5_mapsBest_57 (by decide) ?_
              exact ih_12 (i + 1) (by omega) (by omega) _ (by exact mB_1 F ow x i) _ (by exact mB_2 F ow x i) _ (by rw [mV_again]; exact fillA_fillA _ _ _ _) _ (by exact mOwn_again F ow x) _ (by exact mN_again F ow x _) _ (by exact mGB_again F ow x _) _ (by exact mOB_again F ow x _) _ _ hP hS ls (lv_sub hl [2, 3, 0, 4, 1] rfl)
            refine lv_icmp_ge (tgt := 52) hx hb dX5_mapsBest_44 (by decide) (fun c_44 => ?_) (fun c_44 => ?_)
            ·
              refine lv_iload_n hx hb dX5_mapsBest_52 rfl (lv_at hl 3 rfl) ?_
              exact J_53 _ ((if_pos c_44).symm) _ _ hP hS ls (lv_sub hl [1, 2, 0, 3, 4, 5] rfl)
            ·
              refine lv_iload hx hb dX5_mapsBest_47 (lv_at hl 5 rfl) ?_
              refine lv_goto (tgt := 53) hx hb dX5_mapsBest_49 (by decide) ?_
              exact J_53 _ ((if_neg c_44).symm) _ _ hP hS ls (lv_sub hl [1, 2, 0, 3, 4, 5] rfl)
          refine lv_icmp_ge (tgt := 39) hx hb dX5_mapsBest_31 (by decide) (fun c_31 => ?_) (fun c_31 => ?_)
          ·
            refine lv_iload_n hx hb dX5_mapsBest_39 rfl (lv_at hl 4 rfl) ?_
            exact J_40 _ ((if_pos c_31).symm) _ _ hP hS ls (lv_sub hl [1, 2, 4, 5, 3, 0] rfl)
          ·
            refine lv_iload hx hb dX5_mapsBest_34 (lv_at hl 3 rfl) ?_
            refine lv_goto (tgt := 40) hx hb dX5_mapsBest_36 (by decide) ?_
            exact J_40 _ ((if_neg c_31).symm) _ _ hP hS ls (lv_sub hl [1, 2, 4, 5, 3, 0] rfl)
        ·
          obtain rfl : 6 = i := by omega
          refine lv_iload hx hb dX5_mapsBest_12 (lv_at hl 2 rfl) ?_
          refine lv_bipush (v := 6) hx hb dX5_mapsBest_14 (by decide) ?_
          refine lv_icmp_ge (tgt := 60) hx hb dX5_mapsBest_16 (by decide) (fun c_16 => ?_) (fun c_16 => absurd (lt_yes h_i (by decide)) c_16)
          refine lv_aload_n hx hb dX5_mapsBest_60 rfl (lv_at hl 0 rfl) ?_
          refine lv_iload_n hx hb dX5_mapsBest_61 rfl (lv_at hl 1 rfl) ?_
          refine lv_iload_n hx hb dX5_mapsBest_62 rfl (lv_at hl 3 rfl) ?_
          refine va_calli (va_runV (As := [.int (nI x), .int ((mB F ow x 6).1)]) (rest := []) ⟨hx, hb, hml, hown, hts⟩ (k_X5_maps l D cI cZ ad A F (mOwn F ow x) (fillA mp (mV F ow x (lastG 6)) 8) (mN F ow x (lastG 6)) (mGB F ow x (lastG 6)) (mOB F ow x (lastG 6)) ik kp tu g hA x ((mB F ow x 6).1) nn hM hxn (mB_ok F ow x 6 (by decide))) (cwV 2 hts gX5_mapsBest_X5_maps rfl rfl rfl (by decide +kernel) ⟨Nat.le_of_ble_eq_true rfl, Nat.le_of_ble_eq_true rfl⟩) ⟨rd_blind, va_recv hK hP (ci := 6) (q0 := 0) rfl rfl, rd_pre hP hK hN⟩ rfl rfl hl.1 rfl (lv_room (Nat.le_of_ble_eq_true rfl)) dX5_mapsBest_63 ⟨Nat.le_of_ble_eq_true rfl, Nat.le_of_ble_eq_true rfl⟩) hS (fun q _ h => h) (fun q h => h) (fun r u t H locs ht hvm hw hB hz1 hk1 hS => ?_)
          have hP := hB
          rw [ht] at hP
          subst hw
          have hP : va_P D vwCl (mdW cI cZ ad F (mOwn F (mOwn F ow x) x) (fillA (fillA mp (mV F ow x (lastG 6)) 8) (mV F (mOwn F ow x) x ((mB F ow x 6).1)) 8) (mN F (mOwn F ow x) x ((mB F ow x 6).1)) (mGB F (mOwn F ow x) x ((mB F ow x 6).1)) (mOB F (mOwn F ow x) x ((mB F ow x 6).1)) ik kp tu g) H := hP
          refine lv_pop hx hb dX5_mapsBest_66 rfl ?_
          refine lv_iload_n hx hb dX5_mapsBest_67 rfl (lv_at hl 3 rfl) ?_
          subst hQ
          have hP : va_P D vwCl (mdW cI cZ ad F (mOwn F (mOwn F ow x) x) (fillA (fillA mp (mV F ow x (lastG 6)) 8) (mV F (mOwn F ow x) x ((mB F ow x 6).1)) 8) (mN F (mOwn F ow x) x ((mB F ow x 6).1)) (mGB F (mOwn F ow x) x ((mB F ow x 6).1)) (mOB F (mOwn F ow x) x ((mB F ow x 6).1)) ik kp tu g) H := hP
          have qow : mOwn F (mOwn F ow x) x = mOwn F ow x := by exact mOwn_again F ow x
          have qmp : fillA (fillA mp (mV F ow x (lastG 6)) 8) (mV F (mOwn F ow x) x ((mB F ow x 6).1)) 8 = fillA mp (mV F ow x (mBest F ow x)) 8 := by rw [mV_again]; exact fillA_fillA _ _ _ _
          have qnm : mN F (mOwn F ow x) x ((mB F ow x 6).1) = mN F ow x (mBest F ow x) := by exact mN_again F ow x _
          have qgb : mGB F (mOwn F ow x) x ((mB F ow x 6).1) = mGB F ow x (mBest F ow x) := by exact mGB_again F ow x _
          have qob : mOB F (mOwn F ow x) x ((mB F ow x 6).1) = mOB F ow x (mBest F ow x) := by exact mOB_again F ow x _
          have hP : va_P D vwCl (mdW cI cZ ad F (mOwn F ow x) (fillA mp (mV F ow x (mBest F ow x)) 8) (mN F ow x (mBest F ow x)) (mGB F ow x (mBest F ow x)) (mOB F ow x (mBest F ow x)) ik kp tu g) H := mdW_P rfl qow qmp qnm qgb qob rfl rfl rfl rfl hP
          exact W.iret (v := (mB F ow x 6).1) hx hb hr (fun t ht _ => ⟨⟨_, (), rfl, (by rfl), by have e := hP; rw [← ht] at e; exact e⟩, hS.F ht⟩) hS.2.2 dX5_mapsBest_68
    exact L_12 (6 + 1) 0 (by omega) (by omega) _ (by rfl) _ (by rfl) _ (by rfl) _ (by rfl) _ (by rfl) _ (by rfl) _ (by rfl) _ _ hP hS ls (lv_sub hl [3, 4, 0, 2, 1] rfl)
  exact go _ _ hP hS
