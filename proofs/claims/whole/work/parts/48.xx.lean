/-! what a method that throws needs: the words, the two statics, the texts -/
abbrev rmx (f n : Nat) : Room := { frames := f, cells := 1, slots := 6, locals := n }
def xNg (E : String) : List Cond := [.declares (Bundle.initS "java/lang/RuntimeException"), .declares (Bundle.initS "java/lang/Exception"), .declares (Bundle.initS Bundle.tN), .castable E E]
theorem xx_ngI : ((vx_atS RX4 93 "java/lang/IndexOutOfBoundsException" ["java/lang/RuntimeException", "java/lang/Exception"]).filter (fun w => !goodWord w)) = xNg "java/lang/IndexOutOfBoundsException" := by decide +kernel
theorem xx_ngS : ((vx_atS RX4 62 "java/lang/IllegalStateException" ["java/lang/RuntimeException", "java/lang/Exception"]).filter (fun w => !goodWord w)) = xNg "java/lang/IllegalStateException" := by decide +kernel
theorem xx_ngA : ((vx_atS RX4 98 "java/lang/IllegalArgumentException" ["java/lang/RuntimeException", "java/lang/Exception"]).filter (fun w => !goodWord w)) = xNg "java/lang/IllegalArgumentException" := by decide +kernel
theorem xx_gdI : ∀ w ∈ Cond.classLink RX4 89 "java/lang/IndexOutOfBoundsException" :: Cond.initialized "java/lang/IndexOutOfBoundsException" :: vx_atS RX4 93 "java/lang/IndexOutOfBoundsException" ["java/lang/RuntimeException", "java/lang/Exception"], vx_ot w = true := by decide +kernel
theorem xx_gdS : ∀ w ∈ Cond.classLink RX4 58 "java/lang/IllegalStateException" :: Cond.initialized "java/lang/IllegalStateException" :: vx_atS RX4 62 "java/lang/IllegalStateException" ["java/lang/RuntimeException", "java/lang/Exception"], vx_ot w = true := by decide +kernel
theorem xx_gdA : ∀ w ∈ Cond.classLink RX4 94 "java/lang/IllegalArgumentException" :: Cond.initialized "java/lang/IllegalArgumentException" :: vx_atS RX4 98 "java/lang/IllegalArgumentException" ["java/lang/RuntimeException", "java/lang/Exception"], vx_ot w = true := by decide +kernel
def xXC (E : String) : String → State → State → Prop := fun E' st t => E' = E ∧ va_F (fun _ => False) st t
def xQc : Array Value → State → Outcome → State → Prop := fun _ _ _ _ => False
def xTx : List (Nat × String) := [(60, "the outer group is in the inner one"), (79, "there are 20 folders"), (91, "no such person or group"), (96, "rights or scope out of range"), (102, "the folder has 6 entries"), (109, "no such entry"), (168, "the folder has no kept mapping"), (176, "no such person"), (178, "no such group"), (180, "no such folder")]
def NX (U : State) : Prop :=
  (vx_Zq Bundle.tN "UNASSIGNED_STACK" Bundle.steD (fun _ => False) U U.heap ∧ vx_Zq Bundle.tN "SUPPRESSED_SENTINEL" Bundle.listD (fun _ => False) U U.heap) ∧
  (va_Nw (.declares (Bundle.initS "java/lang/RuntimeException")) U ∧ va_Nw (.declares (Bundle.initS "java/lang/Exception")) U ∧ va_Nw (.declares (Bundle.initS Bundle.tN)) U) ∧
  (∀ E ∈ ["java/lang/IndexOutOfBoundsException", "java/lang/IllegalStateException", "java/lang/IllegalArgumentException"], va_Nw (.castable E E) U) ∧ ∀ q ∈ xTx, ∃ sa, vk_R RX4 q.1 q.2 sa U
theorem NX.move {s U : State} (hh : U.heap = s.heap) (hW : s.WarmedH U.vm) (h : NX s) : NX U := by
  obtain ⟨⟨h1, h2⟩, ⟨h3, h4, h5⟩, h6, h7⟩ := h
  refine ⟨⟨by rw [hh]; exact vx_Zq.moved hW.alike h1, by rw [hh]; exact vx_Zq.moved hW.alike h2⟩, ⟨h3.warmD hW, h4.warmD hW, h5.warmD hW⟩, fun E hE => (h6 E hE).warmC hW, fun q hq => ?_⟩
  obtain ⟨sa, ha⟩ := h7 q hq
  exact ⟨sa, vk_R.warm hW ha⟩
theorem NX.calling {U : State} {g : JFrame} {mk : MethodId} {a : Array Value} (h : NX U) : NX (U.calling g mk a) := NX.move (s := U) (U := U.calling g mk a) rfl (State.WarmedH.refl U) h
theorem NX.ng {s : State} {E : String} {args : Array Value} (h : NX s) (hE : E ∈ ["java/lang/IndexOutOfBoundsException", "java/lang/IllegalStateException", "java/lang/IllegalArgumentException"]) : ∀ w ∈ xNg E, w.before args s = true := by
  obtain ⟨-, ⟨h3, h4, h5⟩, h6, -⟩ := h
  exact vx_c (va_Nw.use rfl h3) (vx_c (va_Nw.use rfl h4) (vx_c (va_Nw.use rfl h5) (vx_c (va_Nw.use rfl (h6 E hE)) vx_n)))
theorem NX.hat {s : State} {E : String} {L : List Cond} {args : Array Value} (h : NX s) (hE : E ∈ ["java/lang/IndexOutOfBoundsException", "java/lang/IllegalStateException", "java/lang/IllegalArgumentException"]) (hL : L.filter (fun w => !goodWord w) = xNg E) (h1 : ∀ w ∈ L.filter goodWord, w.before args s = true) : ∀ w ∈ L, w.before args s = true :=
  vx_hat h1 (fun w hw => by rw [hL] at hw; exact hw) (h.ng hE)
def rdX (D : va_G) (tys : List (ClassId × FieldType)) (ws : va_W) (U : State) : Prop := rdP D tys ws U ∧ NX U
theorem rdX_blind {D : va_G} {tys : List (ClassId × FieldType)} {ws : va_W} {av : List Value} : FrameBlind (va_Pc av (rdX D tys ws)) := by
  intro a U g mk h
  obtain ⟨e, hP, hX⟩ := h
  exact ⟨e, (rd_blind a U g mk ⟨e, hP⟩).2, hX.calling⟩
theorem rdX_pre {D : va_G} {tys : List (ClassId × FieldType)} {ws : va_W} {av : List Value} {s : State} {H : Heap} (hP : va_P D vwCl ws H) (hK : va_K D vwCl tys s) (hN : NW s) (hX : NX s) (hs : H = s.heap) : ∀ U : State, U.heap = H → s.WarmedH U.vm → va_Pc av (rdX D tys ws) av.toArray U :=
  fun U hU hW => ⟨rfl, (rd_pre (av := av) hP hK hN U hU hW).2, hX.move (by rw [hU, hs]) hW⟩
theorem nx_blind {av : List Value} : FrameBlind (va_Pc av NX) := by
  intro a U g mk h
  obtain ⟨e, hX⟩ := h
  exact ⟨e, hX.calling⟩
theorem nx_pre {av : List Value} {s : State} (hX : NX s) : ∀ U : State, U.heap = s.heap → s.WarmedH U.vm → va_Pc av NX av.toArray U := fun U hU hW => ⟨rfl, hX.move hU hW⟩
section XX
variable {p : Program} {l : Launch} {e : Env} {R : Room} {s : State} {m : MethodId} {args : Array Value} {below : List Frame} {meth : Method} {c : Code} {pc : Nat} {ls : Array Slot} {st0 rest : List Value} {E : String} {a : Array Value}
theorem xx_pass (htab : ∀ x ∈ c.exceptionTable.toList, False) (hlocks : meth.locks = false) (hr : vx_Run p l e R s m args below meth c s.heap [] 0 0 1 6 (F0 m pc ls st0) rest (xQc a) (xXC E) (fun _ => False)) : W p l e R s m args below meth c s.heap [] 0 0 (vx_MQ below xQc (xXC E) args s 1 6 (fun _ => False)) (F0 m pc ls st0) := by
  intro T hT X
  rcases hr T hT X with ⟨v, st₀, t, T', L, h0, X', hL, e1, e2, hq, st⟩ | ⟨q, st₀, t, T', L, E', ce, h0, X', hL, e1, e2, ⟨hE, hF⟩, hce, hcv, hcl, st⟩
  · exact hq.elim
  · subst hE
    have hnil : L = [] := by
      cases L with
      | nil => rfl
      | cons y ys => exact (hL y List.mem_cons_self).elim
    subst hnil
    obtain ⟨t2, a1, b1⟩ := vx_out (Qc := xQc) (XC := xXC E') (mc := 1) (ms := 6) (free := fun _ => False) (fun x hx => (htab x hx).elim) hlocks (by rw [e1]; exact hce) hcv hcl
      (fun t' ht _ => ⟨rfl, by rw [ht, e1, ← h0]; exact hF.1, fun y hy hn => by rw [ht, e1, ← h0]; exact hF.2 y (by rw [h0]; exact hy) hn⟩) (fun z hz => by cases hz) (Nat.le_refl _) (Nat.le_refl _) T' rfl X'
    exact ⟨t2, st.trans a1, b1⟩
theorem xx_throw {cc : ByteArray} {ik is ic : Nat} {cls text : String} (hX : NX s) (htab : ∀ x ∈ c.exceptionTable.toList, False) (hlocks : meth.locks = false) (hexec : p.tables.exec = Jvm.exec) (hb : c.code = cc) (hl : l.stackTraces = false)
    (hown : s.vm.findClass RX4 = some m.cls) (hcls : Bundle.fit cls = true) (hk : (Cond.classLink RX4 ik cls).before args s = true) (hini : (Cond.initialized cls).before args s = true) (hstr : (is, text) ∈ xTx)
    (hat : ∀ w ∈ vx_atS RX4 ic cls ["java/lang/RuntimeException", "java/lang/Exception"], w.before args s = true) (hgood : ∀ w ∈ Cond.classLink RX4 ik cls :: Cond.initialized cls :: vx_atS RX4 ic cls ["java/lang/RuntimeException", "java/lang/Exception"], vx_ot w = true) (hsize : ls.size = c.maxLocals)
    (d0 : decode cc pc = .ok (.new ik, 3)) (d3 : decode cc (pc + 3) = .ok (.dup, 1)) (d4 : decode cc (pc + 4) = .ok (.ldc is, 2)) (d6 : decode cc (pc + 6) = .ok (.invokespecial ic, 3)) (d9 : decode cc (pc + 9) = .ok (.athrow, 1))
    (hRf : 5 < R.frames) (hRl : 82 ≤ R.locals) (hRc : 1 ≤ R.cells) (hRs : 6 ≤ R.slots) : W p l e R s m args below meth c s.heap [] 0 0 (vx_MQ below xQc (xXC cls) args s 1 6 (fun _ => False)) (F0 m pc ls []) := by
  obtain ⟨sa, hsa⟩ := hX.2.2.2 _ hstr
  exact vx_throwS (names := ["java/lang/RuntimeException", "java/lang/Exception"]) (A := fun _ => False) hexec hb hl hown hcls (by decide +kernel) hk hini hsa hat hgood hX.1.1 hX.1.2 va_S.rf hsize d0 d3 d4 d6 d9 (fun x hx => (htab x hx).elim) hRf (by show 0 + 82 ≤ R.locals; omega) (by omega) (by omega) hlocks
    (fun t _ h1 h2 => ⟨rfl, h1, fun q hq _ => h2 q hq⟩) (fun z hz => by cases hz) (Nat.le_refl _) (Nat.le_refl _)
end XX
theorem inB_n {x : Int32} {N : Nat} (hN : N < 2 ^ 31) (h0 : ¬ x < 0) (h : x < nI (N + 1)) (hN1 : N + 1 < 2 ^ 31) : inB x 0 (nI N) = true := by
  unfold inB
  rw [decide_eq_true (Int32.not_lt.mp h0), Bool.true_and, decide_eq_true_eq, Int32.le_iff_toInt_le, nI_toInt hN]
  rw [Int32.lt_iff_toInt_lt, nI_toInt hN1] at h
  omega
theorem inB_nn {x : Int32} {n : Nat} (hn : 1 ≤ n ∧ n ≤ 20) (h0 : ¬ x < 0) (h : x < nI n) : inB x 0 (nI n - 1) = true := by
  rw [g6m rfl hn.1]
  exact inB_n (by omega) h0 (by rw [show n - 1 + 1 = n by omega]; exact h) (by omega)
theorem inB_of {x a b : Int32} (h1 : ¬ x < a) (h2 : ¬ b < x) : inB x a b = true := by
  unfold inB
  rw [decide_eq_true (Int32.not_lt.mp h1), decide_eq_true (Int32.not_lt.mp h2)]; rfl
theorem inB_lo {x a b : Int32} (h : inB x a b = true) : ¬ x < a := by
  unfold inB at h
  rw [Bool.and_eq_true, decide_eq_true_eq, decide_eq_true_eq] at h
  exact Int32.not_lt.mpr h.1
theorem inB_le {x a b : Int32} (h : inB x a b = true) : x ≤ b := by
  unfold inB at h
  rw [Bool.and_eq_true, decide_eq_true_eq, decide_eq_true_eq] at h
  exact h.2
theorem inB_hi {x a b : Int32} (h : inB x a b = true) : ¬ b < x := Int32.not_lt.mpr (inB_le h)
theorem B2t {a b : Bool} (ha : a = true) (hb : b = true) : (a && b) = true := by rw [ha, hb]; rfl
theorem inB_05 {x : Int32} (h : inB x (-1) 5 = false) : inB x 0 5 = false := by
  cases c : inB x 0 5 with
  | false => rfl
  | true =>
    have h1 : inB x (-1) 5 = true := inB_of (fun hh => inB_lo c (Int32.lt_trans hh (by decide))) (inB_hi c)
    rw [h1] at h; cases h
theorem inB_nz {x v : Int32} {k : Nat} (hv : v = nI k) (hk : k ≤ 20) (h0 : ¬ x < 0) (h : x < v) : inB x 0 (v - 1) = true := by
  subst hv
  cases k with
  | zero => exact absurd h h0
  | succ k => exact inB_nn ⟨by omega, hk⟩ h0 h
