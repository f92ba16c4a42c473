/-! the class's mapping is the model's -/
theorem hasB_bt (s : Int32) {k : Nat} (hk : k < 32) : hasB s (nI k) = bt s k := by
  unfold hasB
  have h0 : bt ((s >>> (nI k &&& 31)) &&& 1) 0 = bt s k := by
    rw [b_and, b_sshr k hk s (by decide), if_pos (by omega)]
    show (bt s k && bt 1 0) = _
    rw [show bt 1 0 = true by decide, Bool.and_true]
  rcases and_one (s >>> (nI k &&& 31)) with h | h
  · rw [h] at h0 ⊢
    rw [← h0]; decide
  · rw [h] at h0 ⊢
    rw [← h0]; decide
theorem b_not (x : Int32) {i : Nat} (hi : i < 32) : bt (~~~x) i = !bt x i := by
  unfold bt; rw [Int32.toBitVec_not, BitVec.getLsbD_not, decide_eq_true hi, Bool.true_and]
theorem b_xm1 (x : Int32) {i : Nat} (hi : i < 32) : bt (x ^^^ (-1)) i = !bt x i := by rw [i_not, b_not x hi]
theorem b_1shl {q i : Nat} (hq : q < 32) (hi : i < 32) : bt ((1 : Int32) <<< (nI q &&& 31)) i = decide (i = q) := by
  rw [b_shl q hq 1 hi]
  by_cases c : i = q
  · subst c; rw [Nat.sub_self, decide_eq_true (Nat.le_refl _), decide_eq_true rfl]; decide
  · rw [decide_eq_false c]
    by_cases d : q ≤ i
    · have e : bt 1 (i - q) = false := by
        have h := (by decide +kernel : ∀ j, j < 32 → 0 < j → bt 1 j = false) (i - q) (by omega) (by omega)
        exact h
      rw [e, Bool.and_false]
    · rw [decide_eq_false d, Bool.false_and]
theorem ftL_bt {q : Nat} (hq : q < 8) (nm : Int32) {p : Nat} (hp : p < 8) : bt (ftL (nI q) nm) p = (!bt nm p && !decide (p = q)) := by
  unfold ftL
  rw [b_and, b_and, b_255, b_xm1 _ (by omega), b_xm1 _ (by omega), b_1shl (by omega) (by omega), decide_eq_true hp, Bool.true_and]
def agr8 (f g : Nat → Int32) : Prop := ∀ p, p < 8 → f p = g p
theorem comm_cg {f g : Nat → Int32} (h : agr8 f g) (s : Int32) : ∀ k, k ≤ 8 → comm f s k = comm g s k := by
  intro k
  induction k with
  | zero => intro _; rfl
  | succ k ih =>
    intro hk
    show comm f s k &&& (if hasB s (nI k) = true then f k else 7) = comm g s k &&& (if hasB s (nI k) = true then g k else 7)
    rw [ih (by omega), h k (by omega)]
theorem lossP_cg {f g V U : Nat → Int32} (h : agr8 f g) (h2 : agr8 V U) {p : Nat} (hp : p < 8) : lossP f V p = lossP g U p := by
  unfold lossP; rw [h p hp, h2 p hp]
theorem lossS_cg {f g V U : Nat → Int32} (h : agr8 f g) (h2 : agr8 V U) : ∀ k, k ≤ 8 → lossS f V k = lossS g U k := by
  intro k
  induction k with
  | zero => intro _; rfl
  | succ k ih =>
    intro hk
    show lossS f V k + lossP f V k = lossS g U k + lossP g U k
    rw [ih (by omega), lossP_cg h h2 (by omega)]
theorem wst_cg {f g V U : Nat → Int32} (h : agr8 f g) (h2 : agr8 V U) : ∀ k, k ≤ 8 → wst f V k = wst g U k := by
  intro k
  induction k with
  | zero => intro _; rfl
  | succ k ih =>
    intro hk
    show (if lossP f V k ≤ lossP f V (wst f V k) then wst f V k else k) = (if lossP g U k ≤ lossP g U (wst g U k) then wst g U k else k)
    rw [ih (by omega), lossP_cg h h2 (by omega), lossP_cg h h2 (wst_lt g U k (by omega))]
/-- the persons in the group gi, none for no group -/
def mmC (F : Nat → Nat → Int32) (gi : Int32) : Int32 := if gi = -1 then 0 else mMm F gi
section EQ
variable {F : Nat → Nat → Int32} {he own : Nat → Int32} {gi nm : Int32} {q : Nat}
theorem ftG_eq (nm : Int32) : ftL (nI q) nm &&& mmC F gi = ftG (mMm F gi) gi (nI q) nm := by
  unfold mmC ftG
  split
  · rw [i_comm, i_0and]
  · exact i_comm _ _
theorem gb_eq (h : agr8 he own) : cGB he (mmC F gi) (nI q) nm = ftGB own (mMm F gi) gi (nI q) nm := by
  unfold cGB ftGB
  rw [ftG_eq, comm_cg h _ 8 (by decide)]
theorem obL_eq : ftL (nI q) nm &&& (mmC F gi ^^^ (-1)) = ftL (nI q) nm &&& (ftG (mMm F gi) gi (nI q) nm ^^^ (-1)) := by
  rw [← ftG_eq]
  apply b_ext
  intro i hi
  rw [b_and, b_and, b_xm1 _ hi, b_xm1 _ hi, b_and]
  cases bt (ftL (nI q) nm) i <;> cases bt (mmC F gi) i <;> rfl
theorem ob_eq (h : agr8 he own) : cOB he (mmC F gi) (nI q) nm = ftOB own (mMm F gi) gi (nI q) nm := by
  unfold cOB ftOB
  rw [obL_eq, comm_cg h _ 8 (by decide)]
theorem v_eq (h : agr8 he own) (hq : q < 8) (h7 : own q = 7) : agr8 (cV he (mmC F gi) (nI q) nm) (ftV own (mMm F gi) gi (nI q) nm) := by
  intro p hp
  unfold cV ftV
  rw [gb_eq h, ob_eq h, hasB_bt _ (show p < 32 by omega), hasB_bt _ (show p < 32 by omega), hasB_bt _ (show p < 32 by omega), hasB_bt _ (show p < 32 by omega), ftL_bt hq nm hp, ← ftG_eq, b_and, ftL_bt hq nm hp]
  by_cases c : p = q
  · subst c
    rw [decide_eq_true rfl, if_pos rfl, if_neg (by cases bt nm p <;> decide), h p hp, h7]
  · rw [if_neg (fun e => c ((nI_eq (by omega) (by omega)).mp e)), decide_eq_false c]
    cases bt nm p with
    | true => rw [if_neg (by decide), if_pos rfl, h p hp]
    | false =>
      cases bt (mmC F gi) p <;> simp
theorem l_eq (h : agr8 he own) (hq : q < 8) (h7 : own q = 7) (nm : Int32) : cLoss he (mmC F gi) (nI q) nm = ftLoss own (mMm F gi) gi (nI q) nm := lossS_cg h (v_eq h hq h7) 8 (by decide)
theorem n_eq (h : agr8 he own) (hq : q < 8) (h7 : own q = 7) : ∀ k, cNm he (mmC F gi) (nI q) k = mNm own (mMm F gi) gi (nI q) k := by
  intro k
  induction k with
  | zero => rfl
  | succ k ih =>
    show (if cLoss he (mmC F gi) (nI q) (cNm he (mmC F gi) (nI q) k) ≤ 0 then cNm he (mmC F gi) (nI q) k else cNm he (mmC F gi) (nI q) k ||| ((1 : Int32) <<< (nI (wst he (cV he (mmC F gi) (nI q) (cNm he (mmC F gi) (nI q) k)) 8) &&& 31))) = (if ftLoss own (mMm F gi) gi (nI q) (mNm own (mMm F gi) gi (nI q) k) ≤ 0 then mNm own (mMm F gi) gi (nI q) k else mNm own (mMm F gi) gi (nI q) k ||| ((1 : Int32) <<< (nI (wst own (ftV own (mMm F gi) gi (nI q) (mNm own (mMm F gi) gi (nI q) k)) 8) &&& 31)))
    rw [ih, l_eq h hq h7, wst_cg h (v_eq h hq h7) 8 (by decide)]
end EQ
/-- the model's mapping doesn't look at what the array held -/
def o0 : Nat → Int32 := fun _ => 0
theorem own_agr (F : Nat → Nat → Int32) (ow : Nat → Int32) (y : Nat) : agr8 (fun p => mRights F p y) (mOwn F ow y) := fun p hp => by
  unfold mOwn; rw [fillA_get, if_pos hp]
theorem agr8.symm {f g : Nat → Int32} (h : agr8 f g) : agr8 g f := fun p hp => (h p hp).symm
theorem agr8.trans {f g k : Nat → Int32} (h : agr8 f g) (h2 : agr8 g k) : agr8 f k := fun p hp => (h p hp).trans (h2 p hp)
section OW
variable {F : Nat → Nat → Int32} {ow : Nat → Int32} {y q : Nat}
theorem own7 (hq : F 4 y = nI q) (h8 : q < 8) : mOwn F ow y q = 7 := by
  unfold mOwn; rw [fillA_get, if_pos h8]; exact if_pos hq
theorem ftV_cg {f g : Nat → Int32} (h : agr8 f g) (mm gi o nm : Int32) : agr8 (ftV f mm gi o nm) (ftV g mm gi o nm) := by
  intro p hp
  unfold ftV ftGB ftOB
  rw [comm_cg h _ 8 (by decide), comm_cg h _ 8 (by decide), h p hp]
theorem mNm_cg {f g : Nat → Int32} (h : agr8 f g) (mm gi o : Int32) : ∀ k, mNm f mm gi o k = mNm g mm gi o k := by
  intro k
  induction k with
  | zero => rfl
  | succ k ih =>
    have e1 : ∀ nm, ftLoss f mm gi o nm = ftLoss g mm gi o nm := fun nm => lossS_cg h (ftV_cg h mm gi o nm) 8 (by decide)
    show (if ftLoss f mm gi o (mNm f mm gi o k) ≤ 0 then mNm f mm gi o k else mNm f mm gi o k ||| ((1 : Int32) <<< (nI (wst f (ftV f mm gi o (mNm f mm gi o k)) 8) &&& 31))) = (if ftLoss g mm gi o (mNm g mm gi o k) ≤ 0 then mNm g mm gi o k else mNm g mm gi o k ||| ((1 : Int32) <<< (nI (wst g (ftV g mm gi o (mNm g mm gi o k)) 8) &&& 31)))
    rw [ih, e1, wst_cg h (ftV_cg h mm gi o _) 8 (by decide)]
theorem own_any (F : Nat → Nat → Int32) (ow : Nat → Int32) (y : Nat) : agr8 (mOwn F ow y) (mOwn F o0 y) := (own_agr F ow y).symm.trans (own_agr F o0 y)
theorem mN_any (gi : Int32) : mN F ow y gi = mN F o0 y gi := mNm_cg (own_any F ow y) _ _ _ _
theorem mL_any (gi : Int32) : mL F ow y gi = mL F o0 y gi := by
  unfold mL; rw [mN_any]; exact lossS_cg (own_any F ow y) (ftV_cg (own_any F ow y) _ _ _ _) 8 (by decide)
theorem mGB_any (gi : Int32) : mGB F ow y gi = mGB F o0 y gi := by
  unfold mGB ftGB; rw [mN_any]; exact comm_cg (own_any F ow y) _ 8 (by decide)
theorem mOB_any (gi : Int32) : mOB F ow y gi = mOB F o0 y gi := by
  unfold mOB ftOB; rw [mN_any]; exact comm_cg (own_any F ow y) _ 8 (by decide)
theorem mV_any (gi : Int32) : agr8 (mV F ow y gi) (mV F o0 y gi) := by
  unfold mV; rw [mN_any]; exact ftV_cg (own_any F ow y) _ _ _ _
theorem mB_any : ∀ k, mB F ow y k = mB F o0 y k := by
  intro k
  induction k with
  | zero => show ((-1 : Int32), mL F ow y (-1)) = (-1, mL F o0 y (-1)); rw [mL_any]
  | succ k ih =>
    show (if (mB F ow y k).2 ≤ mL F ow y (nI k) then mB F ow y k else (nI k, mL F ow y (nI k))) = (if (mB F o0 y k).2 ≤ mL F o0 y (nI k) then mB F o0 y k else (nI k, mL F o0 y (nI k)))
    rw [ih, mL_any]
theorem mBest_any : mBest F ow y = mBest F o0 y := by unfold mBest; rw [mB_any]
/-- the class's numbers of one group, from what it holds -/
theorem cN_is {he : Nat → Int32} {gi : Int32} (h : agr8 he (fun p => mRights F p y)) (hq : F 4 y = nI q) (h8 : q < 8) : cNm he (mmC F gi) (nI q) 3 = mN F o0 y gi := by
  unfold mN; rw [hq]; exact n_eq (h.trans (own_agr F o0 y)) h8 (own7 hq h8) 3
theorem cG_is {he : Nat → Int32} {gi : Int32} (h : agr8 he (fun p => mRights F p y)) (hq : F 4 y = nI q) : cGB he (mmC F gi) (nI q) (mN F o0 y gi) = mGB F o0 y gi := by
  unfold mGB; rw [hq]; exact gb_eq (h.trans (own_agr F o0 y))
theorem cO_is {he : Nat → Int32} {gi : Int32} (h : agr8 he (fun p => mRights F p y)) (hq : F 4 y = nI q) : cOB he (mmC F gi) (nI q) (mN F o0 y gi) = mOB F o0 y gi := by
  unfold mOB; rw [hq]; exact ob_eq (h.trans (own_agr F o0 y))
theorem cL_is {he : Nat → Int32} {gi : Int32} (h : agr8 he (fun p => mRights F p y)) (hq : F 4 y = nI q) (h8 : q < 8) : cLoss he (mmC F gi) (nI q) (mN F o0 y gi) = mL F o0 y gi := by
  unfold mL; rw [hq]; exact l_eq (h.trans (own_agr F o0 y)) h8 (own7 hq h8) _
theorem cV_is {he : Nat → Int32} {gi : Int32} (h : agr8 he (fun p => mRights F p y)) (hq : F 4 y = nI q) (h8 : q < 8) : agr8 (cV he (mmC F gi) (nI q) (mN F o0 y gi)) (mV F o0 y gi) := by
  unfold mV; rw [hq]; exact v_eq (h.trans (own_agr F o0 y)) h8 (own7 hq h8)
theorem fillA_cg {A V U : Nat → Int32} (h : agr8 V U) : fillA A V 8 = fillA A U 8 := by
  funext j
  rw [fillA_get, fillA_get]
  by_cases c : j < 8
  · rw [if_pos c, if_pos c, h j c]
  · rw [if_neg c, if_neg c]
end OW
/-! rights are three bits -/
theorem or7 {x y : Int32} (hx : ∃ j, j < 8 ∧ x = nI j) (hy : ∃ j, j < 8 ∧ y = nI j) : ∃ j, j < 8 ∧ x ||| y = nI j := by
  obtain ⟨j, hj, rfl⟩ := hx
  obtain ⟨k, hk, rfl⟩ := hy
  have e : (nI j ||| nI k) = (nI j ||| nI k) &&& 7 := by
    exact (by decide +kernel : ∀ j : Fin 8, ∀ k : Fin 8, (nI j.val ||| nI k.val) = (nI j.val ||| nI k.val) &&& 7) ⟨j, hj⟩ ⟨k, hk⟩
  rw [e]
  obtain ⟨i, hi, ei⟩ := pk_andE (nI j ||| nI k) (m := 7) 3 (by decide)
  exact ⟨i, by omega, ei⟩
theorem mRow7 {F : Nat → Nat → Int32} {n p f a : Nat} (hE : okE F n) (ha : a < n) : ∀ (k : Nat) (s : Int32 × Int32), k ≤ i2n (F 6 a) → (∃ j, j < 8 ∧ s.1 = nI j) → ∃ j, j < 8 ∧ (mRow F p f a k s).1 = nI j := by
  intro k
  induction k with
  | zero => intro s _ h; exact h
  | succ k ih =>
    intro s hk h
    have h1 := ih s (by omega) h
    show ∃ j, j < 8 ∧ (mStep F p f a k (mRow F p f a k s)).1 = nI j
    unfold mStep
    split
    · exact h1
    · split
      · refine or7 h1 ?_
        split
        · exact ⟨0, by decide, rfl⟩
        · exact and7 (hE a k ha (by omega)) _
      · exact h1
theorem mChain7 {F : Nat → Nat → Int32} {n p f : Nat} (hM : okC F n) (hE : okE F n) : ∀ (m a : Nat) (s : Int32 × Int32), a < n → (∃ j, j < 8 ∧ s.1 = nI j) → ∃ j, j < 8 ∧ mChain F p f m a s = nI j := by
  intro m
  induction m with
  | zero => intro a s _ h; exact h
  | succ m ih =>
    intro a s ha h
    have h1 := mRow7 (p := p) (f := f) hE ha (i2n (F 6 a)) s (Nat.le_refl _) h
    show ∃ j, j < 8 ∧ (if F 5 a = 0 then (mRow F p f a (i2n (F 6 a)) s).1 else if F 3 a = -1 then (mRow F p f a (i2n (F 6 a)) s).1 else mChain F p f m (i2n (F 3 a)) (mRow F p f a (i2n (F 6 a)) s)) = nI j
    by_cases c : F 5 a = 0
    · rw [if_pos c]; exact h1
    · rw [if_neg c]
      by_cases d : F 3 a = -1
      · rw [if_pos d]; exact h1
      · rw [if_neg d]
        exact ih _ _ (by have := (hM.par ha d).2; omega) h1
theorem mR7 {F : Nat → Nat → Int32} {n p f : Nat} (hM : okC F n) (hE : okE F n) (hf : f < n) : ∃ j, j < 8 ∧ mRights F p f = nI j := by
  unfold mRights
  split
  · exact ⟨7, by decide, rfl⟩
  · exact mChain7 hM hE _ _ _ hf ⟨0, by decide, rfl⟩
/-- what a method leaves behind in the class's pool -/
def PB (D : va_G) (cI cO : ClassId) (L : List Nat) (tg : Nat → Nat) (AD : Nat → Nat → Nat) (mc : Nat → Int32) (F : Nat → Nat → Int32) (ik kp tu : Nat → Int32) (n : Nat) (he gv : Nat → Int32) (gp gb ob nm lo : Int32) (t : State) : Prop :=
  ∃ f, va_P D vwCl (va_pl L f) t.heap ∧ Rep cI cO L f tg AD mc F ik kp tu n he gv gp gb ob nm lo
section PC
variable {D : va_G} {cI cO : ClassId} {L : List Nat} {f : Nat → va_E} {tg : Nat → Nat} {AD : Nat → Nat → Nat} {mc mc' : Nat → Int32} {F F' : Nat → Nat → Int32} {ik kp tu ik' kp' tu' : Nat → Int32} {n n' : Nat} {he gv he' gv' : Nat → Int32} {gp gb ob nm lo gp' gb' ob' nm' lo' : Int32} {A : Nat → Prop} {H : Heap}
theorem Rep.cg (h : Rep cI cO L f tg AD mc F ik kp tu n he gv gp gb ob nm lo) (e1 : mc = mc') (e2 : F = F') (e3 : ik = ik') (e4 : kp = kp') (e5 : tu = tu') (e6 : n = n') (e7 : he = he') (e8 : gv = gv') (e9 : gp = gp') (e10 : gb = gb') (e11 : ob = ob') (e12 : nm = nm') (e13 : lo = lo') : Rep cI cO L f tg AD mc' F' ik' kp' tu' n' he' gv' gp' gb' ob' nm' lo' := by
  subst e1; subst e2; subst e3; subst e4; subst e5; subst e6; subst e7; subst e8; subst e9; subst e10; subst e11; subst e12; subst e13; exact h
def mpA (AD : Nat → Nat → Nat) : Nat → Prop := fun q => q = AD 0 5 ∨ q = AD 0 6 ∨ q = AD 0 7
theorem Rep.mpAp (h : Rep cI cO L f tg AD mc F ik kp tu n he gv gp gb ob nm lo) : apD 3 (mpA AD) (fun k => AD 0 (k + 5)) := by
  have t := h.2.2.2.2.1
  refine ⟨fun i j hi hj e => ?_, fun j hj => ?_⟩
  · have a := t (i + 5) (by omega)
    have b := t (j + 5) (by omega)
    have e' : AD 0 (i + 5) = AD 0 (j + 5) := e
    rw [e', b] at a; omega
  · rcases (show j = 0 ∨ j = 1 ∨ j = 2 by omega) with rfl | rfl | rfl
    · exact Or.inl rfl
    · exact Or.inr (Or.inl rfl)
    · exact Or.inr (Or.inr rfl)
theorem Rep.mpSub (h : Rep cI cO L f tg AD mc F ik kp tu n he gv gp gb ob nm lo) (hA : ∀ a, a ∈ L → A a) {q : Nat} (hq : mpA AD q) : A q := by
  rcases hq with rfl | rfl | rfl
  · exact hA _ h.mo.1
  · exact hA _ h.mh.1
  · exact hA _ h.mg.1
theorem Rep.mpP (h : Rep cI cO L f tg AD mc F ik kp tu n he gv gp gb ob nm lo) (hP : va_P D vwCl (va_pl L f) H) : va_P D vwCl (mpW cI (fun k => AD 0 (k + 5)) he gv gp gb ob nm lo) H := by
  refine va_P_in hP ?_
  intro q hq
  simp only [List.mem_cons, List.not_mem_nil, or_false] at hq
  rcases hq with rfl | rfl | rfl
  · exact h.mo.mem
  · exact h.mh.mem
  · exact h.mg.mem
end PC
theorem grp6 {gi : Int32} (h : gi = -1 ∨ ∃ k, k < 6 ∧ gi = nI k) (c : ¬ gi = -1) : i2n gi < 6 := by
  rcases h with h | ⟨k, hk, h⟩
  · exact absurd h c
  · rw [h, i2n_nI (by omega)]; exact hk
theorem mB_t {F : Nat → Nat → Int32} {ow : Nat → Int32} {x k : Nat} (c : (mB F ow x k).2 ≤ mL F ow x (nI k)) : mB F ow x (k + 1) = mB F ow x k := if_pos c
theorem mB_f {F : Nat → Nat → Int32} {ow : Nat → Int32} {x k : Nat} (c : ¬ (mB F ow x k).2 ≤ mL F ow x (nI k)) : mB F ow x (k + 1) = (nI k, mL F ow x (nI k)) := if_neg c
