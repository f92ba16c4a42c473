/-! the model's mapping -/
def fillA (old v : Nat → Int32) : Nat → (Nat → Int32)
  | 0 => old
  | k + 1 => upd (fillA old v k) k (v k)
theorem fillA_get (old v : Nat → Int32) : ∀ (n j : Nat), fillA old v n j = if j < n then v j else old j := by
  intro n
  induction n with
  | zero => intro j; rw [if_neg (Nat.not_lt_zero _)]; rfl
  | succ n ih =>
    intro j
    show upd (fillA old v n) n (v n) j = _
    by_cases h : j = n
    · subst h; rw [pk_us, if_pos (Nat.lt_succ_self _)]
    · rw [pk_un h, ih j]
      by_cases h2 : j < n
      · rw [if_pos h2, if_pos (by omega)]
      · rw [if_neg h2, if_neg (by omega)]
theorem fillA_fillA (a v w : Nat → Int32) (n : Nat) : fillA (fillA a v n) w n = fillA a w n := by
  funext j
  rw [fillA_get, fillA_get, fillA_get]
  by_cases h : j < n
  · rw [if_pos h, if_pos h]
  · rw [if_neg h, if_neg h, if_neg h]
def lossP (own val : Nat → Int32) (p : Nat) : Int32 := sizeI (own p &&& (val p ^^^ (-1))) 8
def lossS (own val : Nat → Int32) : Nat → Int32
  | 0 => 0
  | k + 1 => lossS own val k + lossP own val k
def ftL (o nm : Int32) : Int32 := (255 &&& (nm ^^^ (-1))) &&& (((1 : Int32) <<< (o &&& 31)) ^^^ (-1))
def ftG (mm gi o nm : Int32) : Int32 := if gi = -1 then 0 else mm &&& ftL o nm
def ftGB (own : Nat → Int32) (mm gi o nm : Int32) : Int32 := comm own (ftG mm gi o nm) 8
def ftOB (own : Nat → Int32) (mm gi o nm : Int32) : Int32 := comm own (ftL o nm &&& (ftG mm gi o nm ^^^ (-1))) 8
def ftV (own : Nat → Int32) (mm gi o nm : Int32) (p : Nat) : Int32 := if nI p = o then 7 else if hasB nm (nI p) = true then own p else if hasB (ftG mm gi o nm) (nI p) = true then ftGB own mm gi o nm else ftOB own mm gi o nm
def ftLoss (own : Nat → Int32) (mm gi o nm : Int32) : Int32 := lossS own (ftV own mm gi o nm) 8
theorem grp_nat {gi : Int32} (h : gi = -1 ∨ ∃ k, k < 6 ∧ gi = nI k) (c : ¬ gi = -1) : gi = nI (i2n gi) := by
  rcases h with h | ⟨k, hk, h⟩
  · exact absurd h c
  · exact of_nI h (by omega)
/-- the person with the greatest loss among the first ones, the lowest of several -/
def wst (own val : Nat → Int32) : Nat → Nat
  | 0 => 0
  | k + 1 => if lossP own val k ≤ lossP own val (wst own val k) then wst own val k else k
theorem wst_lt (own val : Nat → Int32) : ∀ n, n ≤ 8 → wst own val n < 8 := by
  intro n
  induction n with
  | zero => intro _; show 0 < 8; decide
  | succ n ih =>
    intro h
    show (if _ then _ else _) < 8
    split
    · exact ih (by omega)
    · omega
theorem wst_1 (own val : Nat → Int32) : wst own val 1 = 0 := if_pos (Int32.le_refl _)
theorem wst_c {A own V : Nat → Int32} {i : Nat} (h : i < 8) : sizeI (own i &&& (fillA A V 8 i ^^^ (-1))) 8 = lossP own V i := by
  rw [fillA_get, if_pos h]; rfl
theorem wst_le {A own V : Nat → Int32} {i : Nat} (h : i < 8) (c : sizeI (own i &&& (fillA A V 8 i ^^^ (-1))) 8 ≤ sizeI (own (wst own V i) &&& (fillA A V 8 (wst own V i) ^^^ (-1))) 8) : nI (wst own V i) = nI (wst own V (i + 1)) := by
  rw [wst_c h, wst_c (wst_lt own V i (by omega))] at c
  rw [show wst own V (i + 1) = wst own V i from if_pos c]
theorem wst_gt {A own V : Nat → Int32} {i : Nat} (h : i < 8) (c : ¬ sizeI (own i &&& (fillA A V 8 i ^^^ (-1))) 8 ≤ sizeI (own (wst own V i) &&& (fillA A V 8 (wst own V i) ^^^ (-1))) 8) : nI i = nI (wst own V (i + 1)) := by
  rw [wst_c h, wst_c (wst_lt own V i (by omega))] at c
  rw [show wst own V (i + 1) = i from if_neg c]
/-- who is named after some rounds -/
def mNm (own : Nat → Int32) (mm gi o : Int32) : Nat → Int32
  | 0 => 0
  | k + 1 => if ftLoss own mm gi o (mNm own mm gi o k) ≤ 0 then mNm own mm gi o k else mNm own mm gi o k ||| ((1 : Int32) <<< (nI (wst own (ftV own mm gi o (mNm own mm gi o k)) 8) &&& 31))
theorem mNm_s {own : Nat → Int32} {mm gi o : Int32} {k : Nat} (c : ¬ ftLoss own mm gi o (mNm own mm gi o k) ≤ 0) : mNm own mm gi o (k + 1) = mNm own mm gi o k ||| ((1 : Int32) <<< (nI (wst own (ftV own mm gi o (mNm own mm gi o k)) 8) &&& 31)) := if_neg c
theorem mNm_stop {own : Nat → Int32} {mm gi o : Int32} {k : Nat} (c : ftLoss own mm gi o (mNm own mm gi o k) ≤ 0) : ∀ d, mNm own mm gi o (k + d) = mNm own mm gi o k := by
  intro d
  induction d with
  | zero => rfl
  | succ d ih =>
    show (if _ then _ else _) = _
    rw [Nat.add_eq, ih, if_pos c]
theorem mNm_3 {own : Nat → Int32} {mm gi o : Int32} {k : Nat} (hk : k ≤ 3) (c : ftLoss own mm gi o (mNm own mm gi o k) ≤ 0) : mNm own mm gi o 3 = mNm own mm gi o k := by
  have h := mNm_stop c (3 - k)
  rwa [show k + (3 - k) = 3 by omega] at h
def mOwn (F : Nat → Nat → Int32) (ow : Nat → Int32) (x : Nat) : Nat → Int32 := fillA ow (fun p => mRights F p x) 8
theorem mOwn_again (F : Nat → Nat → Int32) (ow : Nat → Int32) (x : Nat) : mOwn F (mOwn F ow x) x = mOwn F ow x := fillA_fillA _ _ _ _
def mMm (F : Nat → Nat → Int32) (gi : Int32) : Int32 := mMem F (i2n gi)
/-- of the folder x with the group gi: who is named, the bits, the rights, the loss -/
def mN (F : Nat → Nat → Int32) (ow : Nat → Int32) (x : Nat) (gi : Int32) : Int32 := mNm (mOwn F ow x) (mMm F gi) gi (F 4 x) 3
def mGB (F : Nat → Nat → Int32) (ow : Nat → Int32) (x : Nat) (gi : Int32) : Int32 := ftGB (mOwn F ow x) (mMm F gi) gi (F 4 x) (mN F ow x gi)
def mOB (F : Nat → Nat → Int32) (ow : Nat → Int32) (x : Nat) (gi : Int32) : Int32 := ftOB (mOwn F ow x) (mMm F gi) gi (F 4 x) (mN F ow x gi)
def mV (F : Nat → Nat → Int32) (ow : Nat → Int32) (x : Nat) (gi : Int32) : Nat → Int32 := ftV (mOwn F ow x) (mMm F gi) gi (F 4 x) (mN F ow x gi)
def mL (F : Nat → Nat → Int32) (ow : Nat → Int32) (x : Nat) (gi : Int32) : Int32 := ftLoss (mOwn F ow x) (mMm F gi) gi (F 4 x) (mN F ow x gi)
theorem mN_again (F : Nat → Nat → Int32) (ow : Nat → Int32) (x : Nat) (gi : Int32) : mN F (mOwn F ow x) x gi = mN F ow x gi := by unfold mN; rw [mOwn_again]
theorem mGB_again (F : Nat → Nat → Int32) (ow : Nat → Int32) (x : Nat) (gi : Int32) : mGB F (mOwn F ow x) x gi = mGB F ow x gi := by unfold mGB; rw [mN_again, mOwn_again]
theorem mOB_again (F : Nat → Nat → Int32) (ow : Nat → Int32) (x : Nat) (gi : Int32) : mOB F (mOwn F ow x) x gi = mOB F ow x gi := by unfold mOB; rw [mN_again, mOwn_again]
theorem mV_again (F : Nat → Nat → Int32) (ow : Nat → Int32) (x : Nat) (gi : Int32) : mV F (mOwn F ow x) x gi = mV F ow x gi := by unfold mV; rw [mN_again, mOwn_again]
theorem mL_again (F : Nat → Nat → Int32) (ow : Nat → Int32) (x : Nat) (gi : Int32) : mL F (mOwn F ow x) x gi = mL F ow x gi := by unfold mL; rw [mN_again, mOwn_again]
/-- the best group among none and the first ones, and its loss -/
def mB (F : Nat → Nat → Int32) (ow : Nat → Int32) (x : Nat) : Nat → Int32 × Int32
  | 0 => (-1, mL F ow x (-1))
  | k + 1 => if (mB F ow x k).2 ≤ mL F ow x (nI k) then mB F ow x k else (nI k, mL F ow x (nI k))
def lastG : Nat → Int32
  | 0 => -1
  | k + 1 => nI k
theorem mB_ok (F : Nat → Nat → Int32) (ow : Nat → Int32) (x : Nat) : ∀ n, n ≤ 6 → (mB F ow x n).1 = -1 ∨ ∃ k, k < 6 ∧ (mB F ow x n).1 = nI k := by
  intro n
  induction n with
  | zero => intro _; exact Or.inl rfl
  | succ n ih =>
    intro h
    by_cases c : (mB F ow x n).2 ≤ mL F ow x (nI n)
    · have e : mB F ow x (n + 1) = mB F ow x n := if_pos c
      rw [e]; exact ih (by omega)
    · have e : mB F ow x (n + 1) = (nI n, mL F ow x (nI n)) := if_neg c
      rw [e]; exact Or.inr ⟨n, by omega, rfl⟩
theorem mB_1 (F : Nat → Nat → Int32) (ow : Nat → Int32) (x k : Nat) : (if (mB F ow x k).2 ≤ mL F ow x (nI k) then (mB F ow x k).1 else nI k) = (mB F ow x (k + 1)).1 := by
  show _ = (if _ then _ else _ : Int32 × Int32).1
  split <;> rfl
theorem mB_2 (F : Nat → Nat → Int32) (ow : Nat → Int32) (x k : Nat) : (if (mB F ow x k).2 ≤ mL F ow x (nI k) then (mB F ow x k).2 else mL F ow x (nI k)) = (mB F ow x (k + 1)).2 := by
  show _ = (if _ then _ else _ : Int32 × Int32).2
  split <;> rfl
def mBest (F : Nat → Nat → Int32) (ow : Nat → Int32) (x : Nat) : Int32 := (mB F ow x 6).1
