/-! the model's invariant and its rights -/
def okM (F : Nat → Nat → Int32) (g : Nat → Int32) (n : Nat) : Prop :=
  g 6 = nI n ∧ (1 ≤ n ∧ n ≤ 20) ∧ (∀ f, f < n → ∃ k, k ≤ 6 ∧ F 6 f = nI k) ∧ (∀ f, f < n → ∃ k, k < 8 ∧ F 4 f = nI k) ∧
  (∀ f, f < n → F 3 f = -1 ∨ ∃ k, k < f ∧ F 3 f = nI k) ∧ (∀ f k, f < n → k < i2n (F 6 f) → ∃ w, w < 14 ∧ F 7 (6 * f + k) = nI w)
theorem okM.len {F : Nat → Nat → Int32} {g : Nat → Int32} {n f : Nat} (h : okM F g n) (hf : f < n) : F 6 f = nI (i2n (F 6 f)) ∧ i2n (F 6 f) ≤ 6 := by
  obtain ⟨k, hk, e⟩ := h.2.2.1 f hf
  have e2 : i2n (F 6 f) = k := by rw [e, i2n_nI (by omega)]
  rw [e2]; exact ⟨e, hk⟩
theorem okM.own {F : Nat → Nat → Int32} {g : Nat → Int32} {n f : Nat} (h : okM F g n) (hf : f < n) : F 4 f = nI (i2n (F 4 f)) ∧ i2n (F 4 f) < 8 := by
  obtain ⟨k, hk, e⟩ := h.2.2.2.1 f hf
  have e2 : i2n (F 4 f) = k := by rw [e, i2n_nI (by omega)]
  rw [e2]; exact ⟨e, hk⟩
theorem okM.par {F : Nat → Nat → Int32} {g : Nat → Int32} {n f : Nat} (h : okM F g n) (hf : f < n) (hp : ¬ F 3 f = -1) : F 3 f = nI (i2n (F 3 f)) ∧ i2n (F 3 f) < f := by
  rcases h.2.2.2.2.1 f hf with e | ⟨k, hk, e⟩
  · exact absurd e hp
  · have hn := h.2.1.2
    have e2 : i2n (F 3 f) = k := by rw [e, i2n_nI (by omega)]
    rw [e2]; exact ⟨e, hk⟩
theorem okM.who {F : Nat → Nat → Int32} {g : Nat → Int32} {n f k : Nat} (h : okM F g n) (hf : f < n) (hk : k < i2n (F 6 f)) : ∃ w, w < 14 ∧ F 7 (6 * f + k) = nI w := h.2.2.2.2.2 f k hf hk
theorem sub8 {x : Int32} (hw : ∃ w, w < 14 ∧ x = nI w) (c : 8 ≤ x) : x - 8 = nI (i2n x - 8) := by
  obtain ⟨w, h, rfl⟩ := hw
  rw [i2n_nI (by omega)]
  have h8 : 8 ≤ w := (nI_leI (a := 8) (b := w) (by decide) (by omega)).mp c
  exact pk_sub (a := w) (b := 8) h8
def mFor (F : Nat → Nat → Int32) (k p : Nat) : Bool := if 8 ≤ F 7 k then hasB (mMem F (i2n (F 7 k) - 8)) (nI p) else decide (F 7 k = nI p)
def mCnt (F : Nat → Nat → Int32) (a f k : Nat) : Int32 := if nI a = nI f then (if F 10 k = 1 then 0 else 1) else (if F 10 k = 0 then 0 else 1)
def mStep (F : Nat → Nat → Int32) (p f a k : Nat) (s : Int32 × Int32) : Int32 × Int32 :=
  if mCnt F a f (6 * a + k) = 0 then s else if mFor F (6 * a + k) p = true then (s.1 ||| (if F 8 (6 * a + k) = 0 then 0 else F 9 (6 * a + k) &&& (s.2 ^^^ (-1))), s.2 ||| F 9 (6 * a + k)) else s
def mRow (F : Nat → Nat → Int32) (p f a : Nat) : Nat → Int32 × Int32 → Int32 × Int32
  | 0, s => s
  | k + 1, s => mStep F p f a k (mRow F p f a k s)
def mChain (F : Nat → Nat → Int32) (p f : Nat) : Nat → Nat → Int32 × Int32 → Int32
  | 0, _, s => s.1
  | n + 1, a, s => if F 5 a = 0 then (mRow F p f a (i2n (F 6 a)) s).1 else if F 3 a = -1 then (mRow F p f a (i2n (F 6 a)) s).1 else mChain F p f n (i2n (F 3 a)) (mRow F p f a (i2n (F 6 a)) s)
/-- the rights of the person p on the folder f, by the model -/
def mRights (F : Nat → Nat → Int32) (p f : Nat) : Int32 := if F 4 f = nI p then 7 else mChain F p f (f + 1) f (0, 0)
theorem mFor_if (F : Nat → Nat → Int32) (k p : Nat) : (if 8 ≤ F 7 k then b2i (hasB (mMem F (i2n (F 7 k) - 8)) (nI p)) else if F 7 k = nI p then (1 : Int32) else 0) = b2i (mFor F k p) := by
  unfold mFor
  by_cases c : 8 ≤ F 7 k
  · rw [if_pos c, if_pos c]
  · rw [if_neg c, if_neg c]; simp only [b2i, decide_eq_true_eq]
theorem mRow_1 (F : Nat → Nat → Int32) (p f a k : Nat) (s : Int32 × Int32) : (if mCnt F a f (6 * a + k) = 0 then (mRow F p f a k s).1 else if mFor F (6 * a + k) p = true then (mRow F p f a k s).1 ||| (if F 8 (6 * a + k) = 0 then 0 else F 9 (6 * a + k) &&& ((mRow F p f a k s).2 ^^^ (-1))) else (mRow F p f a k s).1) = (mRow F p f a (k + 1) s).1 := by
  show _ = (mStep F p f a k (mRow F p f a k s)).1
  unfold mStep
  split
  · rfl
  · split <;> rfl
theorem mRow_2 (F : Nat → Nat → Int32) (p f a k : Nat) (s : Int32 × Int32) : (if mCnt F a f (6 * a + k) = 0 then (mRow F p f a k s).2 else if mFor F (6 * a + k) p = true then (mRow F p f a k s).2 ||| F 9 (6 * a + k) else (mRow F p f a k s).2) = (mRow F p f a (k + 1) s).2 := by
  show _ = (mStep F p f a k (mRow F p f a k s)).2
  unfold mStep
  split
  · rfl
  · split <;> rfl
