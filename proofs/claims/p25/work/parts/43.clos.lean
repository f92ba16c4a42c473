/-! five rounds reach what six reach -/
def cnt6 (s : Int32) : Nat := (bt s 0).toNat + (bt s 1).toNat + (bt s 2).toNat + (bt s 3).toNat + (bt s 4).toNat + (bt s 5).toNat
def low6 (s : Int32) : Prop := ∀ i, 6 ≤ i → i < 32 → bt s i = false
def subI (s t : Int32) : Prop := ∀ i, i < 32 → bt s i = true → bt t i = true
theorem tn_le {a b : Bool} (h : a = true → b = true) : a.toNat ≤ b.toNat := by
  cases a <;> cases b <;> simp_all
theorem tn_eq {a b : Bool} (h : a.toNat = b.toNat) : a = b := by
  cases a <;> cases b <;> simp_all
theorem cnt_lt {s t : Int32} (hs : low6 s) (ht : low6 t) (h : subI s t) (hne : ¬ t = s) : cnt6 s < cnt6 t := by
  rcases Nat.lt_or_ge (cnt6 s) (cnt6 t) with q | q
  · exact q
  · exfalso
    apply hne
    unfold cnt6 at q
    have h0 := tn_le (h 0 (by decide)); have h1 := tn_le (h 1 (by decide)); have h2 := tn_le (h 2 (by decide))
    have h3 := tn_le (h 3 (by decide)); have h4 := tn_le (h 4 (by decide)); have h5 := tn_le (h 5 (by decide))
    apply b_ext
    intro i hi
    by_cases c : 6 ≤ i
    · rw [hs i c hi, ht i c hi]
    · have e0 := tn_eq (show (bt t 0).toNat = (bt s 0).toNat by omega)
      have e1 := tn_eq (show (bt t 1).toNat = (bt s 1).toNat by omega)
      have e2 := tn_eq (show (bt t 2).toNat = (bt s 2).toNat by omega)
      have e3 := tn_eq (show (bt t 3).toNat = (bt s 3).toNat by omega)
      have e4 := tn_eq (show (bt t 4).toNat = (bt s 4).toNat by omega)
      have e5 := tn_eq (show (bt t 5).toNat = (bt s 5).toNat by omega)
      rcases (show i = 0 ∨ i = 1 ∨ i = 2 ∨ i = 3 ∨ i = 4 ∨ i = 5 by omega) with rfl | rfl | rfl | rfl | rfl | rfl <;> assumption
theorem cnt_6 (s : Int32) : cnt6 s ≤ 6 := by
  unfold cnt6
  have h : ∀ b : Bool, b.toNat ≤ 1 := fun b => by cases b <;> decide
  have := h (bt s 0); have := h (bt s 1); have := h (bt s 2); have := h (bt s 3); have := h (bt s 4); have := h (bt s 5)
  omega
theorem gstep_sub (f : Nat → Int32) (s : Int32) : ∀ k, subI s (gstep f s k) := by
  intro k
  induction k with
  | zero => intro i _ h; exact h
  | succ k ih =>
    intro i hi h
    show bt (gstep f s k ||| (if hasB (gstep f s k) (nI k) = true then f k else 0)) i = true
    rw [b_or, ih i hi h, Bool.true_or]
theorem gstep_low {f : Nat → Int32} (hf : ∀ k, k < 6 → low6 (f k)) {s : Int32} (hs : low6 s) : ∀ k, k ≤ 6 → low6 (gstep f s k) := by
  intro k
  induction k with
  | zero => intro _; exact hs
  | succ k ih =>
    intro hk i h1 h2
    show bt (gstep f s k ||| (if hasB (gstep f s k) (nI k) = true then f k else 0)) i = false
    rw [b_or, ih (by omega) i h1 h2, Bool.false_or]
    split
    · exact hf k (by omega) i h1 h2
    · exact b_0 i
theorem grnds_low {f : Nat → Int32} (hf : ∀ k, k < 6 → low6 (f k)) {s : Int32} (hs : low6 s) : ∀ r, low6 (grnds f s r) := by
  intro r
  induction r with
  | zero => exact hs
  | succ r ih => exact gstep_low hf ih 6 (by decide)
theorem grnds_6 {f : Nat → Int32} (hf : ∀ k, k < 6 → low6 (f k)) {x : Nat} (hx : x < 6) : grnds f ((1 : Int32) <<< (nI x &&& 31)) 6 = grnds f ((1 : Int32) <<< (nI x &&& 31)) 5 := by
  have hs : low6 ((1 : Int32) <<< (nI x &&& 31)) := fun i h1 h2 => by rw [b_1shl (by omega) h2, decide_eq_false (by omega)]
  generalize hS : (1 : Int32) <<< (nI x &&& 31) = S at hs ⊢
  have h0 : 1 ≤ cnt6 S := by
    have hb : bt S x = true := by rw [← hS, b_1shl (by omega) (by omega), decide_eq_true rfl]
    unfold cnt6
    rcases (show x = 0 ∨ x = 1 ∨ x = 2 ∨ x = 3 ∨ x = 4 ∨ x = 5 by omega) with rfl | rfl | rfl | rfl | rfl | rfl <;> (rw [hb]; simp <;> omega)
  have key : ∀ r, (∃ d, d < r ∧ grnds f S (d + 1) = grnds f S d) ∨ r + 1 ≤ cnt6 (grnds f S r) := by
    intro r
    induction r with
    | zero => exact Or.inr h0
    | succ r ih =>
      rcases ih with ⟨d, h1, h2⟩ | h
      · exact Or.inl ⟨d, by omega, h2⟩
      · by_cases c : grnds f S (r + 1) = grnds f S r
        · exact Or.inl ⟨r, by omega, c⟩
        · right
          have := cnt_lt (grnds_low hf hs r) (grnds_low hf hs (r + 1)) (gstep_sub f (grnds f S r) 6) c
          omega
  have fix : ∀ d, grnds f S (d + 1) = grnds f S d → ∀ e, grnds f S (d + e) = grnds f S d := by
    intro d h e
    induction e with
    | zero => rfl
    | succ e ih =>
      show gstep f (grnds f S (d + e)) 6 = grnds f S d
      rw [ih]; exact h
  rcases key 6 with ⟨d, h1, h2⟩ | h
  · have e6 := fix d h2 (6 - d)
    have e5 := fix d h2 (5 - d)
    rw [show d + (6 - d) = 6 by omega] at e6
    rw [show d + (5 - d) = 5 by omega] at e5
    rw [e6, e5]
  · have := cnt_6 (grnds f S 6)
    omega
theorem cMem_is {F : Nat → Nat → Int32} (hf : ∀ k, k < 6 → low6 (F 2 k)) {x : Nat} (hx : x < 6) : cMem (F 1) (F 2) x = mMem F x := by
  unfold cMem cRch mMem
  rw [grnds_6 hf hx]
