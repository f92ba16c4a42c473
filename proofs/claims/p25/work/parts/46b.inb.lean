theorem inB_lo {x a b : Int32} (h : inB x a b = true) : ¬ x < a := by
  unfold inB at h
  rw [Bool.and_eq_true, decide_eq_true_eq, decide_eq_true_eq] at h
  exact Int32.not_lt.mpr h.1
theorem inB_le {x a b : Int32} (h : inB x a b = true) : x ≤ b := by
  unfold inB at h
  rw [Bool.and_eq_true, decide_eq_true_eq, decide_eq_true_eq] at h
  exact h.2
theorem inB_hi {x a b : Int32} (h : inB x a b = true) : ¬ b < x := Int32.not_lt.mpr (inB_le h)
