/-! a row is copied into a longer one -/
def cyY (q : Nat → Option Nat) (m9 mi z0 : Nat) (U : State) : Prop := (va_Mi "[Ljava/lang/Object;" mi U ∧ va_Dc U ∧ va_AO "java/lang/Object" U ∧ z0 ≤ U.heap.size) ∧ anyQ q m9 U
theorem half_n {m9 : Nat} (h : m9 = 10 ∨ m9 = 15) : nI m9 >>> ((1 : Int32) &&& 31) = nI (m9 / 2) := by
  rcases h with rfl | rfl <;> decide
theorem cp_D {cO : ClassId} {d b m9 m8 z0 : Nat} {q q8 : Nat → Option Nat} (hb : b ≠ d) (hz : z0 ≤ b) : va_D (alZ d z0) [(d, refs cO m9 q), (b, refs cO m8 q8)] := wd_of (n := 2) (ad := fun z => if z = 0 then d else b) rfl (fun i j hi hj e => by
  rcases (show i = 0 ∨ i = 1 by omega) with rfl | rfl <;> rcases (show j = 0 ∨ j = 1 by omega) with rfl | rfl
  · rfl
  · exact absurd (show b = d from e.symm) hb
  · exact absurd (show b = d from e) hb
  · rfl) (fun j hj => by
  rcases (show j = 0 ∨ j = 1 by omega) with rfl | rfl
  · exact Or.inl rfl
  · exact Or.inr hz)
theorem cp_D1 {cO : ClassId} {d m9 z0 : Nat} {q : Nat → Option Nat} : va_D (alZ d z0) [(d, refs cO m9 q)] := wd_of (n := 1) (ad := fun _ => d) rfl (fun i j hi hj _ => by omega) (fun _ _ => Or.inl rfl)
theorem min_n {x y : Nat} (h : x ≤ y) (hy : y < 2 ^ 31) : (if nI y < nI x then nI y else nI x) = nI x := if_neg (Int32.not_lt.mpr (nI_le h hy))
theorem max_n {x y : Nat} (h : x ≤ y) (hy : y < 2 ^ 31) : (if nI x < nI y then nI y else nI x) = nI y := by
  rcases Nat.lt_or_ge x y with c | c
  · exact if_pos (nI_lt c hy)
  · have e : x = y := Nat.le_antisymm h c
    subst e
    exact if_neg (fun hh => Int32.lt_irrefl hh)
