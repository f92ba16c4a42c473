/-! a row is copied into a longer one -/
def cyY (q : Nat → Option Nat) (m9 mi z0 : Nat) (U : State) : Prop := (va_Mi "[Ljava/lang/Object;" mi U ∧ va_Dc U ∧ va_AO "java/lang/Object" U ∧ z0 ≤ U.heap.size) ∧ anyQ q m9 U
theorem half_n {m9 : Nat} (h : m9 = 10 ∨ m9 = 15) : nI m9 >>> ((1 : Int32) &&& 31) = nI (m9 / 2) := by
  rcases h with rfl | rfl <;> decide
theorem cp_D {cO : ClassId} {d b m9 m8 z0 : Nat} {q q8 : Nat → Option Nat} (hb : b ≠ d) (hz : z0 ≤ b) : va_D (alZ d z0) [(d, refs cO m9 q), (b, refs cO m8 q8)] := wd_of (n := 2) (ad := fun z => if z = 0 then d else b) rfl (fun i j hi hj e => by
  rcases (show i = 0 ∨ i = 1 by omega) with rfl | rfl <;> rcases (show j = 0 ∨ j = 1 by omega) with rfl | rfl
  · rfl
  · exact absurd (show b = d from e.symm) hb
  · exact absurd (show b = d from e) hb
  · rfl) (fun j hj => by
  rcases (show j = 0 ∨ j = 1 by omega) with rfl | rfl
  · exact Or.inl rfl
  · exact Or.inr hz)
theorem cp_D1 {cO : ClassId} {d m9 z0 : Nat} {q : Nat → Option Nat} : va_D (alZ d z0) [(d, refs cO m9 q)] := wd_of (n := 1) (ad := fun _ => d) rfl (fun i j hi hj _ => by omega) (fun _ _ => Or.inl rfl)
theorem min_n {x y : Nat} (h : x ≤ y) (hy : y < 2 ^ 31) : (if nI y < nI x then nI y else nI x) = nI x := if_neg (Int32.not_lt.mpr (nI_le h hy))
theorem max_n {x y : Nat} (h : x ≤ y) (hy : y < 2 ^ 31) : (if nI x < nI y then nI y else nI x) = nI y := by
  rcases Nat.lt_or_ge x y with c | c
  · exact if_pos (nI_lt c hy)
  · have e : x = y := Nat.le_antisymm h c
    subst e
    exact if_neg (fun hh => Int32.lt_irrefl hh)
theorem cyY.move {q : Nat → Option Nat} {m9 mi z0 : Nat} {s U : State} {A : Nat → Prop} {locs : List Loc} (hvm : s.vm.Alike U.vm) (h : cyY q m9 mi z0 s) (hnA : ∀ j, j < m9 → ∀ y, q j = some y → ¬ A y) (hS : va_S A s.heap U.heap locs) : cyY q m9 mi z0 U :=
  ⟨⟨va_Mi.moved hvm h.1.1, va_Dc.moved hvm h.1.2.1, va_AO.moved hvm h.1.2.2.1, Nat.le_trans h.1.2.2.2 hS.1⟩, anyQ.move hvm (fun j hj y hy => h.2.at hnA hS hj hy)⟩
theorem rdK_blind {D : va_G} {tys : List (ClassId × FieldType)} {ws : va_W} {q : Nat → Option Nat} {m9 mi z0 : Nat} {av : List Value} : FrameBlind (va_Pc av (rdY D tys ws (cyY q m9 mi z0))) := by
  intro aa U g mk h
  obtain ⟨e, hP, hX⟩ := h
  exact ⟨e, (rd_blind aa U g mk ⟨e, hP⟩).2, cyY.move (s := U) (U := U.calling g mk aa) (A := fun _ => False) (locs := []) (Vm.Alike.refl U.vm) hX (fun _ _ _ _ h => h) va_S.rf⟩
theorem rdK_pre {D : va_G} {tys : List (ClassId × FieldType)} {ws : va_W} {q : Nat → Option Nat} {m9 mi z0 : Nat} {av : List Value} {s : State} {H : Heap} {A : Nat → Prop} {locs : List Loc} (hP : va_P D vwCl ws H) (hK : va_K D vwCl tys s) (hN : NW s) (h : cyY q m9 mi z0 s) (hnA : ∀ j, j < m9 → ∀ y, q j = some y → ¬ A y) (hS : va_S A s.heap H locs) : ∀ U : State, U.heap = H → s.WarmedH U.vm → va_Pc av (rdY D tys ws (cyY q m9 mi z0)) av.toArray U :=
  fun U hU hW => ⟨rfl, (rd_pre (av := av) hP hK hN U hU hW).2, cyY.move (locs := locs) hW.alike h hnA (by rw [hU]; exact hS)⟩
