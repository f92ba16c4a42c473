/-! a full row grows -/
def alB (a d z0 : Nat) : Nat → Prop := fun x => x = a ∨ x = d ∨ z0 ≤ x
theorem lB_D {cO : ClassId} {a d b m9 z0 : Nat} {q : Nat → Option Nat} {mcv : Int32} {e : Nat} {sz : Int32} (hb : b ≠ a) (hA : alB a d z0 b) : va_D (alB a d z0) (l2W cO a b m9 q mcv e sz) := wd_of (n := 2) (ad := fun z => if z = 0 then a else b) rfl (fun i j hi hj e => by
  rcases (show i = 0 ∨ i = 1 by omega) with rfl | rfl <;> rcases (show j = 0 ∨ j = 1 by omega) with rfl | rfl
  · rfl
  · exact absurd (show b = a from e.symm) hb
  · exact absurd (show b = a from e) hb
  · rfl) (fun j hj => by
  rcases (show j = 0 ∨ j = 1 by omega) with rfl | rfl
  · exact Or.inl rfl
  · exact hA)
theorem lB_at {D : va_G} {H H1 : Heap} {cO : ClassId} {a d b m9 m8 z0 : Nat} {q q8 : Nat → Option Nat} {mcv : Int32} {sz : Int32} (hP : va_P D vwCl (l2W cO a d m9 q mcv d sz) H) (hk : ∀ x : Nat, x < H.size → ¬ alZ d z0 x → H1[x]? = H[x]?) (hP1 : va_P D vwCl [(d, refs cO m9 q), (b, refs cO m8 q8)] H1) (had : a ≠ d) (haz : a < z0) : va_P D vwCl (l2W cO a b m8 q8 mcv d sz) H1 := by
  intro k x hx
  have h0 := hP 0 _ rfl
  rcases (show k = 0 ∨ k = 1 ∨ 2 ≤ k by omega) with rfl | rfl | hk2
  · cases hx
    exact h0.kept (hk a (va_at.lt h0) (fun hc => hc.elim had (fun hc => by omega)))
  · cases hx
    exact hP1 1 _ rfl
  · rw [List.getElem?_eq_none (by simpa using hk2)] at hx; cases hx
