/-! a full row grows -/
def alB (a d z0 : Nat) : Nat → Prop := fun x => x = a ∨ x = d ∨ z0 ≤ x
theorem lB_D {cO : ClassId} {a d b m9 z0 : Nat} {q : Nat → Option Nat} {mcv : Int32} {e : Nat} {sz : Int32} (hb : b ≠ a) (hA : alB a d z0 b) : va_D (alB a d z0) (l2W cO a b m9 q mcv e sz) := wd_of (n := 2) (ad := fun z => if z = 0 then a else b) rfl (fun i j hi hj e => by
  rcases (show i = 0 ∨ i = 1 by omega) with rfl | rfl <;> rcases (show j = 0 ∨ j = 1 by omega) with rfl | rfl
  · rfl
  · exact absurd (show b = a from e.symm) hb
  · exact absurd (show b = a from e) hb
  · rfl) (fun j hj => by
  rcases (show j = 0 ∨ j = 1 by omega) with rfl | rfl
  · exact Or.inl rfl
  · exact hA)
theorem lB_at {D : va_G} {H H1 : Heap} {cO : ClassId} {a d b m9 m8 z0 : Nat} {q q8 : Nat → Option Nat} {mcv : Int32} {sz : Int32} (hP : va_P D vwCl (l2W cO a d m9 q mcv d sz) H) (hk : ∀ x : Nat, x < H.size → ¬ alZ d z0 x → H1[x]? = H[x]?) (hP1 : va_P D vwCl [(d, refs cO m9 q), (b, refs cO m8 q8)] H1) (had : a ≠ d) (haz : a < z0) : va_P D vwCl (l2W cO a b m8 q8 mcv d sz) H1 := by
  intro k x hx
  have h0 := hP 0 _ rfl
  rcases (show k = 0 ∨ k = 1 ∨ 2 ≤ k by omega) with rfl | rfl | hk2
  · cases hx
    exact h0.kept (hk a (va_at.lt h0) (fun hc => hc.elim had (fun hc => by omega)))
  · cases hx
    exact hP1 1 _ rfl
  · rw [List.getElem?_eq_none (by simpa using hk2)] at hx; cases hx
def cvY (q : Nat → Option Nat) (m9 mi z0 v : Nat) (U : State) : Prop := cyY q m9 mi z0 U ∧ anyQ (fun _ => some v) 1 U
theorem rdV_blind {D : va_G} {tys : List (ClassId × FieldType)} {ws : va_W} {q : Nat → Option Nat} {m9 mi z0 v : Nat} {av : List Value} : FrameBlind (va_Pc av (rdY D tys ws (cvY q m9 mi z0 v))) := by
  intro aa U g mk h
  obtain ⟨e, hP, hX, hV⟩ := h
  exact ⟨e, (rd_blind aa U g mk ⟨e, hP⟩).2, cyY.move (s := U) (U := U.calling g mk aa) (A := fun _ => False) (locs := []) (Vm.Alike.refl U.vm) hX (fun _ _ _ _ h => h) va_S.rf, anyQ.move (s := U) (U := U.calling g mk aa) (Vm.Alike.refl U.vm) hV⟩
theorem rdV_pre {D : va_G} {tys : List (ClassId × FieldType)} {ws : va_W} {q : Nat → Option Nat} {m9 mi z0 v : Nat} {av : List Value} {s : State} {H : Heap} {A : Nat → Prop} {locs : List Loc} (hP : va_P D vwCl ws H) (hK : va_K D vwCl tys s) (hN : NW s) (h : cyY q m9 mi z0 s) (hnA : ∀ j, j < m9 → ∀ y, q j = some y → ¬ A y) (hS : va_S A s.heap H locs) (hV : ∀ j, j < 1 → ∀ y, (fun _ : Nat => some v) j = some y → va_Any "java/lang/Object" s H y) : ∀ U : State, U.heap = H → s.WarmedH U.vm → va_Pc av (rdY D tys ws (cvY q m9 mi z0 v)) av.toArray U :=
  fun U hU hW => ⟨rfl, (rd_pre (av := av) hP hK hN U hU hW).2, cyY.move (locs := locs) hW.alike h hnA (by rw [hU]; exact hS), anyQ.move hW.alike (by rw [hU]; exact hV)⟩
theorem nVB {a d z0 v : Nat} (hva : v ≠ a) (hvd : v ≠ d) (hvz : v < z0) : ∀ j, j < 1 → ∀ y, (fun _ : Nat => some v) j = some y → ¬ alB a d z0 y := fun j hj y hy hc => by
  cases hy
  rcases hc with hc | hc | hc
  · exact hva hc
  · exact hvd hc
  · omega
theorem lB_D2 {cO : ClassId} {a d m9 z0 : Nat} {q : Nat → Option Nat} {mcv : Int32} {sz : Int32} (had : a ≠ d) : va_D (alB a d z0) (l2W cO a d m9 q mcv d sz) := lB_D (fun e => had e.symm) (Or.inr (Or.inl rfl))
