/-! a list's first place is made -/
abbrev rma (f n : Nat) : Room := { frames := f, cells := 1, slots := 22, locals := n }
abbrev l1W (a : Nat) (mcv : Int32) (d : Nat) (sz : Int32) : va_W := [(a, .inr (0, [.int mcv, .ref d, .int sz]))]
abbrev l2W (cO : ClassId) (a b m9 : Nat) (q : Nat → Option Nat) (mcv : Int32) (d : Nat) (sz : Int32) : va_W := [(a, .inr (0, [.int mcv, .ref d, .int sz])), (b, refs cO m9 q)]
def alZ (a z0 : Nat) : Nat → Prop := fun x => x = a ∨ z0 ≤ x
theorem l1_D {a z0 : Nat} {mcv : Int32} {d : Nat} {sz : Int32} : va_D (alZ a z0) (l1W a mcv d sz) := wd_of (n := 1) (ad := fun _ => a) rfl (fun i j hi hj _ => by omega) (fun _ _ => Or.inl rfl)
theorem l2_D {cO : ClassId} {a b m9 z0 : Nat} {q : Nat → Option Nat} {mcv : Int32} {d : Nat} {sz : Int32} (hb : b ≠ a) (hz : z0 ≤ b) : va_D (alZ a z0) (l2W cO a b m9 q mcv d sz) := wd_of (n := 2) (ad := fun z => if z = 0 then a else b) rfl (fun i j hi hj e => by
  rcases (show i = 0 ∨ i = 1 by omega) with rfl | rfl <;> rcases (show j = 0 ∨ j = 1 by omega) with rfl | rfl
  · rfl
  · exact absurd (show b = a from e.symm) hb
  · exact absurd (show b = a from e) hb
  · rfl) (fun j hj => by
  rcases (show j = 0 ∨ j = 1 by omega) with rfl | rfl
  · exact Or.inl rfl
  · exact Or.inr hz)
/-- of the empty list's array, the static that has it, the heap's end -/
def growY (D : va_G) (cO : ClassId) (a e0 z0 : Nat) (U : State) : Prop :=
  va_T (.object "java/lang/Object") e0 0 (fun _ => .null) (alZ a z0) U U.heap ∧ va_Z "java/util/ArrayList" "DEFAULTCAPACITY_EMPTY_ELEMENTDATA" "[Ljava/lang/Object;" (.ref e0) (alZ a z0) U U.heap ∧ z0 ≤ U.heap.size ∧ va_AO "java/lang/Object" U ∧ e0 ≠ a ∧ e0 < z0
theorem growY.nA {D : va_G} {cO : ClassId} {a e0 z0 : Nat} {s : State} (h : growY D cO a e0 z0 s) : ¬ alZ a z0 e0 := fun hc => by
  obtain ⟨-, -, -, -, hne, hlt⟩ := h
  rcases hc with hc | hc
  · exact hne hc
  · omega
theorem growY.kept {D : va_G} {cO : ClassId} {a e0 z0 : Nat} {s : State} {H : Heap} {locs : List Loc} (h : growY D cO a e0 z0 s) (hS : va_S (alZ a z0) s.heap H locs) : va_T (.object "java/lang/Object") e0 0 (fun _ => .null) (alZ a z0) s H := va_T.kept h.1 hS.2.1
theorem growY.move {D : va_G} {cO : ClassId} {a e0 z0 : Nat} {s U : State} {locs : List Loc} (hvm : s.vm.Alike U.vm) (h : growY D cO a e0 z0 s) (hS : va_S (alZ a z0) s.heap U.heap locs) : growY D cO a e0 z0 U := by
  have hP := h.kept hS
  obtain ⟨-, h2, h3, h4, h5, h6⟩ := h
  exact ⟨va_T.moved hvm hP, va_Z.moved hvm (va_Z.kept h2 hS.2.1), Nat.le_trans h3 hS.1, va_AO.moved hvm h4, h5, h6⟩
theorem rdG_blind {D : va_G} {tys : List (ClassId × FieldType)} {ws : va_W} {cO : ClassId} {a e0 z0 : Nat} {av : List Value} : FrameBlind (va_Pc av (rdY D tys ws (growY D cO a e0 z0))) := by
  intro aa U g mk h
  obtain ⟨e, hP, hX⟩ := h
  exact ⟨e, (rd_blind aa U g mk ⟨e, hP⟩).2, growY.move (s := U) (U := U.calling g mk aa) (locs := []) (Vm.Alike.refl U.vm) hX va_S.rf⟩
theorem rdG_pre {D : va_G} {tys : List (ClassId × FieldType)} {ws : va_W} {cO : ClassId} {a e0 z0 : Nat} {av : List Value} {s : State} {H : Heap} {locs : List Loc} (hP : va_P D vwCl ws H) (hK : va_K D vwCl tys s) (hN : NW s) (hG : growY D cO a e0 z0 s) (hS : va_S (alZ a z0) s.heap H locs) : ∀ U : State, U.heap = H → s.WarmedH U.vm → va_Pc av (rdY D tys ws (growY D cO a e0 z0)) av.toArray U :=
  fun U hU hW => ⟨rfl, (rd_pre (av := av) hP hK hN U hU hW).2, growY.move (locs := locs) hW.alike hG (by rw [hU]; exact hS)⟩
theorem idO {D : va_G} {cl : List vw_C} {tys : List (ClassId × FieldType)} {s : State} {C : String} {c1 c2 : ClassId} {u v : Nat} (hK : va_K D cl tys s) (h1 : tys[u]? = some (c1, .object C)) (h2 : tys[v]? = some (c2, .object C)) : c1 = c2 := by
  obtain ⟨_, _, _, _, _, k1⟩ := (hK.2 u _ h1).2
  obtain ⟨_, _, _, _, _, k2⟩ := (hK.2 v _ h2).2
  exact Option.some.inj (k1.symm.trans k2)
def gaY (D : va_G) (cO : ClassId) (a e0 z0 v : Nat) (U : State) : Prop := growY D cO a e0 z0 U ∧ anyQ (fun _ => some v) 1 U
theorem rdH_blind {D : va_G} {tys : List (ClassId × FieldType)} {ws : va_W} {cO : ClassId} {a e0 z0 v : Nat} {av : List Value} : FrameBlind (va_Pc av (rdY D tys ws (gaY D cO a e0 z0 v))) := by
  intro aa U g mk h
  obtain ⟨e, hP, hX, hV⟩ := h
  exact ⟨e, (rd_blind aa U g mk ⟨e, hP⟩).2, growY.move (s := U) (U := U.calling g mk aa) (locs := []) (Vm.Alike.refl U.vm) hX va_S.rf, anyQ.move (s := U) (U := U.calling g mk aa) (Vm.Alike.refl U.vm) hV⟩
theorem rdH_pre {D : va_G} {tys : List (ClassId × FieldType)} {ws : va_W} {cO : ClassId} {a e0 z0 v : Nat} {av : List Value} {s : State} {H : Heap} {locs : List Loc} (hP : va_P D vwCl ws H) (hK : va_K D vwCl tys s) (hN : NW s) (hG : growY D cO a e0 z0 s) (hS : va_S (alZ a z0) s.heap H locs) (hV : ∀ j, j < 1 → ∀ y, (fun _ : Nat => some v) j = some y → va_Any "java/lang/Object" s H y) : ∀ U : State, U.heap = H → s.WarmedH U.vm → va_Pc av (rdY D tys ws (gaY D cO a e0 z0 v)) av.toArray U :=
  fun U hU hW => ⟨rfl, (rd_pre (av := av) hP hK hN U hU hW).2, growY.move (locs := locs) hW.alike hG (by rw [hU]; exact hS), anyQ.move hW.alike (by rw [hU]; exact hV)⟩
theorem nV {a z0 v : Nat} (hva : v ≠ a) (hvz : v < z0) : ∀ j, j < 1 → ∀ y, (fun _ : Nat => some v) j = some y → ¬ alZ a z0 y := fun j hj y hy hc => by
  cases hy
  rcases hc with hc | hc
  · exact hva hc
  · omega
