/-! constructors that make rows of ints -/
theorem idI {D : va_G} {cl : List vw_C} {tys : List (ClassId × FieldType)} {s : State} {c1 c2 : ClassId} {u v : Nat} (hK : va_K D cl tys s) (h1 : tys[u]? = some (c1, .int)) (h2 : tys[v]? = some (c2, .int)) : c1 = c2 :=
  Option.some.inj (((hK.2 u _ h1).2 : s.vm.findClass _ = some c1).symm.trans ((hK.2 v _ h2).2 : s.vm.findClass _ = some c2))
theorem idZ {D : va_G} {cl : List vw_C} {tys : List (ClassId × FieldType)} {s : State} {c1 c2 : ClassId} {u v : Nat} (hK : va_K D cl tys s) (h1 : tys[u]? = some (c1, .boolean)) (h2 : tys[v]? = some (c2, .boolean)) : c1 = c2 :=
  Option.some.inj (((hK.2 u _ h1).2 : s.vm.findClass _ = some c1).symm.trans ((hK.2 v _ h2).2 : s.vm.findClass _ = some c2))
abbrev i0 (cI : ClassId) (n : Nat) : va_E := .inl (cI, n, .inl (fun _ => 0))
def szY (z0 : Nat) (U : State) : Prop := z0 ≤ U.heap.size
theorem rdS_blind {D : va_G} {tys : List (ClassId × FieldType)} {ws : va_W} {z0 : Nat} {av : List Value} : FrameBlind (va_Pc av (rdY D tys ws (szY z0))) := by
  intro aa U g mk h
  obtain ⟨e, hP, hX⟩ := h
  exact ⟨e, (rd_blind aa U g mk ⟨e, hP⟩).2, hX⟩
theorem rdS_pre {D : va_G} {tys : List (ClassId × FieldType)} {ws : va_W} {z0 : Nat} {av : List Value} {s : State} {H : Heap} (hP : va_P D vwCl ws H) (hK : va_K D vwCl tys s) (hN : NW s) (hz : z0 ≤ H.size) : ∀ U : State, U.heap = H → s.WarmedH U.vm → va_Pc av (rdY D tys ws (szY z0)) av.toArray U :=
  fun U hU hW => ⟨rfl, (rd_pre (av := av) hP hK hN U hU hW).2, by unfold szY; rw [hU]; exact hz⟩
theorem oz_D {a z0 : Nat} {e : va_E} : va_D (alZ a z0) [(a, e)] := wd_of (n := 1) (ad := fun _ => a) rfl (fun i j hi hj _ => by omega) (fun _ _ => Or.inl rfl)
