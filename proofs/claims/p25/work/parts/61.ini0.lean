/-! constructors -/
theorem ob_D {a : Nat} {e : va_E} : va_D (fun x => x = a) [(a, e)] := wd_of (n := 1) (ad := fun _ => a) rfl (fun i j hi hj _ => by omega) (fun _ _ => rfl)
def eZ (a e0 : Nat) (U : State) : Prop := va_Z "java/util/ArrayList" "DEFAULTCAPACITY_EMPTY_ELEMENTDATA" "[Ljava/lang/Object;" (.ref e0) (fun x => x = a) U U.heap
theorem rdE_blind {D : va_G} {tys : List (ClassId × FieldType)} {ws : va_W} {a e0 : Nat} {av : List Value} : FrameBlind (va_Pc av (rdY D tys ws (eZ a e0))) := by
  intro aa U g mk h
  obtain ⟨e, hP, hX⟩ := h
  exact ⟨e, (rd_blind aa U g mk ⟨e, hP⟩).2, va_Z.moved (u := U) (U := U.calling g mk aa) (Vm.Alike.refl U.vm) hX⟩
theorem rdE_pre {D : va_G} {tys : List (ClassId × FieldType)} {ws : va_W} {a e0 : Nat} {av : List Value} {s : State} {H : Heap} (hP : va_P D vwCl ws H) (hK : va_K D vwCl tys s) (hN : NW s) (hE : va_Z "java/util/ArrayList" "DEFAULTCAPACITY_EMPTY_ELEMENTDATA" "[Ljava/lang/Object;" (.ref e0) (fun x => x = a) s H) : ∀ U : State, U.heap = H → s.WarmedH U.vm → va_Pc av (rdY D tys ws (eZ a e0)) av.toArray U :=
  fun U hU hW => ⟨rfl, (rd_pre (av := av) hP hK hN U hU hW).2, by unfold eZ; rw [hU]; exact va_Z.moved hW.alike hE⟩
