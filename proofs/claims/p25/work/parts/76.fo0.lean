/-! a folder is made -/
def foY (a e0 z0 : Nat) (U : State) : Prop := z0 ≤ U.heap.size ∧ va_Z "java/util/ArrayList" "DEFAULTCAPACITY_EMPTY_ELEMENTDATA" "[Ljava/lang/Object;" (.ref e0) (alZ a z0) U U.heap
theorem rdF_blind {D : va_G} {tys : List (ClassId × FieldType)} {ws : va_W} {a e0 z0 : Nat} {av : List Value} : FrameBlind (va_Pc av (rdY D tys ws (foY a e0 z0))) := by
  intro aa U g mk h
  obtain ⟨e, hP, hX, hZ⟩ := h
  exact ⟨e, (rd_blind aa U g mk ⟨e, hP⟩).2, hX, va_Z.moved (u := U) (U := U.calling g mk aa) (Vm.Alike.refl U.vm) hZ⟩
theorem rdF_pre {D : va_G} {tys : List (ClassId × FieldType)} {ws : va_W} {a e0 z0 : Nat} {av : List Value} {s : State} {H : Heap} (hP : va_P D vwCl ws H) (hK : va_K D vwCl tys s) (hN : NW s) (hz : z0 ≤ H.size) (hZ : va_Z "java/util/ArrayList" "DEFAULTCAPACITY_EMPTY_ELEMENTDATA" "[Ljava/lang/Object;" (.ref e0) (alZ a z0) s H) : ∀ U : State, U.heap = H → s.WarmedH U.vm → va_Pc av (rdY D tys ws (foY a e0 z0)) av.toArray U :=
  fun U hU hW => ⟨rfl, (rd_pre (av := av) hP hK hN U hU hW).2, by unfold foY; rw [hU]; exact ⟨hz, va_Z.moved hW.alike hZ⟩⟩
theorem fo_join {D : va_G} {H H1 : Heap} {a b : Nat} {e x x' : va_E} (hP : va_P D vwCl [(a, e), (b, x)] H) (hk : ∀ q : Nat, q < H.size → ¬ q = b → H1[q]? = H[q]?) (hP1 : va_P D vwCl [(b, x')] H1) (hne : a ≠ b) : va_P D vwCl [(a, e), (b, x')] H1 := by
  intro k y hy
  have h0 := hP 0 _ rfl
  rcases (show k = 0 ∨ k = 1 ∨ 2 ≤ k by omega) with rfl | rfl | hk2
  · cases hy
    exact h0.kept (hk a (va_at.lt h0) hne)
  · cases hy
    exact hP1 0 _ rfl
  · rw [List.getElem?_eq_none (by simpa using hk2)] at hy; cases hy
theorem fo_D {A : Nat → Prop} {a b : Nat} {e x x' : va_E} (hD : va_D A [(a, e), (b, x)]) : va_D A [(a, e), (b, x')] := hD.set (p := 1) (e0 := x) rfl
