/-! the lists: rows of references -/
abbrev alW (cO : ClassId) (ad : Nat → Nat) (m9 : Nat) (q : Nat → Option Nat) (mcv sz : Int32) : va_W := [(ad 0, .inr (0, [.int mcv, .ref (ad 1), .int sz])), (ad 1, refs cO m9 q)]
theorem al_D {cO : ClassId} {ad : Nat → Nat} {m9 : Nat} {q : Nat → Option Nat} {mcv sz : Int32} {A : Nat → Prop} (h : apD 2 A ad) : va_D A (alW cO ad m9 q mcv sz) := wd_of (n := 2) (ad := ad) rfl h.1 h.2
theorem alW_P {D : va_G} {H : Heap} {cO : ClassId} {ad : Nat → Nat} {m9 : Nat} {q q' : Nat → Option Nat} {mcv sz mcv' sz' : Int32} (e1 : q = q') (e2 : mcv = mcv') (e3 : sz = sz') (h : va_P D vwCl (alW cO ad m9 q mcv sz) H) : va_P D vwCl (alW cO ad m9 q' mcv' sz') H := by
  subst e1; subst e2; subst e3; exact h
theorem va_Any.moved {E : String} {s U : State} {H : Heap} {y : Nat} (hvm : s.vm.Alike U.vm) (h : va_Any E s H y) : va_Any E U H y := by
  obtain ⟨cell, h1, h2, ⟨kC, hkC⟩, h4⟩ := h
  obtain ⟨k', hk', -⟩ := hvm.2.2 _ _ hkC
  exact ⟨cell, h1, h2, ⟨k', hk'⟩, fun comp hc => by rw [hvm.assignable]; exact h4 comp (by rw [← hvm.findClass]; exact hc)⟩
theorem va_Any.kept {E : String} {s : State} {H H1 : Heap} {y : Nat} (h : va_Any E s H y) (hy : H1[y]? = H[y]?) : va_Any E s H1 y := by
  obtain ⟨cell, h1, h2⟩ := h
  exact ⟨cell, by rw [hy]; exact h1, h2⟩
theorem va_Any.lt {E : String} {s : State} {H : Heap} {y : Nat} (h : va_Any E s H y) : y < H.size := by
  obtain ⟨cell, h1, _⟩ := h
  exact (Array.getElem?_eq_some_iff.mp h1).1
def anyQ (q : Nat → Option Nat) (k : Nat) (U : State) : Prop := ∀ j, j < k → ∀ y, q j = some y → va_Any "java/lang/Object" U U.heap y
theorem anyQ.at {q : Nat → Option Nat} {k : Nat} {s : State} {A : Nat → Prop} {H : Heap} {locs : List Loc} (h : anyQ q k s) (hnA : ∀ j, j < k → ∀ y, q j = some y → ¬ A y) (hS : va_S A s.heap H locs) {j y : Nat} (hj : j < k) (hy : q j = some y) : va_Any "java/lang/Object" s H y :=
  (h j hj y hy).kept (hS.2.1 y (h j hj y hy).lt (hnA j hj y hy))
def rdY (D : va_G) (tys : List (ClassId × FieldType)) (ws : va_W) (Y : State → Prop) (U : State) : Prop := rdP D tys ws U ∧ Y U
theorem anyQ.move {q : Nat → Option Nat} {k : Nat} {s U : State} (hvm : s.vm.Alike U.vm) (h : ∀ j, j < k → ∀ y, q j = some y → va_Any "java/lang/Object" s U.heap y) : anyQ q k U := fun j hj y hy => (h j hj y hy).moved hvm
theorem rdY_blind {D : va_G} {tys : List (ClassId × FieldType)} {ws : va_W} {q : Nat → Option Nat} {k : Nat} {av : List Value} : FrameBlind (va_Pc av (rdY D tys ws (anyQ q k))) := by
  intro a U g mk h
  obtain ⟨e, hP, hX⟩ := h
  exact ⟨e, (rd_blind a U g mk ⟨e, hP⟩).2, anyQ.move (s := U) (U := U.calling g mk a) (Vm.Alike.refl U.vm) hX⟩
theorem rdY_pre {D : va_G} {tys : List (ClassId × FieldType)} {ws : va_W} {q : Nat → Option Nat} {k : Nat} {av : List Value} {s : State} {H : Heap} (hP : va_P D vwCl ws H) (hK : va_K D vwCl tys s) (hN : NW s) (hY : ∀ j, j < k → ∀ y, q j = some y → va_Any "java/lang/Object" s H y) : ∀ U : State, U.heap = H → s.WarmedH U.vm → va_Pc av (rdY D tys ws (anyQ q k)) av.toArray U :=
  fun U hU hW => ⟨rfl, (rd_pre (av := av) hP hK hN U hU hW).2, anyQ.move hW.alike (by rw [hU]; exact hY)⟩
section AQ
variable {p : Program} {l : Launch} {e : Env} {R : Room} {s : State} {m : MethodId} {args : Array Value} {below : List Frame} {meth : Method} {c : Code} {H : Heap} {locs : List Loc} {cells slots : Nat} {Q : State → Prop}
variable {cc : ByteArray} {pc : Nat} {ls : Array Slot} {rest : List Value} {D : va_G} {cl : List vw_C} {A : Nat → Prop} {a : Nat} {tys : List (ClassId × FieldType)} {ws : va_W} {H0 : Heap}
theorem st_qN (hx : p.tables.exec = Jvm.exec) (hb : c.code = cc) (hK : va_K D cl tys s) (hP : va_P D cl ws H) (hD : va_D A ws) (hS : va_S A H0 H locs) (q0 t0 : Nat) {cA : ClassId} {C : String} {n : Nat} {f : Nat → Option Nat} (ha : ws[q0]? = some (a, .inl (cA, n, .inr (.inr (.inr (.inr f)))))) (ht : tys[t0]? = some (cA, .object C)) {k : Nat} (hk : k < n) (hn : n < 2 ^ 31) (hdg : decode cc pc = .ok (.aastore, 1))
    (kk : ∀ (H1 : Heap) (locs1 : List Loc), va_P D cl (ws.set q0 (a, .inl (cA, n, .inr (.inr (.inr (.inr (va_up f k none))))))) H1 → va_D A (ws.set q0 (a, .inl (cA, n, .inr (.inr (.inr (.inr (va_up f k none))))))) → va_S A H0 H1 locs1 → W p l e R s m args below meth c H1 locs1 cells slots Q (F0 m (pc + 1) ls rest)) : W p l e R s m args below meth c H locs cells slots Q (F0 m pc ls (.null :: .int (nI k) :: .ref a :: rest)) := by
  refine va_astqN hx hb hK hP hD hS q0 t0 ha ht (vp_in_nI hk hn) hdg ?_
  rw [nI_clamp (by omega)]; exact kk
theorem st_qM (hx : p.tables.exec = Jvm.exec) (hb : c.code = cc) (hK : va_K D cl tys s) (hP : va_P D cl ws H) (hD : va_D A ws) (hS : va_S A H0 H locs) (q0 t0 : Nat) {cA : ClassId} {C : String} {n v : Nat} {f : Nat → Option Nat} (ha : ws[q0]? = some (a, .inl (cA, n, .inr (.inr (.inr (.inr f)))))) (ht : tys[t0]? = some (cA, .object C)) (hr : va_Any C s H v) {k : Nat} (hk : k < n) (hn : n < 2 ^ 31) (hdg : decode cc pc = .ok (.aastore, 1))
    (kk : ∀ (H1 : Heap) (locs1 : List Loc), va_P D cl (ws.set q0 (a, .inl (cA, n, .inr (.inr (.inr (.inr (va_up f k (some v)))))))) H1 → va_D A (ws.set q0 (a, .inl (cA, n, .inr (.inr (.inr (.inr (va_up f k (some v)))))))) → va_S A H0 H1 locs1 → W p l e R s m args below meth c H1 locs1 cells slots Q (F0 m (pc + 1) ls rest)) : W p l e R s m args below meth c H locs cells slots Q (F0 m pc ls (.ref v :: .int (nI k) :: .ref a :: rest)) := by
  refine va_astqM hx hb hK hP hD hS q0 t0 ha ht hr (vp_in_nI hk hn) hdg ?_
  rw [nI_clamp (by omega)]; exact kk
theorem cp_q (hexec : p.tables.exec = Jvm.exec) (hb : c.code = cc) (hml : c.maxLocals = ls.size) {own : String} {index : Nat} (hown : s.vm.findClass own = some m.cls) (hlink : (Cond.methodLink own index arraycopyName).before args s = true) (hnat : (Cond.native arraycopyName).before args s = true) (hstat : (Cond.static arraycopyName).before args s = true) (hini : (Cond.initialized "java/lang/System").before args s = true)
    (hK : va_K D cl tys s) (hP : va_P D cl ws H) (hD : va_D A ws) (hS : va_S A H0 H locs) (q0 q1 t0 t1 : Nat) {a0 : Nat} {c0 c1 : ClassId} {n0 n1 : Nat} {f g : Nat → Option Nat} {E0 E1 : String} (ha0 : ws[q0]? = some (a0, .inl (c0, n0, .inr (.inr (.inr (.inr f)))))) (ha1 : ws[q1]? = some (a, .inl (c1, n1, .inr (.inr (.inr (.inr g)))))) (ht0 : tys[t0]? = some (c0, .object E0)) (ht1 : tys[t1]? = some (c1, .object E1))
    {x y k : Nat} (hx2 : x < 2 ^ 31) (hy2 : y < 2 ^ 31) (hk2 : k < 2 ^ 31) (h4 : x + k ≤ n0) (h5 : y + k ≤ n1) (hel : ∀ i : Nat, i < k → ∀ z : Nat, f (x + i) = some z → va_Any E1 s H z)
    (hframes : 1 ≤ R.frames) (hlocals : (rest.map fun v => v.category).sum + (nativeFrameWords "java/lang/System" "arraycopy" 5 + 11) ≤ R.locals) (hdg : decode cc pc = .ok (.invokestatic index, 3))
    (kk : ∀ (H1 : Heap) (locs1 : List Loc), va_P D cl (ws.set q1 (a, .inl (c1, n1, .inr (.inr (.inr (.inr (va_cpy f g x y k))))))) H1 → va_D A (ws.set q1 (a, .inl (c1, n1, .inr (.inr (.inr (.inr (va_cpy f g x y k))))))) → va_S A H0 H1 locs1 → W p l e R s m args below meth c H1 locs1 cells slots Q (F0 m (pc + 3) ls rest)) : W p l e R s m args below meth c H locs cells slots Q (F0 m pc ls (.int (nI k) :: .int (nI y) :: .ref a :: .int (nI x) :: .ref a0 :: rest)) := by
  refine va_copyM hexec hb hml hown hlink hnat hstat hini hK hP hD hS q0 q1 t0 t1 ha0 ha1 ht0 ht1 (nI_pos hx2) (nI_pos hy2) (nI_pos hk2) (by rw [nI_clamp hx2, nI_clamp hk2]; exact h4) (by rw [nI_clamp hy2, nI_clamp hk2]; exact h5) (by rw [nI_clamp hx2, nI_clamp hk2]; exact hel) hframes hlocals hdg ?_
  rw [nI_clamp hx2, nI_clamp hy2, nI_clamp hk2]; exact kk
end AQ
/-- without the place x of the first k + 1 -/
def rmQ (q : Nat → Option Nat) (x k : Nat) : Nat → Option Nat := fun j => if j < k then (if x ≤ j then q (j + 1) else q j) else if j = k then none else q j
theorem rmQ_1 {q : Nat → Option Nat} {x k : Nat} (h : k ≤ x) : va_up q k none = rmQ q x k := by
  funext j
  unfold rmQ va_up
  by_cases c1 : j = k
  · subst c1; simp
  · rw [if_neg c1]
    by_cases c2 : j < k
    · rw [if_pos c2, if_neg (by omega)]
    · rw [if_neg c2]
theorem rmQ_2 {q : Nat → Option Nat} {x k : Nat} (h : x < k) : va_up (va_cpy q q (x + 1) x (k - x)) k none = rmQ q x k := by
  funext j
  unfold rmQ va_up
  by_cases c1 : j = k
  · subst c1; simp
  · rw [if_neg c1, if_neg c1]
    unfold va_cpy
    by_cases c2 : j < k
    · rw [if_pos c2]
      by_cases c3 : x ≤ j
      · rw [if_pos c3, if_pos (by omega)]; congr 1; omega
      · rw [if_neg c3, if_neg (by omega)]
    · rw [if_neg c2, if_neg (by omega)]
