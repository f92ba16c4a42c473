/-! the law's helpers: a call of the class, its answer or what it throws -/
abbrev rmh : Room := { frames := 9, cells := 4, slots := 40, locals := 300 }
abbrev lgC (cJ : ClassId) (w : Nat → Int64) : va_E := .inl (cJ, 1, .inr (.inl w))
def hRM (rm : Room) (mc ms : Nat) : Prop := rm.cells = mc ∧ rm.slots = ms ∧ rm.frames ≤ 8 ∧ rm.locals ≤ 255 ∧ mc ≤ 4 ∧ ms ≤ 40
def CX (D : va_G) (cI cO : ClassId) (A : Nat → Prop) (x0 e0 : Nat) (F : Nat → Nat → Int32) (ik kp tu : Nat → Int32) (n : Nat) (H : Heap) : Prop :=
  ∃ (he gv : Nat → Int32) (gp gb ob nm lo : Int32) (L : List Nat) (f : Nat → va_E) (tg : Nat → Nat) (AD : Nat → Nat → Nat) (mc : Nat → Int32), L.Nodup ∧ (∀ a, a ∈ L → A a) ∧ AD 0 0 = x0 ∧ AD 7 0 = e0 ∧ va_P D vwCl (va_pl L f) H ∧ Rep cI cO L f tg AD mc F ik kp tu n he gv gp gb ob nm lo
theorem pl_mem {L : List Nat} {f : Nat → va_E} {k : Nat} {q : Nat × va_E} (h : (va_pl L f)[k]? = some q) : q.1 ∈ L := by
  have hm := List.mem_of_getElem? h
  obtain ⟨a, ha, e⟩ := List.mem_map.mp hm
  rw [← e]; exact ha
theorem CX.kept {D : va_G} {cI cO : ClassId} {A : Nat → Prop} {x0 e0 : Nat} {F : Nat → Nat → Int32} {ik kp tu : Nat → Int32} {n : Nat} {H H1 : Heap} (h : CX D cI cO A x0 e0 F ik kp tu n H) (hk : ∀ q : Nat, q < H.size → A q → H1[q]? = H[q]?) : CX D cI cO A x0 e0 F ik kp tu n H1 := by
  obtain ⟨he, gv, gp, gb, ob, nm, lo, L, f, tg, AD, mc, h1, h2, h3, h4, hP, hR⟩ := h
  exact ⟨he, gv, gp, gb, ob, nm, lo, L, f, tg, AD, mc, h1, h2, h3, h4, hP.kept (fun k q hq => hk q.1 (va_at.lt (hP k q hq)) (h2 _ (pl_mem hq))), hR⟩
theorem fY.move {D : va_G} {cO : ClassId} {A : Nat → Prop} {e0 zA mi : Nat} {s U : State} (hh : U.heap = s.heap) (hW : s.WarmedH U.vm) (h : fY D cO A e0 zA mi s) : fY D cO A e0 zA mi U := by
  obtain ⟨⟨h1, h2, h3, h4, h5⟩, h6, h7⟩ := h
  exact ⟨⟨h1.move hW, va_AO.moved hW.alike h2, by rw [hh]; exact va_T.moved hW.alike h3, by rw [hh]; exact va_Z.moved hW.alike h4, by rw [hh]; exact h5⟩, va_Mi.moved hW.alike h6, va_Dc.moved hW.alike h7⟩
/-- what a call of the class finds -/
def CW (D : va_G) (cI cZ cO : ClassId) (A : Nat → Prop) (L : List Nat) (f : Nat → va_E) (e0 z mi : Nat) (U : State) : Prop := rdP D [(cI, .int), (cZ, .boolean), (cO, .object "java/lang/Object")] (va_pl L f) U ∧ NX U ∧ fY D cO A e0 z mi U
theorem CW.move {D : va_G} {cI cZ cO : ClassId} {A : Nat → Prop} {L : List Nat} {f : Nat → va_E} {e0 z mi : Nat} {s U : State} (hh : U.heap = s.heap) (hW : s.WarmedH U.vm) (h : CW D cI cZ cO A L f e0 z mi s) : CW D cI cZ cO A L f e0 z mi U := by
  obtain ⟨⟨hP, hK, hN⟩, hX, hY⟩ := h
  exact ⟨⟨by rw [hh]; exact hP, va_K.moved hW.alike hK, hN.warm hW⟩, hX.move hh hW, hY.move hh hW⟩
theorem CW.blind {D : va_G} {cI cZ cO : ClassId} {A : Nat → Prop} {L : List Nat} {f : Nat → va_E} {e0 z mi : Nat} {av : List Value} : FrameBlind (va_Pc av (CW D cI cZ cO A L f e0 z mi)) := by
  intro a U g mk h
  exact ⟨h.1, CW.move (s := U) (U := U.calling g mk a) rfl (State.WarmedH.refl U) h.2⟩
/-- exceptions that other handlers don't take -/
def HN (U : State) : Prop := va_Nc "java/lang/IllegalStateException" "java/lang/IndexOutOfBoundsException" U ∧ va_Nc "java/lang/IllegalArgumentException" "java/lang/IndexOutOfBoundsException" U ∧ va_Nc "java/lang/IllegalStateException" "java/lang/IllegalArgumentException" U
theorem HN.move {s U : State} (hW : s.WarmedH U.vm) (h : HN s) : HN U := ⟨va_Nc.moved hW.alike h.1, va_Nc.moved hW.alike h.2.1, va_Nc.moved hW.alike h.2.2⟩
/-- what a call of a helper finds -/
def HW (D : va_G) (cI cZ cO cJ : ClassId) (A : Nat → Prop) (L : List Nat) (f : Nat → va_E) (e0 z mi ou : Nat) (w : Nat → Int64) (U : State) : Prop := CW D cI cZ cO A L f e0 z mi U ∧ va_P D vwCl [(ou, lgC cJ w)] U.heap ∧ va_K D vwCl [(cJ, .long)] U ∧ HN U
theorem HW.move {D : va_G} {cI cZ cO cJ : ClassId} {A : Nat → Prop} {L : List Nat} {f : Nat → va_E} {e0 z mi ou : Nat} {w : Nat → Int64} {s U : State} (hh : U.heap = s.heap) (hW : s.WarmedH U.vm) (h : HW D cI cZ cO cJ A L f e0 z mi ou w s) : HW D cI cZ cO cJ A L f e0 z mi ou w U :=
  ⟨h.1.move hh hW, by rw [hh]; exact h.2.1, va_K.moved hW.alike h.2.2.1, h.2.2.2.move hW⟩
theorem HW.blind {D : va_G} {cI cZ cO cJ : ClassId} {A : Nat → Prop} {L : List Nat} {f : Nat → va_E} {e0 z mi ou : Nat} {w : Nat → Int64} {av : List Value} : FrameBlind (va_Pc av (HW D cI cZ cO cJ A L f e0 z mi ou w)) := by
  intro a U g mk h
  exact ⟨h.1, HW.move (s := U) (U := U.calling g mk a) rfl (State.WarmedH.refl U) h.2⟩
/-- a helper's contract: it answers k, and where k is 0 the row holds v; the class's pool holds F, ik, kp, tu, n -/
def HC (l : Launch) (y : MethodName) (ws : List Cond) (D : va_G) (cI cZ cO cJ : ClassId) (A : Nat → Prop) (L : List Nat) (f : Nat → va_E) (x0 e0 z mi ou : Nat) (w : Nat → Int64) (av : List Value) (k : Int32) (v : Int64) (F : Nat → Nat → Int32) (ik kp tu : Nat → Int32) (n : Nat) : Prop :=
  Met l y ws rmh (va_Pc av (HW D cI cZ cO cJ A L f e0 z mi ou w)) (va_Qi (fun (r : Int32) (w' : Nat → Int64) => r = k ∧ (k = 0 → w' 0 = v)) (fun w' t => CX D cI cO A x0 e0 F ik kp tu n t.heap ∧ va_P D vwCl [(ou, lgC cJ w')] t.heap) (fun q => A q ∨ q = ou)) 4 40 (fun q => A q ∨ q = ou)
theorem hc_ofWH {l : Launch} {y : MethodName} {ws ws' : List Cond} {rm : Room} {Pc : Array Value → State → Prop} {Qc : Array Value → State → Outcome → State → Prop} {mc ms : Nat} {free : Addr → Prop} {cc : ByteArray} {maxL : Nat} {ret : Option FieldType} {hh : List (Nat × Nat × Nat × Nat)}
    (hy : plainName y.cls = true) (hw : ws = Cond.codeWith y cc maxL ret hh :: ws')
    (body : ∀ p e s m args below meth c s₁, BodyLoose p l y (headSpec ws rm) cc maxL ret e s m args below meth c s₁ → c.maxLocals = maxL → Pc args s →
      W p l e (headSpec ws rm).room s m args below meth c s.heap [] 0 0 (MQ below Qc args s mc ms free) (entryFrame m args maxL)) : Met l y ws rm Pc Qc mc ms free := by
  refine MetFree.of_bodyS (code := cc) (maxLocals := maxL) (ret := ret) hy ?_ ?_
  · intro args s m h hn
    obtain ⟨m9, meth, c, hn9, h1, h2, h3, h4, -, h5, h6, -⟩ := Cond.codeWith_spec (atoms_spec (ws := ws) h _ (by rw [hw]; exact List.mem_cons_self))
    cases hn.symm.trans hn9
    exact ⟨meth, c, h1, h2, h3, h4, h5, h6⟩
  · intro p e s m args below meth c s₁ B hml hP _
    have hh0 : s₁.heap = s.heap := by rw [B.state]; rfl
    obtain ⟨t, a1, o, b1, b2, b3, b4⟩ := body p e s m args below meth c s₁ B hml hP s₁ hh0 (Stand.of_body B)
    exact ⟨t, o, a1, b1, b2, b3, b4⟩
theorem od_D {A : Nat → Prop} {L : List Nat} {f : Nat → va_E} {ou : Nat} {e : va_E} (hL : L.Nodup) (hA : ∀ a, a ∈ L → A a) (hou : ¬ A ou) : va_D (fun q => A q ∨ q = ou) ((ou, e) :: va_pl L f) := by
  have h := pl_D (f := f) hL hA
  refine ⟨fun i j p q hi hj he => ?_, fun k q hk => ?_⟩
  · cases i with
    | zero =>
      cases j with
      | zero => rfl
      | succ j =>
        rw [List.getElem?_cons_zero] at hi; rw [List.getElem?_cons_succ] at hj
        cases hi
        exact absurd (h.2 j q hj) (by rw [← he]; exact hou)
    | succ i =>
      cases j with
      | zero =>
        rw [List.getElem?_cons_zero] at hj; rw [List.getElem?_cons_succ] at hi
        cases hj
        exact absurd (h.2 i p hi) (by rw [he]; exact hou)
      | succ j =>
        rw [List.getElem?_cons_succ] at hi hj
        rw [h.1 i j p q hi hj he]
  · cases k with
    | zero => rw [List.getElem?_cons_zero] at hk; cases hk; exact Or.inr rfl
    | succ k => rw [List.getElem?_cons_succ] at hk; exact Or.inl (h.2 k q hk)
section HH
variable {p : Program} {l : Launch} {e : Env} {R : Room} {s : State} {m : MethodId} {args : Array Value} {below : List Frame} {meth : Method} {c : Code} {H : Heap} {locs : List Loc} {cells slots : Nat} {Q : State → Prop}
variable {cc : ByteArray} {pc : Nat} {ls : Array Slot} {rest st0 : List Value} {D : va_G} {cl : List vw_C} {A : Nat → Prop} {a : Array Value} {tys : List (ClassId × FieldType)} {ws : va_W} {H0 : Heap}
theorem st_l (hx : p.tables.exec = Jvm.exec) (hb : c.code = cc) (hK : va_K D cl tys s) (hP : va_P D cl ws H) (hD : va_D A ws) (hS : va_S A H0 H locs) (q0 t0 : Nat) {cA : ClassId} {n b : Nat} {f : Nat → Int64} (ha : ws[q0]? = some (b, .inl (cA, n, .inr (.inl f)))) (ht : tys[t0]? = some (cA, .long)) {k : Nat} {x : Int64} (hk : k < n) (hn : n < 2 ^ 31) (hdg : decode cc pc = .ok (.lastore, 1))
    (kk : ∀ (H1 : Heap) (locs1 : List Loc), va_P D cl (ws.set q0 (b, .inl (cA, n, .inr (.inl (vp_updL f k x))))) H1 → va_D A (ws.set q0 (b, .inl (cA, n, .inr (.inl (vp_updL f k x))))) → va_S A H0 H1 locs1 → W p l e R s m args below meth c H1 locs1 cells slots Q (F0 m (pc + 1) ls rest)) : W p l e R s m args below meth c H locs cells slots Q (F0 m pc ls (.long x :: .int (nI k) :: .ref b :: rest)) := by
  refine va_last hx hb hK hP hD hS q0 t0 ha ht (vp_in_nI hk hn) hdg ?_
  rw [nI_clamp (by omega)]; exact kk
theorem xx_call {E : String} (hr : vx_Run p l e R s m args below meth c s.heap [] 0 0 1 6 (F0 m pc ls st0) rest (xQc a) (xXC E) (fun _ => False))
    (kk : ∀ (q9 : Addr) (ce : Cell) (H1 : Heap), s.heap.size ≤ H1.size → (∀ q : Nat, q < s.heap.size → H1[q]? = s.heap[q]?) → H1[q9]? = some ce → ce.vm = .none → s.vm.findClass E = some ce.cls → vx_W p l e R s m args below meth c H1 [] 1 6 Q (F0 m pc ls rest) q9) : W p l e R s m args below meth c s.heap [] 0 0 Q (F0 m pc ls st0) := by
  intro T hT X
  rcases hr T hT X with ⟨v, st₀, t, T', L, h0, X', hL, e1, e2, hq, st⟩ | ⟨q, st₀, t, T', L, E', ce, h0, X', hL, e1, e2, ⟨hE, hF⟩, hce, hcv, hcl, st⟩
  · exact hq.elim
  · subst hE
    have hnil : L = [] := by
      cases L with
      | nil => rfl
      | cons y ys => exact (hL y List.mem_cons_self).elim
    subst hnil
    obtain ⟨t2, a1, b1⟩ := kk q ce T'.heap (by rw [e1, ← h0]; exact hF.1) (fun y hy => by rw [e1, ← h0]; exact hF.2 y (by rw [h0]; exact hy) (fun h => h)) (by rw [e1]; exact hce) hcv hcl T' rfl X'
    exact ⟨t2, st.trans a1, b1⟩
end HH
/-- a contract with a weaker start -/
theorem met_pre {l : Launch} {y : MethodName} {ws : List Cond} {rm : Room} {Pc Pc' : Array Value → State → Prop} {Qc Qc' : Array Value → State → Outcome → State → Prop} {mc ms : Nat} {free : Addr → Prop} (hM : Met l y ws rm Pc Qc mc ms free) (h : ∀ a U, Pc' a U → Pc a U) (h2 : ∀ a st o t, Qc a st o t → Qc' a st o t) : Met l y ws rm Pc' Qc' mc ms free := by
  intro p e ha hc hk s m args below hf happ hp ht
  obtain ⟨k, o, g1, g2, g3, g4, g5⟩ := hM p e ha hc hk s m args below hf happ (h _ _ hp) ht
  exact ⟨k, o, g1, g2, g3, h2 _ _ _ _ g4, g5⟩
theorem vx_pre {l : Launch} {y : MethodName} {ws : List Cond} {rm : Room} {Pc Pc' : Array Value → State → Prop} {Qc : Array Value → State → Outcome → State → Prop} {XC : String → State → State → Prop} {mc ms : Nat} {free : Addr → Prop} (hM : vx_Met l y ws rm Pc Qc XC mc ms free) (h : ∀ a U, Pc' a U → Pc a U) : vx_Met l y ws rm Pc' Qc XC mc ms free := by
  intro p e ha hc hk s m args below hf happ hp ht
  exact hM p e ha hc hk s m args below hf happ (h _ _ hp) ht
