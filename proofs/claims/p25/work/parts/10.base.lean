/-! my own words: what a state of the two systems is, and rows that every walk uses -/
def b2i (b : Bool) : Int32 := if b = true then 1 else 0
theorem b2i_0 {b : Bool} (h : b2i b = 0) : b = false := by
  cases b with
  | false => rfl
  | true => exact absurd h (by decide)
theorem b2i_1 {b : Bool} (h : ¬ b2i b = 0) : b = true := by
  cases b with
  | true => rfl
  | false => exact absurd rfl h
theorem b2i_bf {b : Bool} (h : b = false) : ¬ b = true := by rw [h]; decide
theorem nar_b2i (b : Bool) : narrow .boolean (.int (b2i b)) = .int (b2i b) := by cases b <;> rfl
theorem fit_b2i (b : Bool) : fits .boolean (.int (b2i b)) = true := by cases b <;> rfl
theorem vpn_b2i (b : Bool) : vp_nar .boolean (b2i b) = b2i b := by cases b <;> rfl
abbrev rmr (f n : Nat) : Room := { frames := f, cells := 0, slots := 0, locals := n }
/-- links of nest mates -/
def NW (U : State) : Prop := va_Nw (.methodLinkNest RX2 21 yX4_contains RX4) U ∧ va_Nw (.methodLinkNest RX3 46 yX4_contains RX4) U ∧ va_Nw (.methodLinkNest RX4 11 yX2_init RX4) U ∧ va_Nw (.methodLinkNest RX4 25 yX3_init RX4) U
theorem NW.warm {s U : State} (hW : s.WarmedH U.vm) (h : NW s) : NW U := ⟨h.1.warmM hW, h.2.1.warmM hW, h.2.2.1.warmM hW, h.2.2.2.warmM hW⟩
theorem NW.same {s U : State} (e : s.vm = U.vm) (h : NW s) : NW U := ⟨h.1.same rfl e, h.2.1.same rfl e, h.2.2.1.same rfl e, h.2.2.2.same rfl e⟩
/-- a world that is read -/
def rdP (D : va_G) (tys : List (ClassId × FieldType)) (ws : va_W) (U : State) : Prop := va_P D vwCl ws U.heap ∧ va_K D vwCl tys U ∧ NW U
theorem rd_blind {D : va_G} {tys : List (ClassId × FieldType)} {ws : va_W} {av : List Value} : FrameBlind (va_Pc av (rdP D tys ws)) := by
  intro a U g mk h
  obtain ⟨e, hP, hK, hN⟩ := h
  exact ⟨e, hP, va_K.moved (u := U) (U := U.calling g mk a) (Vm.Alike.refl U.vm) hK, NW.same (s := U) (U := U.calling g mk a) rfl hN⟩
theorem rd_pre {D : va_G} {tys : List (ClassId × FieldType)} {ws : va_W} {av : List Value} {s : State} {H : Heap} (hP : va_P D vwCl ws H) (hK : va_K D vwCl tys s) (hN : NW s) : ∀ U : State, U.heap = H → s.WarmedH U.vm → va_Pc av (rdP D tys ws) av.toArray U :=
  fun _ hU hW => ⟨rfl, by rw [hU]; exact hP, va_K.moved hW.alike hK, hN.warm hW⟩
theorem nf_blind {av : List Value} : FrameBlind (va_Pc av (fun _ => True)) := fun _ _ _ _ h => h
theorem iinc_n (n : Nat) : nI n + Int32.ofInt 1 = nI (n + 1) := by
  have e : Int32.ofInt 1 = 1 := by decide
  rw [e]; exact nI_1 n
theorem ii_1 (x : Int32) : x + Int32.ofInt 1 = x + 1 := by
  have e : Int32.ofInt 1 = 1 := by decide
  rw [e]
theorem ii_m1 (x : Int32) : x + Int32.ofInt (-1) = x + (-1) := by
  have e : Int32.ofInt (-1) = -1 := by decide
  rw [e]
theorem lt_no {i N : Nat} (h : i < N) (hN : N < 2 ^ 31) : ¬ nI N ≤ nI i := nI_ge h hN
theorem lt_yes {i N : Nat} (h : N ≤ i) (hN : i < 2 ^ 31) : nI N ≤ nI i := nI_le h hN
section BR
variable {p : Program} {l : Launch} {e : Env} {R : Room} {s : State} {m : MethodId} {args : Array Value} {below : List Frame} {meth : Method} {c : Code} {H : Heap} {locs : List Loc} {cells slots : Nat} {Q : State → Prop}
variable {cc : ByteArray} {pc : Nat} {ls : Array Slot} {rest st0 : List Value} {D : va_G} {cl : List vw_C} {A : Nat → Prop} {a : Nat} {tys : List (ClassId × FieldType)} {ws : va_W} {H0 : Heap}
theorem iadd_n {x y : Nat} (hx : p.tables.exec = Jvm.exec) (hb : c.code = cc) (hdg : decode cc pc = .ok (.iadd, 1)) (k : W p l e R s m args below meth c H locs cells slots Q (F0 m (pc + 1) ls (.int (nI (x + y)) :: rest))) : W p l e R s m args below meth c H locs cells slots Q (F0 m pc ls (.int (nI y) :: .int (nI x) :: rest)) := by
  refine lv_iadd hx hb hdg ?_
  rw [nI_add]; exact k
theorem imul_n {x y : Nat} (hx : p.tables.exec = Jvm.exec) (hb : c.code = cc) (hdg : decode cc pc = .ok (.imul, 1)) (k : W p l e R s m args below meth c H locs cells slots Q (F0 m (pc + 1) ls (.int (nI (x * y)) :: rest))) : W p l e R s m args below meth c H locs cells slots Q (F0 m pc ls (.int (nI y) :: .int (nI x) :: rest)) := by
  refine lv_imul hx hb hdg ?_
  rw [pk_mul]; exact k
theorem isub_n {x y : Nat} (h : y ≤ x) (hx : p.tables.exec = Jvm.exec) (hb : c.code = cc) (hdg : decode cc pc = .ok (.isub, 1)) (k : W p l e R s m args below meth c H locs cells slots Q (F0 m (pc + 1) ls (.int (nI (x - y)) :: rest))) : W p l e R s m args below meth c H locs cells slots Q (F0 m pc ls (.int (nI y) :: .int (nI x) :: rest)) := by
  refine lv_isub hx hb hdg ?_
  rw [pk_sub h]; exact k
theorem ld_i (hx : p.tables.exec = Jvm.exec) (hb : c.code = cc) (hK : va_K D cl tys s) (hP : va_P D cl ws H) (q0 t0 : Nat) {cA : ClassId} {n : Nat} {f : Nat → Int32} (ha : ws[q0]? = some (a, .inl (cA, n, .inl f))) (ht : tys[t0]? = some (cA, .int)) {k : Nat} (hk : k < n) (hn : n < 2 ^ 31) (hdg : decode cc pc = .ok (.iaload, 1))
    (kk : W p l e R s m args below meth c H locs cells slots Q (F0 m (pc + 1) ls (.int (f k) :: rest))) : W p l e R s m args below meth c H locs cells slots Q (F0 m pc ls (.int (nI k) :: .ref a :: rest)) := by
  refine va_iald hx hb hK hP q0 t0 ha ht (vp_in_nI hk hn) hdg ?_
  rw [nI_clamp (by omega)]; exact kk
theorem ld_z (hx : p.tables.exec = Jvm.exec) (hb : c.code = cc) (hK : va_K D cl tys s) (hP : va_P D cl ws H) (q0 t0 : Nat) {cA : ClassId} {n : Nat} {f : Nat → Int32} (ha : ws[q0]? = some (a, .inl (cA, n, .inl f))) (ht : tys[t0]? = some (cA, .boolean)) {k : Nat} (hk : k < n) (hn : n < 2 ^ 31) (hdg : decode cc pc = .ok (.baload, 1))
    (kk : W p l e R s m args below meth c H locs cells slots Q (F0 m (pc + 1) ls (.int (f k) :: rest))) : W p l e R s m args below meth c H locs cells slots Q (F0 m pc ls (.int (nI k) :: .ref a :: rest)) := by
  refine va_zald hx hb hK hP q0 t0 ha ht (vp_in_nI hk hn) hdg ?_
  rw [nI_clamp (by omega)]; exact kk
theorem st_i (hx : p.tables.exec = Jvm.exec) (hb : c.code = cc) (hK : va_K D cl tys s) (hP : va_P D cl ws H) (hD : va_D A ws) (hS : va_S A H0 H locs) (q0 t0 : Nat) {cA : ClassId} {n : Nat} {f : Nat → Int32} (ha : ws[q0]? = some (a, .inl (cA, n, .inl f))) (ht : tys[t0]? = some (cA, .int)) {k : Nat} {x : Int32} (hk : k < n) (hn : n < 2 ^ 31) (hdg : decode cc pc = .ok (.iastore, 1))
    (kk : ∀ (H1 : Heap) (locs1 : List Loc), va_P D cl (ws.set q0 (a, .inl (cA, n, .inl (upd f k x)))) H1 → va_D A (ws.set q0 (a, .inl (cA, n, .inl (upd f k x)))) → va_S A H0 H1 locs1 → W p l e R s m args below meth c H1 locs1 cells slots Q (F0 m (pc + 1) ls rest)) : W p l e R s m args below meth c H locs cells slots Q (F0 m pc ls (.int x :: .int (nI k) :: .ref a :: rest)) := by
  refine va_iast hx hb hK hP hD hS q0 t0 ha ht (vp_in_nI hk hn) hdg ?_
  rw [nI_clamp (by omega)]; exact kk
theorem st_z (hx : p.tables.exec = Jvm.exec) (hb : c.code = cc) (hK : va_K D cl tys s) (hP : va_P D cl ws H) (hD : va_D A ws) (hS : va_S A H0 H locs) (q0 t0 : Nat) {cA : ClassId} {n : Nat} {f : Nat → Int32} (ha : ws[q0]? = some (a, .inl (cA, n, .inl f))) (ht : tys[t0]? = some (cA, .boolean)) {k : Nat} {x : Int32} (hk : k < n) (hn : n < 2 ^ 31) (hv : vp_nar .boolean x = x) (hdg : decode cc pc = .ok (.bastore, 1))
    (kk : ∀ (H1 : Heap) (locs1 : List Loc), va_P D cl (ws.set q0 (a, .inl (cA, n, .inl (upd f k x)))) H1 → va_D A (ws.set q0 (a, .inl (cA, n, .inl (upd f k x)))) → va_S A H0 H1 locs1 → W p l e R s m args below meth c H1 locs1 cells slots Q (F0 m (pc + 1) ls rest)) : W p l e R s m args below meth c H locs cells slots Q (F0 m pc ls (.int x :: .int (nI k) :: .ref a :: rest)) := by
  refine va_zast hx hb hK hP hD hS q0 t0 ha ht (vp_in_nI hk hn) hdg ?_
  rw [nI_clamp (by omega), hv]; exact kk
theorem vs_callSi {post : Int32 → Prop} {ar : Array Value} (hr : va_Run p l e R s m args below meth c H locs cells slots 0 0 (F0 m pc ls st0) rest (vp_Si post ar) (fun _ => False))
    (kk : ∀ r : Int32, post r → W p l e R s m args below meth c H locs cells slots Q (F0 m (pc + 3) ls (.int r :: rest))) : W p l e R s m args below meth c H locs cells slots Q (F0 m pc ls st0) := by
  intro T hT X
  obtain ⟨v, st₀, t, T', L, h0, X', hL, e1, e2, ⟨r, hv, hp, hh⟩, st⟩ := hr T hT X
  cases hv
  obtain ⟨t2, a1, b1⟩ := kk r hp T' (by rw [e1, hh, h0]) (Stand.forget X' (fun q h => (hL q h).elim))
  exact ⟨t2, st t2 a1, b1⟩
end BR
theorem wd_of {A : Nat → Prop} {ad : Nat → Nat} {n : Nat} {ws : va_W} (h : ws.map Prod.fst = (List.range n).map ad) (h1 : ∀ i j, i < n → j < n → ad i = ad j → i = j) (h2 : ∀ j, j < n → A (ad j)) : va_D A ws := by
  have key : ∀ (k : Nat) (q : Nat × va_E), ws[k]? = some q → k < n ∧ q.1 = ad k := by
    intro k q hk
    have e : (ws.map Prod.fst)[k]? = some q.1 := by rw [List.getElem?_map, hk]; rfl
    rw [h, List.getElem?_map] at e
    cases hr : (List.range n)[k]? with
    | none => rw [hr] at e; cases e
    | some v =>
      rw [hr] at e
      obtain ⟨hlt, hv⟩ := List.getElem?_eq_some_iff.mp hr
      rw [List.getElem_range] at hv
      rw [List.length_range] at hlt
      have e2 : ad v = q.1 := Option.some.inj e
      exact ⟨hlt, by rw [← e2, hv]⟩
  refine ⟨fun i j p q hi hj he => ?_, fun k q hk => ?_⟩
  · obtain ⟨a1, a2⟩ := key i p hi
    obtain ⟨b1, b2⟩ := key j q hj
    exact h1 i j a1 b1 (by rw [← a2, ← b2, he])
  · obtain ⟨a1, a2⟩ := key k q hk
    rw [a2]; exact h2 k a1
/-- the model's world: its object and its fifteen arrays; F the arrays, g the numbers, by their places; own, mapped, named and the bits by names -/
abbrev mdW (cI cZ : ClassId) (ad : Nat → Nat) (F : Nat → Nat → Int32) (ow mp : Nat → Int32) (nm gb ob : Int32) (ik kp tu : Nat → Int32) (g : Nat → Int32) : va_W :=
  [(ad 0, .inr (6, [.ref (ad 1), .ref (ad 2), .ref (ad 3), .ref (ad 4), .ref (ad 5), .ref (ad 6), .int (g 6), .ref (ad 7), .ref (ad 8), .ref (ad 9), .ref (ad 10), .ref (ad 11), .ref (ad 12), .int nm, .int gb, .int ob, .ref (ad 13), .ref (ad 14), .ref (ad 15), .int (g 19)])),
   (ad 1, .inl (cI, 6, .inl (F 1))), (ad 2, .inl (cI, 6, .inl (F 2))), (ad 3, .inl (cI, 20, .inl (F 3))), (ad 4, .inl (cI, 20, .inl (F 4))), (ad 5, .inl (cZ, 20, .inl (F 5))), (ad 6, .inl (cI, 20, .inl (F 6))),
   (ad 7, .inl (cI, 120, .inl (F 7))), (ad 8, .inl (cZ, 120, .inl (F 8))), (ad 9, .inl (cI, 120, .inl (F 9))), (ad 10, .inl (cI, 120, .inl (F 10))), (ad 11, .inl (cI, 8, .inl ow)), (ad 12, .inl (cI, 8, .inl mp)),
   (ad 13, .inl (cZ, 20, .inl ik)), (ad 14, .inl (cI, 160, .inl kp)), (ad 15, .inl (cZ, 20, .inl tu))]
def apD (n : Nat) (A : Nat → Prop) (ad : Nat → Nat) : Prop := (∀ i j, i < n → j < n → ad i = ad j → i = j) ∧ ∀ j, j < n → A (ad j)
theorem md_D {cI cZ : ClassId} {ad : Nat → Nat} {F : Nat → Nat → Int32} {ow mp : Nat → Int32} {nm gb ob : Int32} {ik kp tu : Nat → Int32} {g : Nat → Int32} {A : Nat → Prop} (h : apD 16 A ad) : va_D A (mdW cI cZ ad F ow mp nm gb ob ik kp tu g) := wd_of (n := 16) (ad := ad) rfl h.1 h.2
theorem mdW_P {D : va_G} {H : Heap} {cI cZ : ClassId} {ad : Nat → Nat} {F F' : Nat → Nat → Int32} {ow mp ow' mp' : Nat → Int32} {nm gb ob nm' gb' ob' : Int32} {ik kp tu ik' kp' tu' : Nat → Int32} {g g' : Nat → Int32} (e1 : F = F') (e2 : ow = ow') (e3 : mp = mp') (e4 : nm = nm') (e5 : gb = gb') (e6 : ob = ob') (e7 : ik = ik') (e8 : kp = kp') (e9 : tu = tu') (e10 : g = g') (h : va_P D vwCl (mdW cI cZ ad F ow mp nm gb ob ik kp tu g) H) : va_P D vwCl (mdW cI cZ ad F' ow' mp' nm' gb' ob' ik' kp' tu' g') H := by
  subst e1; subst e2; subst e3; subst e4; subst e5; subst e6; subst e7; subst e8; subst e9; subst e10; exact h
/-- the class's groups -/
abbrev grW (cI : ClassId) (ad : Nat → Nat) (pe inn ev : Nat → Int32) : va_W :=
  [(ad 0, .inr (3, [.ref (ad 1), .ref (ad 2), .ref (ad 3)])), (ad 1, .inl (cI, 6, .inl pe)), (ad 2, .inl (cI, 6, .inl inn)), (ad 3, .inl (cI, 6, .inl ev))]
theorem gr_D {cI : ClassId} {ad : Nat → Nat} {pe inn ev : Nat → Int32} {A : Nat → Prop} (h : apD 4 A ad) : va_D A (grW cI ad pe inn ev) := wd_of (n := 4) (ad := ad) rfl h.1 h.2
theorem grW_P {D : va_G} {H : Heap} {cI : ClassId} {ad : Nat → Nat} {pe inn ev pe' inn' ev' : Nat → Int32} (e1 : pe = pe') (e2 : inn = inn') (e3 : ev = ev') (h : va_P D vwCl (grW cI ad pe inn ev) H) : va_P D vwCl (grW cI ad pe' inn' ev') H := by
  subst e1; subst e2; subst e3; exact h
/-- the class's mapping -/
abbrev mpW (cI : ClassId) (ad : Nat → Nat) (he gv : Nat → Int32) (gp gb ob nm lo : Int32) : va_W :=
  [(ad 0, .inr (4, [.ref (ad 1), .ref (ad 2), .int gp, .int gb, .int ob, .int nm, .int lo])), (ad 1, .inl (cI, 8, .inl he)), (ad 2, .inl (cI, 8, .inl gv))]
theorem mp_D {cI : ClassId} {ad : Nat → Nat} {he gv : Nat → Int32} {gp gb ob nm lo : Int32} {A : Nat → Prop} (h : apD 3 A ad) : va_D A (mpW cI ad he gv gp gb ob nm lo) := wd_of (n := 3) (ad := ad) rfl h.1 h.2
theorem mpW_P {D : va_G} {H : Heap} {cI : ClassId} {ad : Nat → Nat} {he gv he' gv' : Nat → Int32} {gp gb ob nm lo gp' gb' ob' nm' lo' : Int32} (e1 : he = he') (e2 : gv = gv') (e3 : gp = gp') (e4 : gb = gb') (e5 : ob = ob') (e6 : nm = nm') (e7 : lo = lo') (h : va_P D vwCl (mpW cI ad he gv gp gb ob nm lo) H) : va_P D vwCl (mpW cI ad he' gv' gp' gb' ob' nm' lo') H := by
  subst e1; subst e2; subst e3; subst e4; subst e5; subst e6; subst e7; exact h
section TE
variable {p : Program} {l : Launch} {e : Env} {R : Room} {s : State} {m : MethodId} {args : Array Value} {below : List Frame} {meth : Method} {c : Code} {H : Heap} {locs : List Loc} {cells slots : Nat} {Q : State → Prop} {pc : Nat} {ls : Array Slot} {rest : List Value}
theorem top_eq {x y : Int32} (h : x = y) (k : W p l e R s m args below meth c H locs cells slots Q (F0 m pc ls (.int y :: rest))) : W p l e R s m args below meth c H locs cells slots Q (F0 m pc ls (.int x :: rest)) := by
  rw [h]; exact k
end TE
def i2n (x : Int32) : Nat := x.toNatClampNeg
theorem i2n_nI {k : Nat} (h : k < 2 ^ 31) : i2n (nI k) = k := nI_clamp h
theorem of_nI {x : Int32} {k : Nat} (h : x = nI k) (hk : k < 2 ^ 31) : x = nI (i2n x) := by rw [h, i2n_nI hk]
theorem up_cg {α : Type} {f f' : Nat → α} {v v' : α} (h : f = f') (k : Nat) (hv : v = v') : va_up f k v = va_up f' k v' := by subst h; subst hv; rfl
section BQ
variable {p : Program} {l : Launch} {e : Env} {R : Room} {s : State} {m : MethodId} {args : Array Value} {below : List Frame} {meth : Method} {c : Code} {H : Heap} {locs : List Loc} {cells slots : Nat} {Q : State → Prop}
variable {cc : ByteArray} {pc : Nat} {ls : Array Slot} {rest st0 : List Value} {D : va_G} {cl : List vw_C} {A : Nat → Prop} {a : Nat} {tys : List (ClassId × FieldType)} {ws : va_W} {H0 : Heap}
theorem ld_q (hx : p.tables.exec = Jvm.exec) (hb : c.code = cc) (hK : va_K D cl tys s) (hP : va_P D cl ws H) (q0 t0 : Nat) {cA : ClassId} {C : String} {n : Nat} {f : Nat → Option Nat} (ha : ws[q0]? = some (a, .inl (cA, n, .inr (.inr (.inr (.inr f)))))) (ht : tys[t0]? = some (cA, .object C)) {k : Nat} (hk : k < n) (hn : n < 2 ^ 31) (hdg : decode cc pc = .ok (.aaload, 1))
    (kk : W p l e R s m args below meth c H locs cells slots Q (F0 m (pc + 1) ls (va_rf (f k) :: rest))) : W p l e R s m args below meth c H locs cells slots Q (F0 m pc ls (.int (nI k) :: .ref a :: rest)) := by
  refine va_aldq hx hb hK hP q0 t0 ha ht (vp_in_nI hk hn) hdg ?_
  rw [nI_clamp (by omega)]; exact kk
theorem top_rf {r : Option Nat} {q : Nat} (h : r = some q) (k : W p l e R s m args below meth c H locs cells slots Q (F0 m pc ls (.ref q :: rest))) : W p l e R s m args below meth c H locs cells slots Q (F0 m pc ls (va_rf r :: rest)) := by
  rw [h]; exact k
theorem top_rn {r : Option Nat} (h : r = none) (k : W p l e R s m args below meth c H locs cells slots Q (F0 m pc ls (.null :: rest))) : W p l e R s m args below meth c H locs cells slots Q (F0 m pc ls (va_rf r :: rest)) := by
  rw [h]; exact k
end BQ
abbrev refs (cO : ClassId) (m : Nat) (q : Nat → Option Nat) : va_E := .inl (cO, m, .inr (.inr (.inr (.inr q))))
def Hs (L : List Nat) (f : Nat → va_E) (a : Nat) (e : va_E) : Prop := a ∈ L ∧ f a = e
theorem Hs.at {L : List Nat} {f : Nat → va_E} {a : Nat} {e : va_E} (h : Hs L f a e) : ∃ k : Nat, (va_pl L f)[k]? = some (a, e) := by
  obtain ⟨h1, h2⟩ := h
  obtain ⟨k, hk⟩ := va_pl_get (X := []) (f := f) h1
  rw [h2] at hk
  exact ⟨k, hk⟩
