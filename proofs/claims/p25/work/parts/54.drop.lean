/-! an entry leaves a row -/
def CO (U : State) : Prop := va_Nw (.castable RX0 "java/lang/Object") U ∧ va_Nw (.castable RX1 "java/lang/Object") U
theorem CO.move {s U : State} (hW : s.WarmedH U.vm) (h : CO s) : CO U := ⟨h.1.warmC hW, h.2.warmC hW⟩
theorem rdC_blind {D : va_G} {tys : List (ClassId × FieldType)} {ws : va_W} {av : List Value} : FrameBlind (va_Pc av (rdY D tys ws CO)) := by
  intro a U g mk h
  obtain ⟨e, hP, hX⟩ := h
  exact ⟨e, (rd_blind a U g mk ⟨e, hP⟩).2, CO.move (s := U) (U := U.calling g mk a) (State.WarmedH.refl U) hX⟩
theorem rdC_pre {D : va_G} {tys : List (ClassId × FieldType)} {ws : va_W} {av : List Value} {s : State} {H : Heap} (hP : va_P D vwCl ws H) (hK : va_K D vwCl tys s) (hN : NW s) (hY : CO s) : ∀ U : State, U.heap = H → s.WarmedH U.vm → va_Pc av (rdY D tys ws CO) av.toArray U :=
  fun U hU hW => ⟨rfl, (rd_pre (av := av) hP hK hN U hU hW).2, hY.move hW⟩
section AD
variable {cI cO : ClassId} {L : List Nat} {f : Nat → va_E} {tg : Nat → Nat} {AD AD' : Nat → Nat → Nat} {mc mc' : Nat → Int32} {F F' : Nat → Nat → Int32} {ik kp tu : Nat → Int32} {n : Nat} {he gv : Nat → Int32} {gp gb ob nm lo : Int32}
theorem RpFix.ad (h : RpFix cI L f AD F) (e : AD' 0 = AD 0) : RpFix cI L f AD' F := by
  unfold RpFix at *; rw [e]; exact h
theorem RpMap.ad (h : RpMap cI L f AD he gv gp gb ob nm lo) (e : AD' 0 = AD 0) : RpMap cI L f AD' he gv gp gb ob nm lo := by
  unfold RpMap at *; rw [e]; exact h
theorem RpTree.ad (h : RpTree cO L f AD mc n) (e : AD' 0 = AD 0) (e1 : AD' 1 = AD 1) (e6 : AD' 6 = AD 6) (em : mc' 0 = mc 0) : RpTree cO L f AD' mc' n := by
  unfold RpTree at *; rw [e, e1, e6, em]; exact h
theorem RpTag.ad (h : RpTag tg AD n) (e : AD' 0 = AD 0) (e1 : AD' 1 = AD 1) (e2 : AD' 2 = AD 2) (e3 : AD' 3 = AD 3) (e6 : AD' 6 = AD 6) : RpTag tg AD' n := by
  unfold RpTag at *; rw [e, e1, e2, e3, e6]; exact h
theorem RpFold.ad {i : Nat} (h : RpFold cI cO L f tg AD mc F ik kp tu i) (e1 : AD' 1 = AD 1) (e2 : AD' 2 = AD 2) (e3 : AD' 3 = AD 3) (e4 : AD' 4 = AD 4) (e7 : AD' 7 = AD 7) (e5 : ∀ j, j < i2n (F 6 i) → AD' 5 (6 * i + j) = AD 5 (6 * i + j)) (em : mc' (i + 1) = mc (i + 1)) : RpFold cI cO L f tg AD' mc' F ik kp tu i := by
  obtain ⟨a1, a2, a3, a4, a5⟩ := h
  have ep : parR AD' F i = parR AD F i := by unfold parR; rw [e1]
  unfold RpFold
  rw [ep, e1, e2, e3, e4, e7, em]
  refine ⟨a1, a2, a3, ?_, fun j hj => by rw [e5 j hj]; exact a5 j hj⟩
  rcases a4 with q | ⟨t4, q, b1, b2⟩
  · exact Or.inl q
  · exact Or.inr ⟨t4, q, b1, fun j hj => by rw [e5 j hj]; exact b2 j hj⟩
end AD
def rmAD (AD : Nat → Nat → Nat) (x y k : Nat) : Nat → Nat → Nat := fun g => if g = 5 then fun j => if 6 * x + y ≤ j ∧ j < 6 * x + k then AD 5 (j + 1) else AD 5 j else AD g
theorem rmAD_ne {AD : Nat → Nat → Nat} {x y k g : Nat} (h : g ≠ 5) : rmAD AD x y k g = AD g := if_neg h
theorem rmAD_5 {AD : Nat → Nat → Nat} {x y k j : Nat} : rmAD AD x y k 5 j = if 6 * x + y ≤ j ∧ j < 6 * x + k then AD 5 (j + 1) else AD 5 j := rfl
def alA (AD : Nat → Nat → Nat) (x : Nat) : Nat → Prop := fun q => q = AD 2 x ∨ q = AD 4 x
section RM
variable {D : va_G} {H H1 : Heap} {cI cO : ClassId} {L : List Nat} {f : Nat → va_E} {tg : Nat → Nat} {AD : Nat → Nat → Nat} {mc : Nat → Int32} {F F' : Nat → Nat → Int32} {ik kp tu : Nat → Int32} {n : Nat} {he gv : Nat → Int32} {gp gb ob nm lo : Int32} {A : Nat → Prop} {x y k : Nat} {qd : Nat → Option Nat}
/-- the row's array of a folder with entries -/
theorem Rep.da2 (h : Rep cI cO L f tg AD mc F ik kp tu n he gv gp gb ob nm lo) (hx : x < n) (hj : 0 < i2n (F 6 x)) : tg (AD 4 x) = 400 + x ∧ ∃ q : Nat → Option Nat, Hs L f (AD 4 x) (refs cO 10 q) ∧ ∀ j, j < i2n (F 6 x) → q j = some (AD 5 (6 * x + j)) := by
  rcases (h.2.2.2.1 x hx).2.2.2.1 with ⟨e, _⟩ | ⟨t, q, h1, h2⟩
  · rw [e] at hj; exact absurd hj (by decide)
  · exact ⟨t, q, h1, h2⟩
theorem Rep.alAp (h : Rep cI cO L f tg AD mc F ik kp tu n he gv gp gb ob nm lo) (hx : x < n) (t4 : tg (AD 4 x) = 400 + x) : apD 2 (alA AD x) (fun z => AD (2 + 2 * z) x) := by
  have hn22 := h.n22
  have t2 := (h.2.2.2.2.2.2 x hx).2.1
  refine ⟨fun u v hu hv e => ?_, fun v hv => ?_⟩
  · have e' : AD (2 + 2 * u) x = AD (2 + 2 * v) x := e
    rcases (show u = 0 ∨ u = 1 by omega) with rfl | rfl <;> rcases (show v = 0 ∨ v = 1 by omega) with rfl | rfl
    · rfl
    · have e2 : AD 2 x = AD 4 x := e'
      rw [e2, t4] at t2; omega
    · have e2 : AD 4 x = AD 2 x := e'
      rw [← e2, t4] at t2; omega
    · rfl
  · rcases (show v = 0 ∨ v = 1 by omega) with rfl | rfl
    · exact Or.inl rfl
    · exact Or.inr rfl
theorem Rep.alP (h : Rep cI cO L f tg AD mc F ik kp tu n he gv gp gb ob nm lo) (hx : x < n) (hq : Hs L f (AD 4 x) (refs cO 10 qd)) (hP : va_P D vwCl (va_pl L f) H) : va_P D vwCl (alW cO (fun z => AD (2 + 2 * z) x) 10 qd (mc (x + 1)) (F 6 x)) H := by
  refine va_P_in hP ?_
  intro q hq2
  simp only [List.mem_cons, List.not_mem_nil, or_false] at hq2
  rcases hq2 with rfl | rfl
  · exact (h.ro hx).mem
  · exact hq.mem
theorem Rep.alSub (h : Rep cI cO L f tg AD mc F ik kp tu n he gv gp gb ob nm lo) (hx : x < n) (hq : Hs L f (AD 4 x) (refs cO 10 qd)) (hA : ∀ a, a ∈ L → A a) {q : Nat} (hq2 : alA AD x q) : A q := by
  rcases hq2 with rfl | rfl
  · exact hA _ (h.ro hx).1
  · exact hA _ hq.1
theorem Rep.alN (h : Rep cI cO L f tg AD mc F ik kp tu n he gv gp gb ob nm lo) (hx : x < n) (t4 : tg (AD 4 x) = 400 + x) (hq2 : ∀ j, j < i2n (F 6 x) → qd j = some (AD 5 (6 * x + j))) : ∀ j, j < i2n (F 6 x) → ∀ z, qd j = some z → ¬ alA AD x z := by
  intro j hj z hz hc
  have hn22 := h.n22
  have e := hq2 j hj
  rw [hz] at e
  cases e
  have t5 := ((h.2.2.2.1 x hx).2.2.2.2 j hj).2
  have t2 := (h.2.2.2.2.2.2 x hx).2.1
  rcases hc with hc | hc
  · rw [hc, t2] at t5; omega
  · rw [hc, t4] at t5; omega
theorem Rep.alY {s : State} {tys : List (ClassId × FieldType)} (h : Rep cI cO L f tg AD mc F ik kp tu n he gv gp gb ob nm lo) (hx : x < n) (hq2 : ∀ j, j < i2n (F 6 x) → qd j = some (AD 5 (6 * x + j))) (hK : va_K D vwCl tys s) (hP : va_P D vwCl (va_pl L f) H) (hC : CO s) : ∀ j, j < i2n (F 6 x) → ∀ z, qd j = some z → va_Any "java/lang/Object" s H z := by
  intro j hj z hz
  have e := hq2 j hj
  rw [hz] at e
  cases e
  obtain ⟨k5, e5⟩ := (h.en hx hj).at
  exact va_rAny hK hP e5 (r := (RX0, TX0, 4)) rfl (vb_asgC hC.1)
theorem Rep.call_rm (h : Rep cI cO L f tg AD mc F ik kp tu n he gv gp gb ob nm lo) (hM : okC F n) (hx : x < n) (hk : i2n (F 6 x) = k + 1) (hy : y ≤ k) (t4 : tg (AD 4 x) = 400 + x) (hq1 : Hs L f (AD 4 x) (refs cO 10 qd)) (hq2 : ∀ j, j < i2n (F 6 x) → qd j = some (AD 5 (6 * x + j))) (hP : va_P D vwCl (va_pl L f) H) (hkp : ∀ q : Nat, q < H.size → ¬ alA AD x q → H1[q]? = H[q]?)
    (hP1 : va_P D vwCl (alW cO (fun z => AD (2 + 2 * z) x) 10 (rmQ qd y k) (mc (x + 1) + 1) (nI k)) H1) (e1 : F' 1 = F 1) (e2 : F' 2 = F 2) (e3 : F' 3 = F 3) (e4 : F' 4 = F 4) (e5 : F' 5 = F 5) (e6 : F' 6 = upd (F 6) x (nI k)) (e7 : F' 7 = shl (F 7) (6 * x + y) (k - y)) (e8 : F' 8 = shl (F 8) (6 * x + y) (k - y)) (e9 : F' 9 = shl (F 9) (6 * x + y) (k - y)) (e10 : F' 10 = shl (F 10) (6 * x + y) (k - y)) :
    ∃ f', va_P D vwCl (va_pl L f') H1 ∧ Rep cI cO L f' tg (rmAD AD x y k) (upd mc (x + 1) (mc (x + 1) + 1)) F' ik kp tu n he gv gp gb ob nm lo ∧ ∀ b, ¬ alA AD x b → f' b = f b := by
  have hn22 := h.n22
  have hk5 : k + 1 ≤ 6 := by rw [← hk]; exact (hM.len hx).2
  have t2 := (h.2.2.2.2.2.2 x hx).2.1
  have n24 : AD 4 x ≠ AD 2 x := tg_ne t4 t2 (by omega)
  have g : agr L tg (fun t => t = 200 + x ∨ t = 400 + x) f (va_up (va_up f (AD 4 x) (refs cO 10 (rmQ qd y k))) (AD 2 x) (.inr (0, [.int (mc (x + 1) + 1), .ref (AD 4 x), .int (nI k)]))) := by
    intro b hb hT
    have h2 : b ≠ AD 2 x := fun e => hT (Or.inl (by rw [e]; exact t2))
    have h4 : b ≠ AD 4 x := fun e => hT (Or.inr (by rw [e]; exact t4))
    rw [va_up_ne _ _ h2, va_up_ne _ _ h4]
  have g0 : rmAD AD x y k 0 = AD 0 := rmAD_ne (by decide)
  have g1 : rmAD AD x y k 1 = AD 1 := rmAD_ne (by decide)
  have g2 : rmAD AD x y k 2 = AD 2 := rmAD_ne (by decide)
  have g3 : rmAD AD x y k 3 = AD 3 := rmAD_ne (by decide)
  have g4 : rmAD AD x y k 4 = AD 4 := rmAD_ne (by decide)
  have g6 : rmAD AD x y k 6 = AD 6 := rmAD_ne (by decide)
  have g7 : rmAD AD x y k 7 = AD 7 := rmAD_ne (by decide)
  refine ⟨_, ?_, ⟨((h.1.fr h.2.2.2.2 g (fun j hj => by omega)).cg e1 e2).ad g0, (h.2.1.fr h.2.2.2.2 g (fun j h1 h2 => by omega)).ad g0, (h.2.2.1.fr h.2.2.2.2 g (by omega) (by omega)).ad g0 g1 g6 (pk_un (by omega)), fun j hj => ?_, h.2.2.2.2.ad g0 g1 g2 g3 g6⟩, fun b hb => by rw [va_up_ne _ _ (fun e => hb (Or.inl e)), va_up_ne _ _ (fun e => hb (Or.inr e))]⟩
  · intro j q hj
    have hm := List.mem_of_getElem? hj
    obtain ⟨b, hb, eb⟩ := List.mem_map.mp hm
    subst eb
    by_cases c2 : b = AD 2 x
    · subst c2; rw [va_up_self]; exact hP1 0 _ rfl
    · rw [va_up_ne _ _ c2]
      by_cases c4 : b = AD 4 x
      · subst c4; rw [va_up_self]; exact hP1 1 _ rfl
      · rw [va_up_ne _ _ c4]
        obtain ⟨kk, hkk⟩ := List.getElem?_of_mem (show (b, f b) ∈ va_pl L f from List.mem_map.mpr ⟨b, hb, rfl⟩)
        have hat := hP kk _ hkk
        exact hat.kept (hkp b (va_at.lt hat) (fun hh => hh.elim c2 c4))
  · by_cases c : j = x
    · subst c
      obtain ⟨a1, ⟨kk, a2, a3⟩, a4, a5, a6⟩ := h.2.2.2.1 j hj
      obtain ⟨t1, _, t3⟩ := h.2.2.2.2.2.2 j hj
      have ep : parR (rmAD AD j y k) F' j = parR AD F j := by unfold parR; rw [e3, g1]
      unfold RpFold
      rw [ep, g1, g2, g3, g4, e4, e5, e6, pk_us, pk_us, i2n_nI (by omega)]
      refine ⟨a1.fr g t1 (by omega), ⟨kk, a2.fr g t3 (by omega), a3⟩, (a4.upn n24.symm).up, Or.inr ⟨t4, rmQ qd y k, hq1.up.upn n24, fun m hm => ?_⟩, fun m hm => ?_⟩
      · rw [rmAD_5]
        show (if m < k then (if y ≤ m then qd (m + 1) else qd m) else if m = k then none else qd m) = _
        rw [if_pos hm]
        by_cases d : y ≤ m
        · rw [if_pos d, if_pos (by omega), hq2 (m + 1) (by omega)]; rfl
        · rw [if_neg d, if_neg (by omega), hq2 m (by omega)]
      · rw [rmAD_5, e7, e8, e9, e10, shl_get, shl_get, shl_get, shl_get]
        by_cases d : y ≤ m
        · rw [if_pos (by omega), if_pos (by omega), if_pos (by omega), if_pos (by omega), if_pos (by omega)]
          have w := a6 (m + 1) (by omega)
          exact ⟨w.1.fr g rfl (by have := w.2; omega), w.2⟩
        · rw [if_neg (by omega), if_neg (by omega), if_neg (by omega), if_neg (by omega), if_neg (by omega)]
          have w := a6 m (by omega)
          exact ⟨w.1.fr g rfl (by have := w.2; omega), w.2⟩
    · have hl := (hM.len hj).2
      refine (((h.2.2.2.1 j hj).fr h.2.2.2.2 hj g (by omega) (by omega) (by omega) (by omega) (fun m hm => by omega)).ad (AD' := rmAD AD x y k) (mc' := upd mc (x + 1) (mc (x + 1) + 1)) g1 g2 g3 g4 g7 (fun m hm => ?_) (pk_un (by omega))).cg (by rw [e3]) (by rw [e4]) (by rw [e5]) (by rw [e6, pk_un c]) (fun m hm => ?_) rfl (fun p hp => rfl) rfl
      · rw [rmAD_5, if_neg (by omega)]
      · rw [e7, e8, e9, e10, shl_get, shl_get, shl_get, shl_get, if_neg (by omega), if_neg (by omega), if_neg (by omega), if_neg (by omega)]; exact ⟨rfl, rfl, rfl, rfl⟩
end RM
