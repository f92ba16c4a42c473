/-! the class's heap holds the model's numbers: F, ik, kp, tu, n -/
def parR (AD : Nat → Nat → Nat) (F : Nat → Nat → Int32) (i : Nat) : Option Nat := if F 3 i = -1 then none else some (AD 1 (i2n (F 3 i)))
def RpFix (cI : ClassId) (L : List Nat) (f : Nat → va_E) (AD : Nat → Nat → Nat) (F : Nat → Nat → Int32) : Prop :=
  Hs L f (AD 0 0) (.inr (5, [.ref (AD 0 1), .ref (AD 0 8), .ref (AD 0 5)])) ∧ Hs L f (AD 0 1) (.inr (3, [.ref (AD 0 2), .ref (AD 0 3), .ref (AD 0 4)])) ∧
  Hs L f (AD 0 2) (.inl (cI, 6, .inl (F 1))) ∧ Hs L f (AD 0 3) (.inl (cI, 6, .inl (F 2))) ∧ ∃ ev : Nat → Int32, Hs L f (AD 0 4) (.inl (cI, 6, .inl ev)) ∧ ∀ k, k < 6 → ev k = mMem F k
def RpMap (cI : ClassId) (L : List Nat) (f : Nat → va_E) (AD : Nat → Nat → Nat) (he gv : Nat → Int32) (gp gb ob nm lo : Int32) : Prop :=
  Hs L f (AD 0 5) (.inr (4, [.ref (AD 0 6), .ref (AD 0 7), .int gp, .int gb, .int ob, .int nm, .int lo])) ∧ Hs L f (AD 0 6) (.inl (cI, 8, .inl he)) ∧ Hs L f (AD 0 7) (.inl (cI, 8, .inl gv))
def RpTree (cO : ClassId) (L : List Nat) (f : Nat → va_E) (AD : Nat → Nat → Nat) (mc : Nat → Int32) (n : Nat) : Prop :=
  Hs L f (AD 0 8) (.inr (0, [.int (mc 0), .ref (AD 6 0), .int (nI n)])) ∧ ∃ (m : Nat) (q : Nat → Option Nat), Hs L f (AD 6 0) (refs cO m q) ∧ n ≤ m ∧ (m = 10 ∨ m = 15 ∨ m = 22) ∧ ∀ i, i < n → q i = some (AD 1 i)
def RpFold (cI cO : ClassId) (L : List Nat) (f : Nat → va_E) (tg : Nat → Nat) (AD : Nat → Nat → Nat) (mc : Nat → Int32) (F : Nat → Nat → Int32) (ik kp tu : Nat → Int32) (i : Nat) : Prop :=
  Hs L f (AD 1 i) (.inr (2, [va_rf (parR AD F i), .ref (AD 2 i), .ref (AD 3 i), .int (F 4 i), .int (F 5 i), .int (ik i), .int (tu i)])) ∧
  (∃ kk : Nat → Int32, Hs L f (AD 3 i) (.inl (cI, 8, .inl kk)) ∧ ∀ p, p < 8 → kk p = kp (8 * i + p)) ∧
  Hs L f (AD 2 i) (.inr (0, [.int (mc (i + 1)), .ref (AD 4 i), .int (F 6 i)])) ∧
  ((F 6 i = 0 ∧ AD 4 i = AD 7 0) ∨ (tg (AD 4 i) = 400 + i ∧ ∃ q : Nat → Option Nat, Hs L f (AD 4 i) (refs cO 10 q) ∧ ∀ j, j < i2n (F 6 i) → q j = some (AD 5 (6 * i + j)))) ∧
  ∀ j, j < i2n (F 6 i) → Hs L f (AD 5 (6 * i + j)) (.inr (1, [.int (F 7 (6 * i + j)), .int (F 8 (6 * i + j)), .int (F 9 (6 * i + j)), .int (F 10 (6 * i + j))])) ∧ 1000 ≤ tg (AD 5 (6 * i + j))
def RpTag (tg : Nat → Nat) (AD : Nat → Nat → Nat) (n : Nat) : Prop :=
  (∀ k, k < 9 → tg (AD 0 k) = k) ∧ tg (AD 6 0) = 9 ∧ ∀ i, i < n → tg (AD 1 i) = 100 + i ∧ tg (AD 2 i) = 200 + i ∧ tg (AD 3 i) = 300 + i
def Rep (cI cO : ClassId) (L : List Nat) (f : Nat → va_E) (tg : Nat → Nat) (AD : Nat → Nat → Nat) (mc : Nat → Int32) (F : Nat → Nat → Int32) (ik kp tu : Nat → Int32) (n : Nat) (he gv : Nat → Int32) (gp gb ob nm lo : Int32) : Prop :=
  RpFix cI L f AD F ∧ RpMap cI L f AD he gv gp gb ob nm lo ∧ RpTree cO L f AD mc n ∧ (∀ i, i < n → RpFold cI cO L f tg AD mc F ik kp tu i) ∧ RpTag tg AD n
section RP
variable {cI cO : ClassId} {L : List Nat} {f : Nat → va_E} {tg : Nat → Nat} {AD : Nat → Nat → Nat} {mc : Nat → Int32} {F : Nat → Nat → Int32} {ik kp tu : Nat → Int32} {n : Nat} {he gv : Nat → Int32} {gp gb ob nm lo : Int32}
theorem Rep.x (h : Rep cI cO L f tg AD mc F ik kp tu n he gv gp gb ob nm lo) : Hs L f (AD 0 0) (.inr (5, [.ref (AD 0 1), .ref (AD 0 8), .ref (AD 0 5)])) := h.1.1
theorem Rep.g (h : Rep cI cO L f tg AD mc F ik kp tu n he gv gp gb ob nm lo) : Hs L f (AD 0 1) (.inr (3, [.ref (AD 0 2), .ref (AD 0 3), .ref (AD 0 4)])) := h.1.2.1
theorem Rep.mo (h : Rep cI cO L f tg AD mc F ik kp tu n he gv gp gb ob nm lo) : Hs L f (AD 0 5) (.inr (4, [.ref (AD 0 6), .ref (AD 0 7), .int gp, .int gb, .int ob, .int nm, .int lo])) := h.2.1.1
theorem Rep.mh (h : Rep cI cO L f tg AD mc F ik kp tu n he gv gp gb ob nm lo) : Hs L f (AD 0 6) (.inl (cI, 8, .inl he)) := h.2.1.2.1
theorem Rep.mg (h : Rep cI cO L f tg AD mc F ik kp tu n he gv gp gb ob nm lo) : Hs L f (AD 0 7) (.inl (cI, 8, .inl gv)) := h.2.1.2.2
theorem Rep.t (h : Rep cI cO L f tg AD mc F ik kp tu n he gv gp gb ob nm lo) : Hs L f (AD 0 8) (.inr (0, [.int (mc 0), .ref (AD 6 0), .int (nI n)])) := h.2.2.1.1
theorem Rep.fo (h : Rep cI cO L f tg AD mc F ik kp tu n he gv gp gb ob nm lo) {i : Nat} (hi : i < n) : Hs L f (AD 1 i) (.inr (2, [va_rf (parR AD F i), .ref (AD 2 i), .ref (AD 3 i), .int (F 4 i), .int (F 5 i), .int (ik i), .int (tu i)])) := (h.2.2.2.1 i hi).1
theorem Rep.ro (h : Rep cI cO L f tg AD mc F ik kp tu n he gv gp gb ob nm lo) {i : Nat} (hi : i < n) : Hs L f (AD 2 i) (.inr (0, [.int (mc (i + 1)), .ref (AD 4 i), .int (F 6 i)])) := (h.2.2.2.1 i hi).2.2.1
theorem Rep.en (h : Rep cI cO L f tg AD mc F ik kp tu n he gv gp gb ob nm lo) {i j : Nat} (hi : i < n) (hj : j < i2n (F 6 i)) : Hs L f (AD 5 (6 * i + j)) (.inr (1, [.int (F 7 (6 * i + j)), .int (F 8 (6 * i + j)), .int (F 9 (6 * i + j)), .int (F 10 (6 * i + j))])) := ((h.2.2.2.1 i hi).2.2.2.2 j hj).1
theorem Rep.da (h : Rep cI cO L f tg AD mc F ik kp tu n he gv gp gb ob nm lo) {i : Nat} (hi : i < n) (hj : 0 < i2n (F 6 i)) : ∃ q : Nat → Option Nat, Hs L f (AD 4 i) (refs cO 10 q) ∧ ∀ j, j < i2n (F 6 i) → q j = some (AD 5 (6 * i + j)) := by
  rcases (h.2.2.2.1 i hi).2.2.2.1 with ⟨e, _⟩ | ⟨_, q, h1, h2⟩
  · rw [e] at hj; exact absurd hj (by decide)
  · exact ⟨q, h1, h2⟩
theorem Rep.ke (h : Rep cI cO L f tg AD mc F ik kp tu n he gv gp gb ob nm lo) {i : Nat} (hi : i < n) : ∃ kk : Nat → Int32, Hs L f (AD 3 i) (.inl (cI, 8, .inl kk)) ∧ ∀ p, p < 8 → kk p = kp (8 * i + p) := (h.2.2.2.1 i hi).2.1
theorem Rep.ev (h : Rep cI cO L f tg AD mc F ik kp tu n he gv gp gb ob nm lo) : ∃ ev : Nat → Int32, Hs L f (AD 0 4) (.inl (cI, 6, .inl ev)) ∧ ∀ k, k < 6 → ev k = mMem F k := h.1.2.2.2.2
theorem Rep.td (h : Rep cI cO L f tg AD mc F ik kp tu n he gv gp gb ob nm lo) : ∃ (m : Nat) (q : Nat → Option Nat), Hs L f (AD 6 0) (refs cO m q) ∧ n ≤ m ∧ (m = 10 ∨ m = 15 ∨ m = 22) ∧ ∀ i, i < n → q i = some (AD 1 i) := h.2.2.1.2
theorem Rep.inj (h : Rep cI cO L f tg AD mc F ik kp tu n he gv gp gb ob nm lo) {i j : Nat} (hi : i < n) (hj : j < n) (e : AD 1 i = AD 1 j) : i = j := by
  have h1 := (h.2.2.2.2.2.2 i hi).1
  have h2 := (h.2.2.2.2.2.2 j hj).1
  rw [e, h2] at h1; omega
end RP
theorem cnt_if (x y : Int32) : (if x = y then (0 : Int32) else 1) = b2i (!decide (x = y)) := by
  by_cases h : x = y
  · rw [if_pos h, decide_eq_true h]; rfl
  · rw [if_neg h, decide_eq_false h]; rfl
/-! the frame: what a change leaves -/
def agr (L : List Nat) (tg : Nat → Nat) (T : Nat → Prop) (f f' : Nat → va_E) : Prop := ∀ a, a ∈ L → ¬ T (tg a) → f' a = f a
theorem Hs.fr {L : List Nat} {tg : Nat → Nat} {T : Nat → Prop} {f f' : Nat → va_E} {a : Nat} {e : va_E} (h : Hs L f a e) (g : agr L tg T f f') {t : Nat} (ht : tg a = t) (hT : ¬ T t) : Hs L f' a e := ⟨h.1, by rw [g a h.1 (by rw [ht]; exact hT)]; exact h.2⟩
section FR
variable {cI cO : ClassId} {L : List Nat} {f f' : Nat → va_E} {tg : Nat → Nat} {T : Nat → Prop} {AD : Nat → Nat → Nat} {mc : Nat → Int32} {F : Nat → Nat → Int32} {ik kp tu : Nat → Int32} {n : Nat} {he gv : Nat → Int32} {gp gb ob nm lo : Int32}
theorem RpFix.fr (h : RpFix cI L f AD F) (ht : RpTag tg AD n) (g : agr L tg T f f') (hT : ∀ k, k < 5 → ¬ T k) : RpFix cI L f' AD F := by
  obtain ⟨h0, h1, h2, h3, ev, h4, h5⟩ := h
  exact ⟨h0.fr g (ht.1 0 (by decide)) (hT 0 (by decide)), h1.fr g (ht.1 1 (by decide)) (hT 1 (by decide)), h2.fr g (ht.1 2 (by decide)) (hT 2 (by decide)), h3.fr g (ht.1 3 (by decide)) (hT 3 (by decide)), ev, h4.fr g (ht.1 4 (by decide)) (hT 4 (by decide)), h5⟩
theorem RpMap.fr (h : RpMap cI L f AD he gv gp gb ob nm lo) (ht : RpTag tg AD n) (g : agr L tg T f f') (hT : ∀ k, 5 ≤ k → k < 8 → ¬ T k) : RpMap cI L f' AD he gv gp gb ob nm lo :=
  ⟨h.1.fr g (ht.1 5 (by decide)) (hT 5 (by decide) (by decide)), h.2.1.fr g (ht.1 6 (by decide)) (hT 6 (by decide) (by decide)), h.2.2.fr g (ht.1 7 (by decide)) (hT 7 (by decide) (by decide))⟩
theorem RpTree.fr (h : RpTree cO L f AD mc n) (ht : RpTag tg AD n) (g : agr L tg T f f') (h8 : ¬ T 8) (h9 : ¬ T 9) : RpTree cO L f' AD mc n := by
  obtain ⟨h0, m, q, h1, h2⟩ := h
  exact ⟨h0.fr g (ht.1 8 (by decide)) h8, m, q, h1.fr g ht.2.1 h9, h2⟩
theorem RpFold.fr {i : Nat} (h : RpFold cI cO L f tg AD mc F ik kp tu i) (ht : RpTag tg AD n) (hi : i < n) (g : agr L tg T f f') (h1 : ¬ T (100 + i)) (h2 : ¬ T (200 + i)) (h3 : ¬ T (300 + i)) (h4 : ¬ T (400 + i)) (h5 : ∀ k, 1000 ≤ k → ¬ T k) : RpFold cI cO L f' tg AD mc F ik kp tu i := by
  obtain ⟨a1, ⟨kk, a2, a3⟩, a4, a5, a6⟩ := h
  obtain ⟨t1, t2, t3⟩ := ht.2.2 i hi
  refine ⟨a1.fr g t1 h1, ⟨kk, a2.fr g t3 h3, a3⟩, a4.fr g t2 h2, ?_, fun j hj => ⟨(a6 j hj).1.fr g rfl (h5 _ (a6 j hj).2), (a6 j hj).2⟩⟩
  rcases a5 with e | ⟨t4, q, b1, b2⟩
  · exact Or.inl e
  · exact Or.inr ⟨t4, q, b1.fr g t4 h4, b2⟩
/-- only the mapping's cells changed -/
theorem Rep.newmap {he' gv' : Nat → Int32} {gp' gb' ob' nm' lo' : Int32} (h : Rep cI cO L f tg AD mc F ik kp tu n he gv gp gb ob nm lo) (g : agr L tg (fun t => t = 5 ∨ t = 6 ∨ t = 7) f f') (hm : RpMap cI L f' AD he' gv' gp' gb' ob' nm' lo') : Rep cI cO L f' tg AD mc F ik kp tu n he' gv' gp' gb' ob' nm' lo' := by
  obtain ⟨h1, -, h3, h4, h5⟩ := h
  exact ⟨h1.fr h5 g (fun k hk => by omega), hm, h3.fr h5 g (by omega) (by omega), fun i hi => (h4 i hi).fr h5 hi g (by omega) (by omega) (by omega) (by omega) (fun k hk => by omega), h5⟩
end FR
theorem pl_D {A : Nat → Prop} {L : List Nat} {f : Nat → va_E} (hL : L.Nodup) (hA : ∀ a, a ∈ L → A a) : va_D A (va_pl L f) := by
  refine ⟨fun i j p q hi hj he => ?_, fun k q hk => ?_⟩
  · have h1 : L[i]? = some p.1 := by
      unfold va_pl at hi; rw [List.getElem?_map] at hi
      cases e : L[i]? with
      | none => rw [e] at hi; cases hi
      | some a => rw [e] at hi; cases hi; rfl
    have h2 : L[j]? = some q.1 := by
      unfold va_pl at hj; rw [List.getElem?_map] at hj
      cases e : L[j]? with
      | none => rw [e] at hj; cases hj
      | some a => rw [e] at hj; cases hj; rfl
    obtain ⟨b1, b2⟩ := List.getElem?_eq_some_iff.mp h1
    obtain ⟨c1, c2⟩ := List.getElem?_eq_some_iff.mp h2
    have hp := List.pairwise_iff_getElem.mp hL
    rcases Nat.lt_trichotomy i j with h | h | h
    · exact absurd (by rw [b2, c2, he]) (hp i j b1 c1 h)
    · exact h
    · exact absurd (by rw [b2, c2, he]) (hp j i c1 b1 h)
  · have hm := List.mem_of_getElem? hk
    obtain ⟨a, ha, e⟩ := List.mem_map.mp hm
    subst e; exact hA a ha
theorem pl_set {D : va_G} {H : Heap} {L : List Nat} {f : Nat → va_E} {a k : Nat} {e e' : va_E} (hL : L.Nodup) (hk : (va_pl L f)[k]? = some (a, e)) (hP : va_P D vwCl ((va_pl L f).set k (a, e')) H) : va_P D vwCl (va_pl L (va_up f a e')) H := by
  have hm := List.mem_of_getElem? hk
  obtain ⟨b, hb, eb⟩ := List.mem_map.mp hm
  have e1 : b = a := congrArg Prod.fst eb
  have e2 : f b = e := congrArg Prod.snd eb
  subst e1; subst e2
  have h := va_pl_set (X := []) (f := f) (e := e') (pl_D (A := fun _ => True) hL (fun _ _ => trivial)) hb hk
  have h2 : (va_pl L f).set k (b, e') = va_pl L (va_up f b e') := h
  rw [← h2]; exact hP
section ST
variable {D : va_G} {H : Heap} {cI cO : ClassId} {L : List Nat} {f : Nat → va_E} {tg : Nat → Nat} {AD : Nat → Nat → Nat} {mc : Nat → Int32} {F : Nat → Nat → Int32} {ik kp tu : Nat → Int32} {n : Nat} {he gv : Nat → Int32} {gp gb ob nm lo : Int32}
theorem up_agr {T : Nat → Prop} {a : Nat} {e : va_E} (hT : T (tg a)) : agr L tg T f (va_up f a e) := fun b _ hb => va_up_ne f e (fun h => hb (by rw [h]; exact hT))
theorem Hs.up {a : Nat} {e e' : va_E} (h : Hs L f a e) : Hs L (va_up f a e') a e' := ⟨h.1, va_up_self _ _ _⟩
theorem Hs.upn {a b : Nat} {e e' : va_E} (h : Hs L f a e) (hn : a ≠ b) : Hs L (va_up f b e') a e := ⟨h.1, by rw [va_up_ne f e' hn]; exact h.2⟩
theorem tg_ne {a b s t : Nat} (ha : tg a = s) (hb : tg b = t) (h : s ≠ t) : a ≠ b := fun e => h (by rw [← ha, ← hb, e])
theorem Rep.st_mh (h : Rep cI cO L f tg AD mc F ik kp tu n he gv gp gb ob nm lo) (hL : L.Nodup) {k : Nat} {e : va_E} (hk : (va_pl L f)[k]? = some (AD 0 6, e)) {X : Nat → Int32} (hP : va_P D vwCl ((va_pl L f).set k (AD 0 6, .inl (cI, 8, .inl X))) H) : ∃ f', va_P D vwCl (va_pl L f') H ∧ Rep cI cO L f' tg AD mc F ik kp tu n X gv gp gb ob nm lo := by
  have t := h.2.2.2.2.1
  refine ⟨_, pl_set hL hk hP, h.newmap (up_agr (by rw [t 6 (by decide)]; exact Or.inr (Or.inl rfl))) ⟨h.mo.upn (tg_ne (t 5 (by decide)) (t 6 (by decide)) (by decide)), h.mh.up, h.mg.upn (tg_ne (t 7 (by decide)) (t 6 (by decide)) (by decide))⟩⟩
/-- behind a method of the mapping -/
theorem Rep.call_mp {he' gv' : Nat → Int32} {gp' gb' ob' nm' lo' : Int32} {H1 : Heap} (h : Rep cI cO L f tg AD mc F ik kp tu n he gv gp gb ob nm lo) (hP : va_P D vwCl (va_pl L f) H) (hk : ∀ q : Nat, q < H.size → ¬ (q = AD 0 5 ∨ q = AD 0 6 ∨ q = AD 0 7) → H1[q]? = H[q]?) (hP1 : va_P D vwCl (mpW cI (fun k => AD 0 (k + 5)) he' gv' gp' gb' ob' nm' lo') H1) : ∃ f', va_P D vwCl (va_pl L f') H1 ∧ Rep cI cO L f' tg AD mc F ik kp tu n he' gv' gp' gb' ob' nm' lo' := by
  have t := h.2.2.2.2.1
  have n56 := tg_ne (t 6 (by decide)) (t 5 (by decide)) (by decide)
  have n57 := tg_ne (t 7 (by decide)) (t 5 (by decide)) (by decide)
  have n67 := tg_ne (t 7 (by decide)) (t 6 (by decide)) (by decide)
  refine ⟨va_up (va_up (va_up f (AD 0 7) (.inl (cI, 8, .inl gv'))) (AD 0 6) (.inl (cI, 8, .inl he'))) (AD 0 5) (.inr (4, [.ref (AD 0 6), .ref (AD 0 7), .int gp', .int gb', .int ob', .int nm', .int lo'])), ?_, h.newmap ?_ ⟨h.mo.upn n57.symm |>.upn n56.symm |>.up, (h.mh.upn n67.symm).up.upn n56, (h.mg.up.upn n67).upn n57⟩⟩
  · intro j q hj
    have hm := List.mem_of_getElem? hj
    obtain ⟨b, hb, eb⟩ := List.mem_map.mp hm
    subst eb
    by_cases c5 : b = AD 0 5
    · subst c5; rw [va_up_self]; exact hP1 0 _ rfl
    · rw [va_up_ne _ _ c5]
      by_cases c6 : b = AD 0 6
      · subst c6; rw [va_up_self]; exact hP1 1 _ rfl
      · rw [va_up_ne _ _ c6]
        by_cases c7 : b = AD 0 7
        · subst c7; rw [va_up_self]; exact hP1 2 _ rfl
        · rw [va_up_ne _ _ c7]
          obtain ⟨k, hkk⟩ := List.getElem?_of_mem (show (b, f b) ∈ va_pl L f from List.mem_map.mpr ⟨b, hb, rfl⟩)
          have hat := hP k _ hkk
          exact hat.kept (hk b (va_at.lt hat) (fun hh => hh.elim c5 (fun h => h.elim c6 c7)))
  · intro b hb hT
    have h5 : b ≠ AD 0 5 := fun e => hT (Or.inl (by rw [e]; exact t 5 (by decide)))
    have h6 : b ≠ AD 0 6 := fun e => hT (Or.inr (Or.inl (by rw [e]; exact t 6 (by decide))))
    have h7 : b ≠ AD 0 7 := fun e => hT (Or.inr (Or.inr (by rw [e]; exact t 7 (by decide))))
    rw [va_up_ne _ _ h5, va_up_ne _ _ h6, va_up_ne _ _ h7]
end ST
