/-! the pool grows and some of it changes -/
def extT (L L' : List Nat) (f f' : Nat → va_E) (tg tg' : Nat → Nat) (T : Nat → Prop) : Prop := ∀ a, a ∈ L → ¬ T (tg a) → a ∈ L' ∧ f' a = f a ∧ tg' a = tg a
section ET
variable {cI cO : ClassId} {L L' : List Nat} {f f' : Nat → va_E} {tg tg' : Nat → Nat} {T : Nat → Prop} {AD : Nat → Nat → Nat} {mc : Nat → Int32} {F : Nat → Nat → Int32} {ik kp tu : Nat → Int32} {n : Nat} {he gv : Nat → Int32} {gp gb ob nm lo : Int32}
theorem Hs.et {a t : Nat} {e : va_E} (h : Hs L f a e) (g : extT L L' f f' tg tg' T) (ht : tg a = t) (hT : ¬ T t) : Hs L' f' a e := by
  have w := g a h.1 (by rw [ht]; exact hT)
  exact ⟨w.1, by rw [w.2.1]; exact h.2⟩
theorem Hs.ett {a t : Nat} {e : va_E} (h : Hs L f a e) (g : extT L L' f f' tg tg' T) (ht : tg a = t) (hT : ¬ T t) : tg' a = t := by
  rw [(g a h.1 (by rw [ht]; exact hT)).2.2]; exact ht
theorem RpFix.et (h : RpFix cI L f AD F) (t : RpTag tg AD n) (g : extT L L' f f' tg tg' T) (hT : ∀ k, k < 5 → ¬ T k) : RpFix cI L' f' AD F := by
  obtain ⟨h0, h1, h2, h3, ev, h4, h5⟩ := h
  exact ⟨h0.et g (t.1 0 (by decide)) (hT 0 (by decide)), h1.et g (t.1 1 (by decide)) (hT 1 (by decide)), h2.et g (t.1 2 (by decide)) (hT 2 (by decide)), h3.et g (t.1 3 (by decide)) (hT 3 (by decide)), ev, h4.et g (t.1 4 (by decide)) (hT 4 (by decide)), h5⟩
theorem RpMap.et (h : RpMap cI L f AD he gv gp gb ob nm lo) (t : RpTag tg AD n) (g : extT L L' f f' tg tg' T) (hT : ∀ k, 5 ≤ k → k < 8 → ¬ T k) : RpMap cI L' f' AD he gv gp gb ob nm lo :=
  ⟨h.1.et g (t.1 5 (by decide)) (hT 5 (by decide) (by decide)), h.2.1.et g (t.1 6 (by decide)) (hT 6 (by decide) (by decide)), h.2.2.et g (t.1 7 (by decide)) (hT 7 (by decide) (by decide))⟩
theorem RpTree.et (h : RpTree cO L f AD mc n) (t : RpTag tg AD n) (g : extT L L' f f' tg tg' T) (h8 : ¬ T 8) (h9 : ¬ T 9) : RpTree cO L' f' AD mc n := by
  obtain ⟨h0, m, q, h1, h2⟩ := h
  exact ⟨h0.et g (t.1 8 (by decide)) h8, m, q, h1.et g t.2.1 h9, h2⟩
theorem RpFold.et {i : Nat} (h : RpFold cI cO L f tg AD mc F ik kp tu i) (t : RpTag tg AD n) (hi : i < n) (g : extT L L' f f' tg tg' T) (h1 : ¬ T (100 + i)) (h2 : ¬ T (200 + i)) (h3 : ¬ T (300 + i)) (h4 : ¬ T (400 + i)) (h5 : ∀ k, 1000 ≤ k → ¬ T k) : RpFold cI cO L' f' tg' AD mc F ik kp tu i := by
  obtain ⟨a1, ⟨kk, a2, a3⟩, a4, a5, a6⟩ := h
  obtain ⟨t1, t2, t3⟩ := t.2.2 i hi
  refine ⟨a1.et g t1 h1, ⟨kk, a2.et g t3 h3, a3⟩, a4.et g t2 h2, ?_, fun j hj => ⟨(a6 j hj).1.et g rfl (h5 _ (a6 j hj).2), by rw [(a6 j hj).1.ett g rfl (h5 _ (a6 j hj).2)]; exact (a6 j hj).2⟩⟩
  rcases a5 with e | ⟨t4, q, b1, b2⟩
  · exact Or.inl e
  · exact Or.inr ⟨b1.ett g t4 h4, q, b1.et g t4 h4, b2⟩
/-- the addresses behind a new entry b of the folder x, the row's array at d4 -/
def adA (AD : Nat → Nat → Nat) (x len b d4 : Nat) : Nat → Nat → Nat := fun g => if g = 5 then (fun j => if j = 6 * x + len then b else AD 5 j) else if g = 4 then (fun j => if j = x then d4 else AD 4 j) else AD g
theorem adA_ne {x len b d4 g : Nat} (h5 : g ≠ 5) (h4 : g ≠ 4) : adA AD x len b d4 g = AD g := by unfold adA; rw [if_neg h5, if_neg h4]
theorem adA_5 {x len b d4 j : Nat} : adA AD x len b d4 5 j = if j = 6 * x + len then b else AD 5 j := rfl
theorem adA_4 {x len b d4 j : Nat} : adA AD x len b d4 4 j = if j = x then d4 else AD 4 j := rfl
theorem Rep.addE {F' : Nat → Nat → Int32} {x len b d4 : Nat} {q' : Nat → Option Nat} (h : Rep cI cO L f tg AD mc F ik kp tu n he gv gp gb ob nm lo) (hM : okC F n) (hx : x < n) (hlen : i2n (F 6 x) = len) (hl6 : len < 6) (g : extT L L' f f' tg tg' (fun t => t = 200 + x ∨ t = 400 + x))
    (h2 : Hs L' f' (AD 2 x) (.inr (0, [.int (mc (x + 1) + 1), .ref d4, .int (nI (len + 1))]))) (t2 : tg' (AD 2 x) = 200 + x) (h4 : Hs L' f' d4 (refs cO 10 q')) (t4 : tg' d4 = 400 + x) (hq : ∀ j, j < len → q' j = some (AD 5 (6 * x + j))) (hqb : q' len = some b)
    (hb : Hs L' f' b (.inr (1, [.int (F' 7 (6 * x + len)), .int (F' 8 (6 * x + len)), .int (F' 9 (6 * x + len)), .int (F' 10 (6 * x + len))]))) (tb : 1000 ≤ tg' b)
    (e1 : F' 1 = F 1) (e2 : F' 2 = F 2) (e3 : F' 3 = F 3) (e4 : F' 4 = F 4) (e5 : F' 5 = F 5) (e6 : F' 6 = upd (F 6) x (nI (len + 1))) (eo : ∀ j, j ≠ 6 * x + len → F' 7 j = F 7 j ∧ F' 8 j = F 8 j ∧ F' 9 j = F 9 j ∧ F' 10 j = F 10 j) :
    Rep cI cO L' f' tg' (adA AD x len b d4) (upd mc (x + 1) (mc (x + 1) + 1)) F' ik kp tu n he gv gp gb ob nm lo := by
  have hn22 := h.n22
  have g0 : adA AD x len b d4 0 = AD 0 := adA_ne (by decide) (by decide)
  have g1 : adA AD x len b d4 1 = AD 1 := adA_ne (by decide) (by decide)
  have g2 : adA AD x len b d4 2 = AD 2 := adA_ne (by decide) (by decide)
  have g3 : adA AD x len b d4 3 = AD 3 := adA_ne (by decide) (by decide)
  have g6 : adA AD x len b d4 6 = AD 6 := adA_ne (by decide) (by decide)
  have g7 : adA AD x len b d4 7 = AD 7 := adA_ne (by decide) (by decide)
  have t := h.2.2.2.2
  obtain ⟨ev, h04, _⟩ := h.ev
  obtain ⟨m, q, h60, _⟩ := h.td
  refine ⟨((h.1.et t g (fun j hj => by omega)).cg e1 e2).ad g0, (h.2.1.et t g (fun j h1 h2 => by omega)).ad g0, (h.2.2.1.et t g (by omega) (by omega)).ad g0 g1 g6 (pk_un (by omega)), fun j hj => ?_, ?_⟩
  · by_cases c : j = x
    · subst c
      obtain ⟨a1, ⟨kk, a2, a3⟩, a4, a5, a6⟩ := h.2.2.2.1 j hj
      obtain ⟨t1, _, t3⟩ := t.2.2 j hj
      have ep : parR (adA AD j len b d4) F' j = parR AD F j := by unfold parR; rw [e3, g1]
      unfold RpFold
      rw [ep, g1, g2, g3, e4, e5, e6, pk_us, pk_us, adA_4, if_pos rfl, i2n_nI (by omega)]
      refine ⟨a1.et g t1 (by omega), ⟨kk, a2.et g t3 (by omega), a3⟩, h2, Or.inr ⟨t4, q', h4, fun m hm => ?_⟩, fun m hm => ?_⟩
      · rw [adA_5]
        by_cases d : m = len
        · subst d; rw [if_pos rfl]; exact hqb
        · rw [if_neg (by omega)]; exact hq m (by omega)
      · rw [adA_5]
        by_cases d : m = len
        · subst d; rw [if_pos rfl]; exact ⟨hb, tb⟩
        · rw [if_neg (by omega)]
          obtain ⟨o1, o2, o3, o4⟩ := eo (6 * j + m) (by omega)
          rw [o1, o2, o3, o4]
          have w := a6 m (by omega)
          exact ⟨w.1.et g rfl (by have := w.2; omega), by rw [w.1.ett g rfl (by have := w.2; omega)]; exact w.2⟩
    · have hl := (hM.len hj).2
      have hf := (h.2.2.2.1 j hj).et t hj g (by omega) (by omega) (by omega) (by omega) (fun m hm => by omega)
      have g4 : adA AD x len b d4 4 j = AD 4 j := by rw [adA_4, if_neg c]
      have g5 : ∀ m, m < i2n (F 6 j) → adA AD x len b d4 5 (6 * j + m) = AD 5 (6 * j + m) := fun m hm => by rw [adA_5, if_neg (by omega)]
      have hf2 : RpFold cI cO L' f' tg' (adA AD x len b d4) (upd mc (x + 1) (mc (x + 1) + 1)) F ik kp tu j := by
        obtain ⟨a1, a2, a3, a4, a5⟩ := hf
        have ep : parR (adA AD x len b d4) F j = parR AD F j := by unfold parR; rw [g1]
        unfold RpFold
        rw [ep, g1, g2, g3, g4, g7, pk_un (show j + 1 ≠ x + 1 by omega)]
        refine ⟨a1, a2, a3, ?_, fun m hm => by rw [g5 m hm]; exact a5 m hm⟩
        rcases a4 with w | ⟨t4, w, b1, b2⟩
        · exact Or.inl w
        · exact Or.inr ⟨t4, w, b1, fun m hm => by rw [g5 m hm]; exact b2 m hm⟩
      refine hf2.cg (by rw [e3]) (by rw [e4]) (by rw [e5]) (by rw [e6, pk_un c]) (fun m hm => eo _ (by omega)) rfl (fun p hp => rfl) rfl
  · refine RpTag.ad ⟨fun k hk => ?_, h60.ett g t.2.1 (by omega), fun i hi => ?_⟩ g0 g1 g2 g3 g6
    · rcases (show k = 0 ∨ k = 1 ∨ k = 2 ∨ k = 3 ∨ k = 4 ∨ k = 5 ∨ k = 6 ∨ k = 7 ∨ k = 8 by omega) with rfl | rfl | rfl | rfl | rfl | rfl | rfl | rfl | rfl
      · exact h.x.ett g (t.1 0 (by decide)) (by omega)
      · exact h.g.ett g (t.1 1 (by decide)) (by omega)
      · exact h.1.2.2.1.ett g (t.1 2 (by decide)) (by omega)
      · exact h.1.2.2.2.1.ett g (t.1 3 (by decide)) (by omega)
      · exact h04.ett g (t.1 4 (by decide)) (by omega)
      · exact h.mo.ett g (t.1 5 (by decide)) (by omega)
      · exact h.mh.ett g (t.1 6 (by decide)) (by omega)
      · exact h.mg.ett g (t.1 7 (by decide)) (by omega)
      · exact h.t.ett g (t.1 8 (by decide)) (by omega)
    · obtain ⟨u1, u2, u3⟩ := t.2.2 i hi
      obtain ⟨kk, h3, _⟩ := h.ke hi
      refine ⟨(h.fo hi).ett g u1 (by omega), ?_, h3.ett g u3 (by omega)⟩
      by_cases c : i = x
      · subst c; exact t2
      · exact (h.ro hi).ett g u2 (by omega)
end ET
