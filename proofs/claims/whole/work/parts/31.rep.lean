/-! the class's heap holds the model's numbers: F, ik, kp, tu, n -/
def parR (AD : Nat → Nat → Nat) (F : Nat → Nat → Int32) (i : Nat) : Option Nat := if F 3 i = -1 then none else some (AD 1 (i2n (F 3 i)))
def RpFix (cI : ClassId) (L : List Nat) (f : Nat → va_E) (AD : Nat → Nat → Nat) (F : Nat → Nat → Int32) : Prop :=
  Hs L f (AD 0 0) (.inr (5, [.ref (AD 0 1), .ref (AD 0 8), .ref (AD 0 5)])) ∧ Hs L f (AD 0 1) (.inr (3, [.ref (AD 0 2), .ref (AD 0 3), .ref (AD 0 4)])) ∧
  Hs L f (AD 0 2) (.inl (cI, 6, .inl (F 1))) ∧ Hs L f (AD 0 3) (.inl (cI, 6, .inl (F 2))) ∧ ∃ ev : Nat → Int32, Hs L f (AD 0 4) (.inl (cI, 6, .inl ev)) ∧ ∀ k, k < 6 → ev k = mMem F k
def RpMap (cI : ClassId) (L : List Nat) (f : Nat → va_E) (AD : Nat → Nat → Nat) (he gv : Nat → Int32) (gp gb ob nm lo : Int32) : Prop :=
  Hs L f (AD 0 5) (.inr (4, [.ref (AD 0 6), .ref (AD 0 7), .int gp, .int gb, .int ob, .int nm, .int lo])) ∧ Hs L f (AD 0 6) (.inl (cI, 8, .inl he)) ∧ Hs L f (AD 0 7) (.inl (cI, 8, .inl gv))
def RpTree (cO : ClassId) (L : List Nat) (f : Nat → va_E) (AD : Nat → Nat → Nat) (mc : Nat → Int32) (n : Nat) : Prop :=
  Hs L f (AD 0 8) (.inr (0, [.int (mc 0), .ref (AD 6 0), .int (nI n)])) ∧ ∃ (m : Nat) (q : Nat → Option Nat), Hs L f (AD 6 0) (refs cO m q) ∧ n ≤ m ∧ m ≤ 22 ∧ ∀ i, i < n → q i = some (AD 1 i)
def RpFold (cI cO : ClassId) (L : List Nat) (f : Nat → va_E) (AD : Nat → Nat → Nat) (mc : Nat → Int32) (F : Nat → Nat → Int32) (ik kp tu : Nat → Int32) (i : Nat) : Prop :=
  Hs L f (AD 1 i) (.inr (2, [va_rf (parR AD F i), .ref (AD 2 i), .ref (AD 3 i), .int (F 4 i), .int (F 5 i), .int (ik i), .int (tu i)])) ∧
  (∃ kk : Nat → Int32, Hs L f (AD 3 i) (.inl (cI, 8, .inl kk)) ∧ ∀ p, p < 8 → kk p = kp (8 * i + p)) ∧
  Hs L f (AD 2 i) (.inr (0, [.int (mc (i + 1)), .ref (AD 4 i), .int (F 6 i)])) ∧
  (0 < i2n (F 6 i) → ∃ q : Nat → Option Nat, Hs L f (AD 4 i) (refs cO 10 q) ∧ ∀ j, j < i2n (F 6 i) → q j = some (AD 5 (6 * i + j))) ∧
  ∀ j, j < i2n (F 6 i) → Hs L f (AD 5 (6 * i + j)) (.inr (1, [.int (F 7 (6 * i + j)), .int (F 8 (6 * i + j)), .int (F 9 (6 * i + j)), .int (F 10 (6 * i + j))]))
def RpTag (tg : Nat → Nat) (AD : Nat → Nat → Nat) (n : Nat) : Prop :=
  (∀ k, k < 9 → tg (AD 0 k) = k) ∧ tg (AD 6 0) = 9 ∧ ∀ i, i < n → tg (AD 1 i) = 100 + i ∧ tg (AD 2 i) = 200 + i ∧ tg (AD 3 i) = 300 + i
def Rep (cI cO : ClassId) (L : List Nat) (f : Nat → va_E) (tg : Nat → Nat) (AD : Nat → Nat → Nat) (mc : Nat → Int32) (F : Nat → Nat → Int32) (ik kp tu : Nat → Int32) (n : Nat) (he gv : Nat → Int32) (gp gb ob nm lo : Int32) : Prop :=
  RpFix cI L f AD F ∧ RpMap cI L f AD he gv gp gb ob nm lo ∧ RpTree cO L f AD mc n ∧ (∀ i, i < n → RpFold cI cO L f AD mc F ik kp tu i) ∧ RpTag tg AD n
section RP
variable {cI cO : ClassId} {L : List Nat} {f : Nat → va_E} {tg : Nat → Nat} {AD : Nat → Nat → Nat} {mc : Nat → Int32} {F : Nat → Nat → Int32} {ik kp tu : Nat → Int32} {n : Nat} {he gv : Nat → Int32} {gp gb ob nm lo : Int32}
theorem Rep.x (h : Rep cI cO L f tg AD mc F ik kp tu n he gv gp gb ob nm lo) : Hs L f (AD 0 0) (.inr (5, [.ref (AD 0 1), .ref (AD 0 8), .ref (AD 0 5)])) := h.1.1
theorem Rep.g (h : Rep cI cO L f tg AD mc F ik kp tu n he gv gp gb ob nm lo) : Hs L f (AD 0 1) (.inr (3, [.ref (AD 0 2), .ref (AD 0 3), .ref (AD 0 4)])) := h.1.2.1
theorem Rep.mo (h : Rep cI cO L f tg AD mc F ik kp tu n he gv gp gb ob nm lo) : Hs L f (AD 0 5) (.inr (4, [.ref (AD 0 6), .ref (AD 0 7), .int gp, .int gb, .int ob, .int nm, .int lo])) := h.2.1.1
theorem Rep.mh (h : Rep cI cO L f tg AD mc F ik kp tu n he gv gp gb ob nm lo) : Hs L f (AD 0 6) (.inl (cI, 8, .inl he)) := h.2.1.2.1
theorem Rep.mg (h : Rep cI cO L f tg AD mc F ik kp tu n he gv gp gb ob nm lo) : Hs L f (AD 0 7) (.inl (cI, 8, .inl gv)) := h.2.1.2.2
theorem Rep.t (h : Rep cI cO L f tg AD mc F ik kp tu n he gv gp gb ob nm lo) : Hs L f (AD 0 8) (.inr (0, [.int (mc 0), .ref (AD 6 0), .int (nI n)])) := h.2.2.1.1
theorem Rep.fo (h : Rep cI cO L f tg AD mc F ik kp tu n he gv gp gb ob nm lo) {i : Nat} (hi : i < n) : Hs L f (AD 1 i) (.inr (2, [va_rf (parR AD F i), .ref (AD 2 i), .ref (AD 3 i), .int (F 4 i), .int (F 5 i), .int (ik i), .int (tu i)])) := (h.2.2.2.1 i hi).1
theorem Rep.ro (h : Rep cI cO L f tg AD mc F ik kp tu n he gv gp gb ob nm lo) {i : Nat} (hi : i < n) : Hs L f (AD 2 i) (.inr (0, [.int (mc (i + 1)), .ref (AD 4 i), .int (F 6 i)])) := (h.2.2.2.1 i hi).2.2.1
theorem Rep.en (h : Rep cI cO L f tg AD mc F ik kp tu n he gv gp gb ob nm lo) {i j : Nat} (hi : i < n) (hj : j < i2n (F 6 i)) : Hs L f (AD 5 (6 * i + j)) (.inr (1, [.int (F 7 (6 * i + j)), .int (F 8 (6 * i + j)), .int (F 9 (6 * i + j)), .int (F 10 (6 * i + j))])) := (h.2.2.2.1 i hi).2.2.2.2 j hj
theorem Rep.da (h : Rep cI cO L f tg AD mc F ik kp tu n he gv gp gb ob nm lo) {i : Nat} (hi : i < n) (hj : 0 < i2n (F 6 i)) : ∃ q : Nat → Option Nat, Hs L f (AD 4 i) (refs cO 10 q) ∧ ∀ j, j < i2n (F 6 i) → q j = some (AD 5 (6 * i + j)) := (h.2.2.2.1 i hi).2.2.2.1 hj
theorem Rep.ke (h : Rep cI cO L f tg AD mc F ik kp tu n he gv gp gb ob nm lo) {i : Nat} (hi : i < n) : ∃ kk : Nat → Int32, Hs L f (AD 3 i) (.inl (cI, 8, .inl kk)) ∧ ∀ p, p < 8 → kk p = kp (8 * i + p) := (h.2.2.2.1 i hi).2.1
theorem Rep.ev (h : Rep cI cO L f tg AD mc F ik kp tu n he gv gp gb ob nm lo) : ∃ ev : Nat → Int32, Hs L f (AD 0 4) (.inl (cI, 6, .inl ev)) ∧ ∀ k, k < 6 → ev k = mMem F k := h.1.2.2.2.2
theorem Rep.td (h : Rep cI cO L f tg AD mc F ik kp tu n he gv gp gb ob nm lo) : ∃ (m : Nat) (q : Nat → Option Nat), Hs L f (AD 6 0) (refs cO m q) ∧ n ≤ m ∧ m ≤ 22 ∧ ∀ i, i < n → q i = some (AD 1 i) := h.2.2.1.2
theorem Rep.inj (h : Rep cI cO L f tg AD mc F ik kp tu n he gv gp gb ob nm lo) {i j : Nat} (hi : i < n) (hj : j < n) (e : AD 1 i = AD 1 j) : i = j := by
  have h1 := (h.2.2.2.2.2.2 i hi).1
  have h2 := (h.2.2.2.2.2.2 j hj).1
  rw [e, h2] at h1; omega
end RP
theorem cnt_if (x y : Int32) : (if x = y then (0 : Int32) else 1) = b2i (!decide (x = y)) := by
  by_cases h : x = y
  · rw [if_pos h, decide_eq_true h]; rfl
  · rw [if_neg h, decide_eq_false h]; rfl
