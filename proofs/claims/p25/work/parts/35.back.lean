/-! rights found backwards -/
def mLev (F : Nat → Nat → Int32) : Nat → Nat → Nat
  | 0, _ => 0
  | k + 1, a => if F 5 a = 0 then 0 else if F 3 a = -1 then 0 else mLev F k (i2n (F 3 a)) + 1
def anc (F : Nat → Nat → Int32) (x : Nat) : Nat → Nat
  | 0 => x
  | k + 1 => i2n (F 3 (anc F x k))
theorem mLev_le {F : Nat → Nat → Int32} {n : Nat} (hM : okC F n) : ∀ (k a : Nat), a < n → mLev F k a ≤ a := by
  intro k
  induction k with
  | zero => intro a _; exact Nat.zero_le _
  | succ k ih =>
    intro a ha
    show (if _ then _ else _) ≤ a
    by_cases c : F 5 a = 0
    · rw [if_pos c]; exact Nat.zero_le _
    · rw [if_neg c]
      by_cases d : F 3 a = -1
      · rw [if_pos d]; exact Nat.zero_le _
      · rw [if_neg d]
        have h := (hM.par ha d).2
        have h2 := ih (i2n (F 3 a)) (by omega)
        omega
/-- along the chain, as far as it is inherited -/
theorem anc_all {F : Nat → Nat → Int32} {n x : Nat} (hM : okC F n) (hx : x < n) : ∀ (i k : Nat), i ≤ mLev F (x + 1) x → (anc F x i < n ∧ anc F x i + i ≤ x) ∧ (i < mLev F (x + 1) x → ¬ F 3 (anc F x i) = -1) ∧ mLev F (x + 1) x = i + mLev F (x + 1 - i) (anc F x i) := by
  intro i k
  induction i with
  | zero =>
    intro _
    refine ⟨⟨hx, Nat.le_refl _⟩, fun h => ?_, by rw [Nat.zero_add]; rfl⟩
    intro c
    have e : mLev F (x + 1) x = 0 := by
      show (if _ then _ else _) = 0
      by_cases d : F 5 x = 0
      · rw [if_pos d]
      · rw [if_neg d, if_pos (show F 3 x = -1 from c)]
    omega
  | succ i ih =>
    intro h
    obtain ⟨⟨h1, h2⟩, h3, h4⟩ := ih (by omega)
    have h5 := h3 (by omega)
    have hp := (hM.par h1 h5).2
    have e : anc F x (i + 1) = i2n (F 3 (anc F x i)) := rfl
    have hl : mLev F (x + 1 - i) (anc F x i) = mLev F (x + 1 - (i + 1)) (anc F x (i + 1)) + 1 := by
      have ek : x + 1 - i = (x + 1 - (i + 1)) + 1 := by omega
      have hne : mLev F (x + 1 - i) (anc F x i) ≠ 0 := by omega
      have hs : mLev F (x + 1 - (i + 1) + 1) (anc F x i) = (if F 5 (anc F x i) = 0 then 0 else if F 3 (anc F x i) = -1 then 0 else mLev F (x + 1 - (i + 1)) (i2n (F 3 (anc F x i))) + 1) := rfl
      rw [ek, hs] at hne
      rw [ek, hs]
      by_cases c : F 5 (anc F x i) = 0
      · rw [if_pos c] at hne; exact absurd rfl hne
      · rw [if_neg c, if_neg h5]; rfl
    have h6 : mLev F (x + 1) x = (i + 1) + mLev F (x + 1 - (i + 1)) (anc F x (i + 1)) := by omega
    refine ⟨⟨by rw [e]; omega, by rw [e]; omega⟩, fun h7 c => ?_, h6⟩
    have e0 : mLev F (x + 1 - (i + 1)) (anc F x (i + 1)) = 0 := by
      cases hz : x + 1 - (i + 1) with
      | zero => rfl
      | succ z =>
        unfold mLev
        by_cases d : F 5 (anc F x (i + 1)) = 0
        · rw [if_pos d]
        · rw [if_neg d, if_pos c]
    omega
theorem anc_lt {F : Nat → Nat → Int32} {n x i : Nat} (hM : okC F n) (hx : x < n) (h : i ≤ mLev F (x + 1) x) : anc F x i < n := (anc_all hM hx i 0 h).1.1
theorem anc_eq {F : Nat → Nat → Int32} {n x i : Nat} (hM : okC F n) (hx : x < n) (h : i ≤ mLev F (x + 1) x) : decide (i = 0) = decide (anc F x i = x) := by
  have h2 := (anc_all hM hx i 0 h).1.2
  by_cases c : i = 0
  · subst c; rw [decide_eq_true rfl, decide_eq_true (show anc F x 0 = x from rfl)]
  · rw [decide_eq_false c, decide_eq_false (by omega)]
theorem anc_par {AD : Nat → Nat → Nat} {F : Nat → Nat → Int32} {n x i : Nat} (hM : okC F n) (hx : x < n) (h : i < mLev F (x + 1) x) : parR AD F (anc F x i) = some (AD 1 (anc F x (i + 1))) := if_neg ((anc_all hM hx i 0 (by omega)).2.1 h)
def bStep (F : Nat → Nat → Int32) (p f a k : Nat) (v : Int32) : Int32 :=
  if mCnt F a f (6 * a + k) = 0 then v else if mFor F (6 * a + k) p = true then (if F 8 (6 * a + k) = 0 then v &&& (F 9 (6 * a + k) ^^^ (-1)) else v ||| F 9 (6 * a + k)) else v
def bRow (F : Nat → Nat → Int32) (p f a : Nat) : Nat → Int32 → Int32
  | 0, v => v
  | k + 1, v => bRow F p f a k (bStep F p f a k v)
def bSeg (F : Nat → Nat → Int32) (p f j : Nat) : Nat → Int32 → Int32
  | 0, v => v
  | c + 1, v => bSeg F p f j c (bRow F p f (anc F f (j + c)) (i2n (F 6 (anc F f (j + c)))) v)
def bCh (F : Nat → Nat → Int32) (p f : Nat) : Nat → Nat → Int32
  | 0, _ => 0
  | n + 1, a => bRow F p f a (i2n (F 6 a)) (if F 5 a = 0 then 0 else if F 3 a = -1 then 0 else bCh F p f n (i2n (F 3 a)))
def phi (s : Int32 × Int32) (v : Int32) : Int32 := s.1 ||| (v &&& (s.2 ^^^ (-1)))
theorem i_bits {x y : Int32} (h : ∀ i, i < 32 → x.toBitVec.getLsbD i = y.toBitVec.getLsbD i) : x = y := by
  apply Int32.toBitVec_inj.mp
  exact BitVec.eq_of_getLsbD_eq h
theorem phi_step (F : Nat → Nat → Int32) (p f a k : Nat) (s : Int32 × Int32) (v : Int32) : phi (mStep F p f a k s) v = phi s (bStep F p f a k v) := by
  unfold mStep bStep
  split
  · rfl
  · split
    · unfold phi
      rw [i_not, i_not, i_not, i_not_or]
      split
      · rw [i_or0, i_assoc, i_comm (~~~(F 9 (6 * a + k)))]
      · apply i_bits
        intro i hi
        simp only [Int32.toBitVec_or, Int32.toBitVec_and, Int32.toBitVec_not, BitVec.getLsbD_or, BitVec.getLsbD_and, BitVec.getLsbD_not, hi, decide_true, Bool.true_and]
        cases s.1.toBitVec.getLsbD i <;> cases s.2.toBitVec.getLsbD i <;> cases (F 9 (6 * a + k)).toBitVec.getLsbD i <;> cases v.toBitVec.getLsbD i <;> rfl
    · rfl
theorem phi_row (F : Nat → Nat → Int32) (p f a : Nat) : ∀ (k : Nat) (s : Int32 × Int32) (v : Int32), phi (mRow F p f a k s) v = phi s (bRow F p f a k v) := by
  intro k
  induction k with
  | zero => intro s v; rfl
  | succ k ih =>
    intro s v
    show phi (mStep F p f a k (mRow F p f a k s)) v = phi s (bRow F p f a k (bStep F p f a k v))
    rw [phi_step, ih]
theorem phi_0 (s : Int32 × Int32) : phi s 0 = s.1 := by unfold phi; rw [i_0and, i_or0]
theorem phi_ch (F : Nat → Nat → Int32) (p f : Nat) : ∀ (n a : Nat) (s : Int32 × Int32), mChain F p f n a s = phi s (bCh F p f n a) := by
  intro n
  induction n with
  | zero => intro a s; exact (phi_0 s).symm
  | succ n ih =>
    intro a s
    unfold mChain bCh
    by_cases c : F 5 a = 0
    · rw [if_pos c, if_pos c, ← phi_row, phi_0]
    · rw [if_neg c, if_neg c]
      by_cases d : F 3 a = -1
      · rw [if_pos d, if_pos d, ← phi_row, phi_0]
      · rw [if_neg d, if_neg d, ← phi_row, ih]
theorem bSeg_s (F : Nat → Nat → Int32) (p f j : Nat) : ∀ (c : Nat) (v : Int32), bSeg F p f j (c + 1) v = bRow F p f (anc F f j) (i2n (F 6 (anc F f j))) (bSeg F p f (j + 1) c v) := by
  intro c
  induction c with
  | zero => intro v; rfl
  | succ c ih =>
    intro v
    show bSeg F p f j (c + 1) (bRow F p f (anc F f (j + (c + 1))) (i2n (F 6 (anc F f (j + (c + 1))))) v) = bRow F p f (anc F f j) (i2n (F 6 (anc F f j))) (bSeg F p f (j + 1) c (bRow F p f (anc F f (j + 1 + c)) (i2n (F 6 (anc F f (j + 1 + c)))) v))
    rw [ih, show j + (c + 1) = j + 1 + c by omega]
theorem bCh_seg {F : Nat → Nat → Int32} {nn : Nat} (hM : okC F nn) (p f : Nat) : ∀ (n j : Nat), anc F f j < nn → anc F f j < n → bCh F p f n (anc F f j) = bSeg F p f j (mLev F n (anc F f j) + 1) 0 := by
  intro n
  induction n with
  | zero => intro j _ h; exact absurd h (Nat.not_lt_zero _)
  | succ n ih =>
    intro j hj h
    rw [bSeg_s]
    unfold bCh mLev
    by_cases c : F 5 (anc F f j) = 0
    · rw [if_pos c, if_pos c]; rfl
    · rw [if_neg c, if_neg c]
      by_cases d : F 3 (anc F f j) = -1
      · rw [if_pos d, if_pos d]; rfl
      · rw [if_neg d, if_neg d]
        have hp := (hM.par hj d).2
        have e : i2n (F 3 (anc F f j)) = anc F f (j + 1) := rfl
        rw [e] at hp ⊢
        rw [ih (j + 1) (by omega) (by omega)]
/-- the rights of the person p on the folder f, found backwards -/
theorem mRights_back {F : Nat → Nat → Int32} {nn : Nat} (hM : okC F nn) {p f : Nat} (hf : f < nn) (c : ¬ F 4 f = nI p) : mRights F p f = bSeg F p f 0 (mLev F (f + 1) f + 1) 0 := by
  have e : mRights F p f = mChain F p f (f + 1) f (0, 0) := if_neg c
  have h := bCh_seg hM p f (f + 1) 0 hf (Nat.lt_succ_self _)
  rw [e, phi_ch]
  show phi (0, 0) (bCh F p f (f + 1) (anc F f 0)) = _
  rw [h]
  show (0 : Int32) ||| (bSeg F p f 0 (mLev F (f + 1) f + 1) 0 &&& ((0 : Int32) ^^^ (-1))) = _
  apply i_bits
  intro i hi
  have e0 : ((0 : Int32) ^^^ (-1)) = ~~~(0 : Int32) := i_not 0
  rw [e0]
  simp only [Int32.toBitVec_or, Int32.toBitVec_and, Int32.toBitVec_not, BitVec.getLsbD_or, BitVec.getLsbD_and, BitVec.getLsbD_not, hi, decide_true, Bool.true_and]
  have z : (0 : Int32).toBitVec.getLsbD i = false := by show (0#32).getLsbD i = false; exact BitVec.getLsbD_zero
  rw [z]; simp
theorem i_sub1 (x : Int32) : x - 1 = x + (-1) := by
  rw [Int32.sub_eq_add_neg]
section BS
variable {F : Nat → Nat → Int32} {x y a i : Nat} {v : Int32}
theorem bs_0 (c : toB (mCnt F a y (6 * a + i)) = false) : bStep F x y a i v = v := by unfold bStep; rw [if_pos (toB_f c)]
theorem bs_1 (c : toB (mCnt F a y (6 * a + i)) = true) (d : mFor F (6 * a + i) x = false) : bStep F x y a i v = v := by unfold bStep; rw [if_neg (toB_t c), if_neg (b2i_bf d)]
theorem bs_2 (c : toB (mCnt F a y (6 * a + i)) = true) (d : mFor F (6 * a + i) x = true) : bStep F x y a i v = (if F 8 (6 * a + i) = 0 then v &&& (F 9 (6 * a + i) ^^^ (-1)) else v ||| F 9 (6 * a + i)) := by unfold bStep; rw [if_neg (toB_t c), if_pos d]
end BS
theorem z_dec (k : Nat) (h : k < 2 ^ 31) : (if nI k = 0 then (1 : Int32) else 0) = b2i (decide (k = 0)) := by
  by_cases c : k = 0
  · subst c; rfl
  · rw [if_neg (nI_ne0 (by omega) h), decide_eq_false c]; rfl
