/-! the model's public methods -/
def toB (x : Int32) : Bool := !decide (x = 0)
theorem toB_b2i (b : Bool) : toB (b2i b) = b := by cases b <;> rfl
theorem of_b2i {x : Int32} (h : ∃ b : Bool, x = b2i b) : x = b2i (toB x) := by
  obtain ⟨b, rfl⟩ := h
  rw [toB_b2i]
def okB (F : Nat → Nat → Int32) (ik tu : Nat → Int32) : Prop := (∀ k, ∃ b : Bool, F 5 k = b2i b) ∧ (∀ k, ∃ b : Bool, F 8 k = b2i b) ∧ (∀ k, ∃ b : Bool, ik k = b2i b) ∧ ∀ k, ∃ b : Bool, tu k = b2i b
theorem inB_t {k N : Nat} (h : k ≤ N) (hN : N < 2 ^ 31) : inB (nI k) 0 (nI N) = true := by
  unfold inB
  rw [decide_eq_true (nI_pos' (by omega)), decide_eq_true (nI_le h hN)]; rfl
theorem inB_ex {v : Int32} {N : Nat} (hN : N < 2 ^ 31) (h : inB v 0 (nI N) = true) : ∃ k, k ≤ N ∧ v = nI k := by
  unfold inB at h
  rw [Bool.and_eq_true, decide_eq_true_eq, decide_eq_true_eq] at h
  exact nI_of2 (M := nI N) (nI_toInt hN) (Int32.not_lt.mpr h.1) h.2
theorem inB_g {k : Nat} (h : k < 6) : inB (nI k) 0 5 = true := inB_t (N := 5) (by omega) (by decide)
theorem inB_p {k : Nat} (h : k < 8) : inB (nI k) 0 7 = true := inB_t (N := 7) (by omega) (by decide)
theorem g6m {x : Int32} {n : Nat} (h : x = nI n) (h1 : 1 ≤ n) : x - 1 = nI (n - 1) := by rw [h]; exact pk_sub (a := n) (b := 1) h1
theorem inB_f {F : Nat → Nat → Int32} {g : Nat → Int32} {n k : Nat} (hM : okM F g n) (h : k < n) : inB (nI k) 0 (g 6 - 1) = true := by
  have h2 := hM.2.1
  rw [g6m hM.1 h2.1]
  exact inB_t (by omega) (by omega)
theorem okM.thr {F : Nat → Nat → Int32} {g : Nat → Int32} {n : Nat} {v : Int32} (h : okM F g n) : okM F (va_up g 19 v) n := h
theorem Bft {b : Bool} (h : b = true) (c : b = false) : False := by rw [h] at c; cases c
theorem B2f {a b : Bool} (h : (a && b) = false) (ca : a = true) (cb : b = true) : False := by rw [ca, cb] at h; cases h
theorem nb_if (b : Bool) : (if b = true then (0 : Int32) else 1) = b2i (!b) := by cases b <;> rfl
theorem nI_ne {x : Int32} {a b : Nat} (hx : x = nI a) (h : a < b) (hb : b < 2 ^ 31) (c : x = nI b) : False := by
  rw [hx] at c
  have := (nI_eq (by omega) hb).mp c
  omega
theorem vpn_of {x : Int32} (h : ∃ b : Bool, x = b2i b) : vp_nar .boolean x = x := by
  obtain ⟨b, rfl⟩ := h
  exact vpn_b2i b
/-- the rows behind a place move up -/
def shl (f : Nat → Int32) (b : Nat) : Nat → (Nat → Int32)
  | 0 => f
  | k + 1 => upd (shl f b k) (b + k) (shl f b k (b + k + 1))
theorem shl_get (f : Nat → Int32) (b : Nat) : ∀ k j, shl f b k j = if b ≤ j ∧ j < b + k then f (j + 1) else f j := by
  intro k
  induction k with
  | zero => intro j; rw [if_neg (by omega)]; rfl
  | succ k ih =>
    intro j
    show upd (shl f b k) (b + k) (shl f b k (b + k + 1)) j = _
    by_cases h : j = b + k
    · subst h; rw [pk_us, ih, if_neg (by omega), if_pos (by omega)]
    · rw [pk_un h, ih]
      by_cases h2 : b ≤ j ∧ j < b + k
      · rw [if_pos h2, if_pos (by omega)]
      · rw [if_neg h2, if_neg (by omega)]
theorem shl_bool {f : Nat → Int32} (h : ∀ k, ∃ b : Bool, f k = b2i b) (b k j : Nat) : ∃ c : Bool, shl f b k j = b2i c := by
  rw [shl_get]
  split
  · exact h _
  · exact h _
theorem grp_of {gi : Int32} (h : inB gi (-1) 5 = true) : gi = -1 ∨ ∃ k, k < 6 ∧ gi = nI k := by
  unfold inB at h
  rw [Bool.and_eq_true, decide_eq_true_eq, decide_eq_true_eq] at h
  obtain ⟨h1, h2⟩ := h
  by_cases c : gi < 0
  · left
    rw [Int32.le_iff_toInt_le] at h1
    rw [Int32.lt_iff_toInt_lt, Int32.toInt_zero] at c
    have e : (-1 : Int32).toInt = -1 := by decide
    apply Int32.toInt_inj.mp
    omega
  · right
    obtain ⟨k, hk, e⟩ := nI_of2 (M := nI 5) (nI_toInt (by decide)) c h2
    exact ⟨k, by omega, e⟩
def mNow (F : Nat → Nat → Int32) (kp tu : Nat → Int32) (p x : Nat) : Int32 := if tu x = 0 then mRights F p x else kp (8 * x + p)
def gnr (F : Nat → Nat → Int32) (kp tu : Nat → Int32) (x : Nat) : Nat → Int32
  | 0 => 0
  | k + 1 => gnr F kp tu x k ||| (if (mNow F kp tu k x &&& (mRights F k x ^^^ (-1))) = 0 then 0 else (1 : Int32) <<< (nI k &&& 31))
/-- the rights by the mapping of the folder x, as the array has them -/
def mMP (F : Nat → Nat → Int32) (ow mp : Nat → Int32) (x : Nat) : Nat → Int32 := fillA mp (mV F ow x (mBest F ow x)) 8
def frB (ik kp MP : Nat → Int32) (x : Nat) : Nat → Bool
  | 0 => toB (ik x)
  | k + 1 => frB ik kp MP x k && decide (kp (8 * x + k) = MP k)
theorem frB_s (ik kp MP : Nat → Int32) (x k : Nat) : (if frB ik kp MP x k = true then (if kp (8 * x + k) = MP k then (1 : Int32) else 0) else 0) = b2i (frB ik kp MP x (k + 1)) := by
  show _ = b2i (frB ik kp MP x k && decide (kp (8 * x + k) = MP k))
  cases frB ik kp MP x k with
  | false => rfl
  | true =>
    rw [if_pos rfl, Bool.true_and]
    by_cases h : kp (8 * x + k) = MP k
    · rw [if_pos h, decide_eq_true h]; rfl
    · rw [if_neg h, decide_eq_false h]; rfl
theorem z_if (x : Int32) : (if x = 0 then (1 : Int32) else 0) = b2i (!toB x) := by
  unfold toB
  by_cases h : x = 0
  · rw [if_pos h, decide_eq_true h]; rfl
  · rw [if_neg h, decide_eq_false h]; rfl
def keepA (kp MP : Nat → Int32) (f : Nat) : Nat → (Nat → Int32)
  | 0 => kp
  | j + 1 => upd (keepA kp MP f j) (8 * f + j) (MP j)
def othB (ik kp MP : Nat → Int32) (f : Nat) : Nat → Bool
  | 0 => !toB (ik f)
  | j + 1 => othB ik kp MP f j || !decide (keepA kp MP f j (8 * f + j) = MP j)
theorem othB_s (ik kp MP : Nat → Int32) (f j : Nat) : (if othB ik kp MP f j = true then (1 : Int32) else if keepA kp MP f j (8 * f + j) = MP j then 0 else 1) = b2i (othB ik kp MP f (j + 1)) := by
  show _ = b2i (othB ik kp MP f j || !decide (keepA kp MP f j (8 * f + j) = MP j))
  cases othB ik kp MP f j with
  | true => rfl
  | false =>
    rw [if_neg (by decide), Bool.false_or]
    by_cases h : keepA kp MP f j (8 * f + j) = MP j
    · rw [if_pos h, decide_eq_true h]; rfl
    · rw [if_neg h, decide_eq_false h]; rfl
def lastOw (F : Nat → Nat → Int32) (ow : Nat → Int32) : Nat → (Nat → Int32)
  | 0 => ow
  | k + 1 => mOwn F ow k
def lastMp (F : Nat → Nat → Int32) (ow mp : Nat → Int32) : Nat → (Nat → Int32)
  | 0 => mp
  | k + 1 => mMP F ow mp k
def lastI (nm : Int32) (f : Nat → Int32) : Nat → Int32
  | 0 => nm
  | k + 1 => f k
def ikA (ik : Nat → Int32) : Nat → (Nat → Int32)
  | 0 => ik
  | k + 1 => upd (ikA ik k) k 1
def kpA (F : Nat → Nat → Int32) (ow mp kp : Nat → Int32) : Nat → (Nat → Int32)
  | 0 => kp
  | k + 1 => keepA (kpA F ow mp kp k) (mMP F ow mp k) k 8
def psN (F : Nat → Nat → Int32) (ow mp ik kp : Nat → Int32) : Nat → Int32
  | 0 => 0
  | k + 1 => psN F ow mp ik kp k + (if othB (ikA ik k) (kpA F ow mp kp k) (mMP F ow mp k) k 8 = true then 1 else 0)
theorem lastOw_own (F : Nat → Nat → Int32) (ow : Nat → Int32) (i x : Nat) : mOwn F (lastOw F ow i) x = mOwn F ow x := by
  cases i with
  | zero => rfl
  | succ i => exact fillA_fillA _ _ _ _
theorem mN_cg {F : Nat → Nat → Int32} {ow ow' : Nat → Int32} {x : Nat} (e : mOwn F ow' x = mOwn F ow x) (gi : Int32) : mN F ow' x gi = mN F ow x gi := by unfold mN; rw [e]
theorem mL_cg {F : Nat → Nat → Int32} {ow ow' : Nat → Int32} {x : Nat} (e : mOwn F ow' x = mOwn F ow x) (gi : Int32) : mL F ow' x gi = mL F ow x gi := by unfold mL; rw [mN_cg e, e]
theorem mGB_cg {F : Nat → Nat → Int32} {ow ow' : Nat → Int32} {x : Nat} (e : mOwn F ow' x = mOwn F ow x) (gi : Int32) : mGB F ow' x gi = mGB F ow x gi := by unfold mGB; rw [mN_cg e, e]
theorem mOB_cg {F : Nat → Nat → Int32} {ow ow' : Nat → Int32} {x : Nat} (e : mOwn F ow' x = mOwn F ow x) (gi : Int32) : mOB F ow' x gi = mOB F ow x gi := by unfold mOB; rw [mN_cg e, e]
theorem mV_cg {F : Nat → Nat → Int32} {ow ow' : Nat → Int32} {x : Nat} (e : mOwn F ow' x = mOwn F ow x) (gi : Int32) : mV F ow' x gi = mV F ow x gi := by unfold mV; rw [mN_cg e, e]
theorem mB_cg {F : Nat → Nat → Int32} {ow ow' : Nat → Int32} {x : Nat} (e : mOwn F ow' x = mOwn F ow x) : ∀ n, mB F ow' x n = mB F ow x n := by
  intro n
  induction n with
  | zero => show ((-1 : Int32), mL F ow' x (-1)) = (-1, mL F ow x (-1)); rw [mL_cg e]
  | succ n ih =>
    show (if (mB F ow' x n).2 ≤ mL F ow' x (nI n) then mB F ow' x n else (nI n, mL F ow' x (nI n))) = (if (mB F ow x n).2 ≤ mL F ow x (nI n) then mB F ow x n else (nI n, mL F ow x (nI n)))
    rw [ih, mL_cg e]
theorem mBest_cg {F : Nat → Nat → Int32} {ow ow' : Nat → Int32} {x : Nat} (e : mOwn F ow' x = mOwn F ow x) : mBest F ow' x = mBest F ow x := by unfold mBest; rw [mB_cg e]
theorem lastMp_MP (F : Nat → Nat → Int32) (ow mp : Nat → Int32) (i : Nat) : fillA (lastMp F ow mp i) (mV F (lastOw F ow i) i (mBest F (lastOw F ow i) i)) 8 = mMP F ow mp i := by
  rw [mBest_cg (lastOw_own F ow i i), mV_cg (lastOw_own F ow i i)]
  cases i with
  | zero => rfl
  | succ i => exact fillA_fillA _ _ _ _
