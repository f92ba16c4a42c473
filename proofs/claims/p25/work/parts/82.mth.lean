/-! what the law's checks rest on -/
theorem subI_and {x y : Int32} (h : subI x y) : x &&& (y ^^^ (-1)) = 0 := by
  apply b_ext
  intro i hi
  rw [b_and, b_xm1 _ hi, b_0]
  cases hx : bt x i with
  | false => rfl
  | true => rw [h i hi hx]; rfl
theorem subI_rf (x : Int32) : subI x x := fun _ _ h => h
theorem comm_sub (f : Nat → Int32) (S : Int32) {p : Nat} (hp : hasB S (nI p) = true) : ∀ k, p < k → subI (comm f S k) (f p) := by
  intro k
  induction k with
  | zero => intro h; exact absurd h (Nat.not_lt_zero _)
  | succ k ih =>
    intro h i hi hb
    have hb : bt (comm f S k &&& (if hasB S (nI k) = true then f k else 7)) i = true := hb
    rw [b_and, Bool.and_eq_true] at hb
    by_cases c : p = k
    · subst c
      rw [if_pos hp] at hb; exact hb.2
    · exact ih (by omega) i hi hb.1
section MM
variable {F : Nat → Nat → Int32} {n y q p : Nat} {gi : Int32}
theorem own_at (hp : p < 8) : mOwn F o0 y p = mRights F p y := by
  unfold mOwn; rw [fillA_get, if_pos hp]
theorem mV_sub (hq : F 4 y = nI q) (h8 : q < 8) (hp : p < 8) : subI (mV F o0 y gi p) (mRights F p y) := by
  have hp32 : p < 32 := by omega
  unfold mV ftV
  by_cases c1 : nI p = F 4 y
  · rw [if_pos c1, show mRights F p y = 7 from if_pos c1.symm]; exact subI_rf 7
  · rw [if_neg c1]
    by_cases c2 : hasB (mN F o0 y gi) (nI p) = true
    · rw [if_pos c2, own_at hp]; exact subI_rf _
    · rw [if_neg c2]
      by_cases c3 : hasB (ftG (mMm F gi) gi (F 4 y) (mN F o0 y gi)) (nI p) = true
      · rw [if_pos c3, ← own_at hp]; exact comm_sub _ _ c3 8 hp
      · rw [if_neg c3, ← own_at hp]
        refine comm_sub _ _ ?_ 8 hp
        have c1' : ¬ p = q := fun e => c1 (by rw [e, hq])
        rw [hasB_bt _ hp32, Bool.not_eq_true] at c2 c3
        rw [hasB_bt _ hp32, b_and, b_xm1 _ hp32, c3]
        rw [hq, ftL_bt h8 _ hp, c2, decide_eq_false c1']; rfl
theorem mV_named (hp : p < 8) (c : hasB (mN F o0 y gi) (nI p) = true) : mV F o0 y gi p = mRights F p y := by
  unfold mV ftV
  by_cases c1 : nI p = F 4 y
  · rw [if_pos c1, show mRights F p y = 7 from if_pos c1.symm]
  · rw [if_neg c1, if_pos c, own_at hp]
theorem mV_0 (hq : F 4 y = nI q) (h8 : q < 8) (hp : p < 8) : mV F o0 y gi p &&& (mRights F p y ^^^ (-1)) = 0 := subI_and (mV_sub hq h8 hp)
theorem mV_nm (hp : p < 8) (c : ¬ (mN F o0 y gi >>> (nI p &&& 31)) &&& 1 = 0) : mV F o0 y gi p = mRights F p y := by
  refine mV_named hp ?_
  unfold hasB
  rcases and_one (mN F o0 y gi >>> (nI p &&& 31)) with h | h
  · exact absurd h c
  · exact decide_eq_true h
/-- how many bits there are below a place -/
def cn (s : Int32) : Nat → Nat
  | 0 => 0
  | k + 1 => cn s k + (bt s k).toNat
theorem bit_bt (s : Int32) {k : Nat} (hk : k < 32) : (s >>> (nI k &&& 31)) &&& 1 = nI (bt s k).toNat := by
  have h := hasB_bt s hk
  unfold hasB at h
  rcases and_one (s >>> (nI k &&& 31)) with e | e
  · rw [e] at h ⊢
    have h2 : bt s k = false := by rw [← h]; decide
    rw [h2]; rfl
  · rw [e] at h ⊢
    have h2 : bt s k = true := by rw [← h]; decide
    rw [h2]; rfl
theorem sizeI_cn (s : Int32) : ∀ k, k ≤ 32 → sizeI s k = nI (cn s k) := by
  intro k
  induction k with
  | zero => intro _; rfl
  | succ k ih =>
    intro h
    show sizeI s k + ((s >>> (nI k &&& 31)) &&& 1) = nI (cn s k + (bt s k).toNat)
    rw [ih (by omega), bit_bt s (by omega), nI_add]
theorem cn_or (s : Int32) {j : Nat} (hj : j < 32) : ∀ k, k ≤ 32 → cn (s ||| ((1 : Int32) <<< (nI j &&& 31))) k ≤ cn s k + (if j < k then 1 else 0) := by
  intro k
  induction k with
  | zero => intro _; exact Nat.zero_le _
  | succ k ih =>
    intro h
    have ih := ih (by omega)
    show cn (s ||| ((1 : Int32) <<< (nI j &&& 31))) k + (bt (s ||| ((1 : Int32) <<< (nI j &&& 31))) k).toNat ≤ cn s k + (bt s k).toNat + (if j < k + 1 then 1 else 0)
    rw [b_or, b_1shl hj (show k < 32 by omega)]
    by_cases c : k = j
    · subst c
      rw [if_neg (Nat.lt_irrefl _)] at ih
      rw [decide_eq_true rfl, Bool.or_true, if_pos (Nat.lt_succ_self _)]
      show cn _ k + 1 ≤ _
      omega
    · rw [decide_eq_false c, Bool.or_false]
      by_cases d : j < k
      · rw [if_pos d] at ih; rw [if_pos (by omega)]; omega
      · rw [if_neg d] at ih; rw [if_neg (by omega)]; omega
theorem mNm_cn (own : Nat → Int32) (mm gi o : Int32) : ∀ k, cn (mNm own mm gi o k) 8 ≤ k := by
  intro k
  induction k with
  | zero => show cn 0 8 ≤ 0; decide +kernel
  | succ k ih =>
    by_cases c : ftLoss own mm gi o (mNm own mm gi o k) ≤ 0
    · have e : mNm own mm gi o (k + 1) = mNm own mm gi o k := if_pos c
      rw [e]; omega
    · have h := cn_or (mNm own mm gi o k) (j := wst own (ftV own mm gi o (mNm own mm gi o k)) 8) (by have := wst_lt own (ftV own mm gi o (mNm own mm gi o k)) 8 (by decide); omega) 8 (by decide)
      rw [if_pos (wst_lt own (ftV own mm gi o (mNm own mm gi o k)) 8 (by decide))] at h
      rw [mNm_s c]
      omega
theorem named_3 : ¬ (3 : Int32) < sizeI (mN F o0 y gi) 8 := by
  rw [sizeI_cn _ 8 (by decide)]
  exact nI_nlt (a := 3) (mNm_cn _ _ _ _ 3) (by decide)
theorem mL_sum : lossS (fun p => mRights F p y) (mV F o0 y gi) 8 = mL F o0 y gi := lossS_cg (own_agr F o0 y) (fun _ _ => rfl) 8 (Nat.le_refl _)
theorem mB_is : ∀ k, (mB F o0 y k).2 = mL F o0 y (mB F o0 y k).1 := by
  intro k
  induction k with
  | zero => rfl
  | succ k ih =>
    by_cases c : (mB F o0 y k).2 ≤ mL F o0 y (nI k)
    · rw [mB_t c]; exact ih
    · rw [mB_f c]
theorem mB_min : ∀ k, (mB F o0 y k).2 ≤ mL F o0 y (-1) ∧ ∀ j, j < k → (mB F o0 y k).2 ≤ mL F o0 y (nI j) := by
  intro k
  induction k with
  | zero => exact ⟨Int32.le_refl _, fun j h => absurd h (Nat.not_lt_zero _)⟩
  | succ k ih =>
    by_cases c : (mB F o0 y k).2 ≤ mL F o0 y (nI k)
    · rw [mB_t c]
      refine ⟨ih.1, fun j h => ?_⟩
      by_cases d : j = k
      · rw [d]; exact c
      · exact ih.2 j (by omega)
    · have c2 := Int32.le_of_lt (Int32.not_le.mp c)
      rw [mB_f c]
      refine ⟨Int32.le_trans c2 ih.1, fun j h => ?_⟩
      by_cases d : j = k
      · rw [d]; exact Int32.le_refl _
      · exact Int32.le_trans c2 (ih.2 j (by omega))
theorem mL_least (h : gi = -1 ∨ ∃ k, k < 6 ∧ gi = nI k) : ¬ mL F o0 y gi < mL F o0 y (mBest F o0 y) := by
  rw [Int32.not_lt]
  have e : mL F o0 y (mBest F o0 y) = (mB F o0 y 6).2 := (mB_is 6).symm
  rw [e]
  rcases h with h | ⟨k, hk, h⟩
  · rw [h]; exact (mB_min 6).1
  · rw [h]; exact (mB_min 6).2 k hk
end MM
/-! groups in groups -/
theorem gstep_up (f : Nat → Int32) (s : Int32) : ∀ d k, subI (gstep f s k) (gstep f s (k + d)) := by
  intro d
  induction d with
  | zero => intro k i _ h; exact h
  | succ d ih =>
    intro k i hi h
    show bt (gstep f s (k + d) ||| (if hasB (gstep f s (k + d)) (nI (k + d)) = true then f (k + d) else 0)) i = true
    rw [b_or, ih k i hi h, Bool.true_or]
theorem fix_closed {f : Nat → Int32} {R : Int32} (h : gstep f R 6 = R) {k : Nat} (hk : k < 6) (hb : bt R k = true) : subI (f k) R := by
  intro i hi hf
  have h1 : bt (gstep f R (k + 1)) i = true := by
    show bt (gstep f R k ||| (if hasB (gstep f R k) (nI k) = true then f k else 0)) i = true
    rw [hasB_bt _ (show k < 32 by omega), if_pos (gstep_sub f R k k (by omega) hb), b_or, hf, Bool.or_true]
  have h2 := gstep_up f R (6 - (k + 1)) (k + 1) i hi h1
  rw [show k + 1 + (6 - (k + 1)) = 6 by omega, h] at h2
  exact h2
theorem gstep_in {f : Nat → Int32} {R s : Int32} (hR : ∀ k, k < 6 → bt R k = true → subI (f k) R) (hs : subI s R) : ∀ k, k ≤ 6 → subI (gstep f s k) R := by
  intro k
  induction k with
  | zero => intro _; exact hs
  | succ k ih =>
    intro hk i hi h
    have ih := ih (by omega)
    have h : bt (gstep f s k ||| (if hasB (gstep f s k) (nI k) = true then f k else 0)) i = true := h
    rw [b_or, Bool.or_eq_true] at h
    rcases h with h | h
    · exact ih i hi h
    · rw [hasB_bt _ (show k < 32 by omega)] at h
      by_cases c : bt (gstep f s k) k = true
      · rw [if_pos c] at h
        exact hR k (by omega) (ih k (by omega) c) i hi h
      · rw [if_neg c, b_0] at h; cases h
theorem grnds_in {f : Nat → Int32} {R s : Int32} (hR : ∀ k, k < 6 → bt R k = true → subI (f k) R) (hs : subI s R) : ∀ r, subI (grnds f s r) R := by
  intro r
  induction r with
  | zero => exact hs
  | succ r ih => exact gstep_in hR ih 6 (by decide)
theorem grnds_sub (f : Nat → Int32) (s : Int32) : ∀ r, subI s (grnds f s r) := by
  intro r
  induction r with
  | zero => exact subI_rf s
  | succ r ih => exact fun i hi h => gstep_sub f (grnds f s r) 6 i hi (ih i hi h)
theorem memb_mono {pe : Nat → Int32} {S T : Int32} (h : subI S T) : ∀ k, k ≤ 6 → subI (memb pe S k) (memb pe T k) := by
  intro k
  induction k with
  | zero => intro _; exact subI_rf _
  | succ k ih =>
    intro hk i hi hb
    have hb : bt (memb pe S k ||| (if hasB S (nI k) = true then pe k else 0)) i = true := hb
    show bt (memb pe T k ||| (if hasB T (nI k) = true then pe k else 0)) i = true
    rw [b_or, Bool.or_eq_true] at hb
    rw [b_or, Bool.or_eq_true]
    rcases hb with hb | hb
    · exact Or.inl (ih (by omega) i hi hb)
    · right
      rw [hasB_bt _ (show k < 32 by omega)] at hb ⊢
      by_cases c : bt S k = true
      · rw [if_pos c] at hb
        rw [if_pos (h k (by omega) c)]; exact hb
      · rw [if_neg c, b_0] at hb; cases hb
theorem reach_sub {f : Nat → Int32} (hf : ∀ k, k < 6 → low6 (f k)) {x y : Nat} (hx : x < 6) (hy : y < 6) (hb : bt (f x) y = true) : subI (grnds f ((1 : Int32) <<< (nI y &&& 31)) 6) (grnds f ((1 : Int32) <<< (nI x &&& 31)) 6) := by
  have e := grnds_6 hf hx
  have hfix : gstep f (grnds f ((1 : Int32) <<< (nI x &&& 31)) 6) 6 = grnds f ((1 : Int32) <<< (nI x &&& 31)) 6 := by
    rw [e]; exact e
  have hx1 : bt (grnds f ((1 : Int32) <<< (nI x &&& 31)) 6) x = true := grnds_sub f _ 6 x (by omega) (by rw [b_1shl (by omega) (by omega)]; exact decide_eq_true rfl)
  refine grnds_in (fun k hk hb => fix_closed hfix hk hb) (fun i hi h => ?_) 6
  rw [b_1shl (by omega) hi] at h
  have e2 := of_decide_eq_true h
  rw [e2]
  exact fix_closed hfix hx hx1 y (by omega) hb
theorem nest_in {F : Nat → Nat → Int32} (hf : ∀ k, k < 6 → low6 (F 2 k)) {x y : Nat} (hx : x < 6) (hy : y < 6) (hb : hasB (F 2 x) (nI y) = true) : mMem F y &&& (mMem F x ^^^ (-1)) = 0 := by
  rw [hasB_bt _ (show y < 32 by omega)] at hb
  exact subI_and (memb_mono (reach_sub hf hx hy hb) 6 (Nat.le_refl _))
/-- a group has but later ones in it -/
def upB (f : Nat → Int32) : Prop := ∀ k, k < 6 → ∀ i, i ≤ k → bt (f k) i = false
theorem up_step {f : Nat → Int32} (hf : upB f) {s : Int32} {y : Nat} (hs : ∀ i, i < y → bt s i = false) : ∀ k, k ≤ 6 → ∀ i, i < y → bt (gstep f s k) i = false := by
  intro k
  induction k with
  | zero => intro _; exact hs
  | succ k ih =>
    intro hk i hi
    have ih := ih (by omega)
    show bt (gstep f s k ||| (if hasB (gstep f s k) (nI k) = true then f k else 0)) i = false
    rw [b_or, ih i hi, Bool.false_or, hasB_bt _ (show k < 32 by omega)]
    by_cases c : bt (gstep f s k) k = true
    · rw [if_pos c]
      refine hf k (by omega) i ?_
      rcases Nat.lt_or_ge k y with d | d
      · rw [ih k d] at c; cases c
      · omega
    · rw [if_neg c]; exact b_0 i
theorem up_reach {f : Nat → Int32} (hf : upB f) {x y : Nat} (hxy : x < y) (hy : y < 6) : hasB (cRch f y) (nI x) = false := by
  have hs : ∀ i, i < y → bt ((1 : Int32) <<< (nI y &&& 31)) i = false := fun i hi => by rw [b_1shl (by omega) (by omega), decide_eq_false (by omega)]
  have key : ∀ r, ∀ i, i < y → bt (grnds f ((1 : Int32) <<< (nI y &&& 31)) r) i = false := by
    intro r
    induction r with
    | zero => exact hs
    | succ r ih => exact up_step hf ih 6 (by decide)
  rw [hasB_bt _ (show x < 32 by omega)]
  exact key 5 x hxy
theorem up_nest {f : Nat → Int32} (hf : upB f) {x y : Nat} (hxy : x < y) (hy : y < 6) : upB (upd f x (f x ^^^ ((1 : Int32) <<< (nI y &&& 31)))) := fun k hk i hi => by
  by_cases c : k = x
  · subst c
    rw [pk_us, b_xor, hf k hk i hi, b_1shl (by omega) (by omega), decide_eq_false (by omega)]; rfl
  · rw [pk_un c]; exact hf k hk i hi
/-! behind a pass -/
def kpOK (F : Nat → Nat → Int32) (kp : Nat → Int32) (n : Nat) : Prop := ∀ x, x < n → ∀ p, p < 8 → kp (8 * x + p) = mV F o0 x (mBest F o0 x) p
theorem mMP_at {F : Nat → Nat → Int32} {mp : Nat → Int32} {x p : Nat} (hp : p < 8) : mMP F o0 mp x p = mV F o0 x (mBest F o0 x) p := by
  unfold mMP; rw [fillA_get, if_pos hp]
theorem kpA_lo (F : Nat → Nat → Int32) (mp kp : Nat → Int32) : ∀ k x p, p < 8 → x < k → kpA F o0 mp kp k (8 * x + p) = mV F o0 x (mBest F o0 x) p := by
  intro k
  induction k with
  | zero => intro x p _ h; exact absurd h (Nat.not_lt_zero _)
  | succ k ih =>
    intro x p hp h
    show keepA (kpA F o0 mp kp k) (mMP F o0 mp k) k 8 (8 * x + p) = _
    rw [keepA_get]
    by_cases c : x = k
    · subst c
      rw [if_pos (by omega), Nat.add_sub_cancel_left]; exact mMP_at hp
    · rw [if_neg (by omega)]; exact ih x p hp (by omega)
theorem kpOK_pass (F : Nat → Nat → Int32) (mp kp : Nat → Int32) (n : Nat) : kpOK F (kpA F o0 mp kp n) n := fun x hx p hp => kpA_lo F mp kp n x p hp hx
theorem fr_ok {ik kp MP : Nat → Int32} {x : Nat} (h1 : ik x = 1) (h2 : ∀ p, p < 8 → kp (8 * x + p) = MP p) : ∀ k, k ≤ 8 → frB ik kp MP x k = true := by
  intro k
  induction k with
  | zero => intro _; show toB (ik x) = true; rw [h1]; decide
  | succ k ih =>
    intro hk
    show (frB ik kp MP x k && decide (kp (8 * x + k) = MP k)) = true
    rw [ih (by omega), decide_eq_true (h2 k (by omega))]; rfl
theorem fresh_1 {F : Nat → Nat → Int32} {ik kp mp : Nat → Int32} {n x : Nat} (h1 : ik x = 1) (h2 : kpOK F kp n) (hx : x < n) : frB ik kp (mMP F o0 mp x) x 8 = true := fr_ok h1 (fun p hp => by rw [mMP_at hp]; exact h2 x hx p hp) 8 (Nat.le_refl _)
theorem psN_0 {F : Nat → Nat → Int32} {ik kp mp : Nat → Int32} {n : Nat} (h1 : ∀ x, x < n → ik x = 1) (h2 : kpOK F kp n) : ∀ k, k ≤ n → psN F o0 mp ik kp k = 0 := by
  intro k
  induction k with
  | zero => intro _; rfl
  | succ k ih =>
    intro hk
    show psN F o0 mp ik kp k + (if othB (ikA ik k) (kpA F o0 mp kp k) (mMP F o0 mp k) k 8 = true then 1 else 0) = 0
    have e : othB (ikA ik k) (kpA F o0 mp kp k) (mMP F o0 mp k) k 8 = false := by
      rw [othB_fr, fr_ok (x := k) (by rw [ikA_get, if_neg (Nat.lt_irrefl _)]; exact h1 k (by omega)) (fun p hp => by rw [kpA_hi F o0 mp kp k _ (by omega), mMP_at hp]; exact h2 k (by omega) p hp) 8 (Nat.le_refl _)]; rfl
    rw [ih (by omega), e]; rfl
theorem psN_le (F : Nat → Nat → Int32) (mp ik kp : Nat → Int32) : ∀ k, ∃ m, m ≤ k ∧ psN F o0 mp ik kp k = nI m := by
  intro k
  induction k with
  | zero => exact ⟨0, Nat.le_refl _, rfl⟩
  | succ k ih =>
    obtain ⟨m, h1, h2⟩ := ih
    by_cases c : othB (ikA ik k) (kpA F o0 mp kp k) (mMP F o0 mp k) k 8 = true
    · refine ⟨m + 1, by omega, ?_⟩
      show psN F o0 mp ik kp k + (if _ then _ else _) = _
      rw [if_pos c, h2, nI_1]
    · refine ⟨m, by omega, ?_⟩
      show psN F o0 mp ik kp k + (if _ then _ else _) = _
      rw [if_neg c, h2, i_add0]
theorem now_1 {F : Nat → Nat → Int32} {kp tu : Nat → Int32} {n x p : Nat} (h : ¬ tu x = 0) (h2 : kpOK F kp n) (hx : x < n) (hp : p < 8) : mNow F kp tu p x = mV F o0 x (mBest F o0 x) p := by
  unfold mNow; rw [if_neg h]; exact h2 x hx p hp
theorem gnr_0 {F : Nat → Nat → Int32} {kp tu : Nat → Int32} {n x q : Nat} (h : ¬ tu x = 0) (h2 : kpOK F kp n) (hx : x < n) (hq : F 4 x = nI q) (h8 : q < 8) : ∀ k, k ≤ 8 → gnr F kp tu x k = 0 := by
  intro k
  induction k with
  | zero => intro _; rfl
  | succ k ih =>
    intro hk
    show gnr F kp tu x k ||| (if (mNow F kp tu k x &&& (mRights F k x ^^^ (-1))) = 0 then 0 else (1 : Int32) <<< (nI k &&& 31)) = 0
    rw [ih (by omega), now_1 h h2 hx (by omega), if_pos (mV_0 hq h8 (by omega))]; rfl
