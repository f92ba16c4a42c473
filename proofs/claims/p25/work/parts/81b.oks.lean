/-! what holds of the numbers -/
theorem inB_of {x a b : Int32} (h1 : ¬ x < a) (h2 : ¬ b < x) : inB x a b = true := by
  unfold inB
  rw [decide_eq_true (Int32.not_lt.mp h1), decide_eq_true (Int32.not_lt.mp h2)]; rfl
def okZ (F : Nat → Nat → Int32) (ik kp tu : Nat → Int32) (n : Nat) : Prop := ∀ j, n ≤ j → F 6 j = 0 ∧ ik j = 0 ∧ tu j = 0 ∧ ∀ p, p < 8 → kp (8 * j + p) = 0
def okS (F : Nat → Nat → Int32) (ik kp tu : Nat → Int32) (n : Nat) : Prop := okC F n ∧ okE F n ∧ okB F ik tu ∧ (∀ k, k < 6 → low6 (F 2 k)) ∧ okZ F ik kp tu n
theorem met_w {l : Launch} {y : MethodName} {ws : List Cond} {rm : Room} {Pc Pc' : Array Value → State → Prop} {Qc Qc' : Array Value → State → Outcome → State → Prop} {mc ms : Nat} {free free' : Addr → Prop} (hM : Met l y ws rm Pc Qc mc ms free) (h : ∀ a U, Pc' a U → Pc a U) (h2 : ∀ a st o t, Pc' a st → Qc a st o t → Qc' a st o t) (h3 : ∀ q, free q → free' q) : Met l y ws rm Pc' Qc' mc ms free' := by
  intro p e ha hc hk s m args below hf happ hp ht
  obtain ⟨k, o, g1, g2, g3, g4, L, g5, g6⟩ := hM p e ha hc hk s m args below hf happ (h _ _ hp) ht
  exact ⟨k, o, g1, g2, g3, h2 _ _ _ _ hp g4, L, g5, fun q hq => h3 _ (g6 q hq)⟩
section OK
variable {F : Nat → Nat → Int32} {ik kp tu : Nat → Int32} {n x y : Nat}
theorem okS.set1 (h : okS F ik kp tu n) (Y : Nat → Int32) : okS (va_up F 1 Y) ik kp tu n := h
theorem okS.set2 (h : okS F ik kp tu n) {Y : Nat → Int32} (hl : ∀ k, k < 6 → low6 (Y k)) : okS (va_up F 2 Y) ik kp tu n := ⟨h.1, h.2.1, h.2.2.1, hl, h.2.2.2.2⟩
theorem okS.set4 (h : okS F ik kp tu n) (hy : y < 8) : okS (va_up F 4 (upd (F 4) x (nI y))) ik kp tu n := by
  refine ⟨⟨h.1.1, h.1.2.1, h.1.2.2.1, fun f hf => ?_, h.1.2.2.2.2.1, h.1.2.2.2.2.2⟩, h.2.1, h.2.2.1, h.2.2.2.1, h.2.2.2.2⟩
  show ∃ k, k < 8 ∧ upd (F 4) x (nI y) f = nI k
  by_cases c : f = x
  · exact ⟨y, hy, by rw [c, pk_us]⟩
  · rw [pk_un c]; exact h.1.2.2.2.1 f hf
theorem upd_bool {f : Nat → Int32} (h : ∀ k, ∃ b : Bool, f k = b2i b) (x : Nat) (b : Bool) : ∀ k, ∃ c : Bool, upd f x (b2i b) k = b2i c := fun k => by
  by_cases c : k = x
  · exact ⟨b, by rw [c, pk_us]⟩
  · rw [pk_un c]; exact h k
theorem okS.set5 (h : okS F ik kp tu n) (b : Bool) : okS (va_up F 5 (upd (F 5) x (b2i b))) ik kp tu n :=
  ⟨h.1, h.2.1, ⟨upd_bool h.2.2.1.1 x b, h.2.2.1.2.1, h.2.2.1.2.2.1, h.2.2.1.2.2.2⟩, h.2.2.2.1, h.2.2.2.2⟩
theorem okS.settu (h : okS F ik kp tu n) (hx : x < n) (b : Bool) : okS F ik kp (upd tu x (b2i b)) n :=
  ⟨h.1, h.2.1, ⟨h.2.2.1.1, h.2.2.1.2.1, h.2.2.1.2.2.1, upd_bool h.2.2.1.2.2.2 x b⟩, h.2.2.2.1, fun j hj => by
    obtain ⟨a1, a2, a3, a4⟩ := h.2.2.2.2 j hj
    exact ⟨a1, a2, by rw [pk_un (by omega)]; exact a3, a4⟩⟩
theorem r8_of {r : Int32} (h : inB r 1 7 = true) : ∃ k, k < 8 ∧ r = nI k := by
  have h0 : inB r 0 7 = true := inB_of (fun c => inB_lo h (Int32.lt_trans c (by decide))) (inB_hi h)
  obtain ⟨k, hk, e⟩ := inB_ex (N := 7) (by decide) h0
  exact ⟨k, by omega, e⟩
theorem okS.allow (h : okS F ik kp tu n) {w : Nat} {b : Bool} {r sc : Int32} (hx : x < n) (hw : w < 14) (hr : inB r 1 7 = true) (hl : i2n (F 6 x) < 6) : okS (va_up (va_up (va_up (va_up (va_up F 6 (upd (F 6) x (nI (i2n (F 6 x) + 1)))) 7 (upd (F 7) (6 * x + i2n (F 6 x)) (nI w))) 8 (upd (F 8) (6 * x + i2n (F 6 x)) (b2i b))) 9 (upd (F 9) (6 * x + i2n (F 6 x)) r)) 10 (upd (F 10) (6 * x + i2n (F 6 x)) sc)) ik kp tu n := by
  have hn := h.1.2.1.2
  generalize hK : i2n (F 6 x) = K at hl ⊢
  have key : ∀ f k, f < n → k < i2n (upd (F 6) x (nI (K + 1)) f) → (f = x ∧ k = K) ∨ (k < i2n (F 6 f) ∧ 6 * f + k ≠ 6 * x + K) := by
    intro f k hf hk
    by_cases c : f = x
    · subst c
      rw [pk_us, i2n_nI (by omega)] at hk
      by_cases d : k = K
      · exact Or.inl ⟨rfl, d⟩
      · exact Or.inr ⟨by omega, by omega⟩
    · rw [pk_un c] at hk
      have := (okM.len h.1 hf).2
      exact Or.inr ⟨hk, by omega⟩
  refine ⟨⟨rfl, h.1.2.1, fun f hf => ?_, h.1.2.2.2.1, h.1.2.2.2.2.1, fun f k hf hk => ?_⟩, fun f k hf hk => ?_, ⟨h.2.2.1.1, upd_bool h.2.2.1.2.1 _ b, h.2.2.1.2.2⟩, h.2.2.2.1, fun j hj => ?_⟩
  · show ∃ k, k ≤ 6 ∧ upd (F 6) x (nI (K + 1)) f = nI k
    by_cases c : f = x
    · exact ⟨K + 1, by omega, by rw [c, pk_us]⟩
    · rw [pk_un c]; exact h.1.2.2.1 f hf
  · show ∃ w', w' < 14 ∧ upd (F 7) (6 * x + K) (nI w) (6 * f + k) = nI w'
    rcases key f k hf hk with ⟨c, d⟩ | ⟨c, d⟩
    · exact ⟨w, hw, by rw [c, d, pk_us]⟩
    · rw [pk_un d]; exact h.1.2.2.2.2.2 f k hf c
  · show ∃ r', r' < 8 ∧ upd (F 9) (6 * x + K) r (6 * f + k) = nI r'
    rcases key f k hf hk with ⟨c, d⟩ | ⟨c, d⟩
    · obtain ⟨r', h1, h2⟩ := r8_of hr
      exact ⟨r', h1, by rw [c, d, pk_us]; exact h2⟩
    · rw [pk_un d]; exact h.2.1 f k hf c
  · obtain ⟨a1, a2, a3, a4⟩ := h.2.2.2.2 j hj
    exact ⟨(pk_un (show j ≠ x by omega)).trans a1, a2, a3, a4⟩
theorem okS.drop (h : okS F ik kp tu n) (hx : x < n) (hy : y < i2n (F 6 x)) : okS (va_up (va_up (va_up (va_up (va_up F 6 (upd (F 6) x (nI (i2n (F 6 x) - 1)))) 7 (shl (F 7) (6 * x + y) (i2n (F 6 x) - 1 - y))) 8 (shl (F 8) (6 * x + y) (i2n (F 6 x) - 1 - y))) 9 (shl (F 9) (6 * x + y) (i2n (F 6 x) - 1 - y))) 10 (shl (F 10) (6 * x + y) (i2n (F 6 x) - 1 - y))) ik kp tu n := by
  have hn := h.1.2.1.2
  have hl := (okM.len h.1 hx).2
  generalize hK : i2n (F 6 x) = K at hy hl ⊢
  have key : ∀ f k, f < n → k < i2n (upd (F 6) x (nI (K - 1)) f) → ∃ k', k' < i2n (F 6 f) ∧ ∀ c : Nat, shl (F c) (6 * x + y) (K - 1 - y) (6 * f + k) = F c (6 * f + k') := by
    intro f k hf hk
    by_cases c : f = x
    · subst c
      rw [pk_us, i2n_nI (by omega)] at hk
      by_cases d : y ≤ k
      · exact ⟨k + 1, by omega, fun c => by rw [shl_get, if_pos (by omega)]; rfl⟩
      · exact ⟨k, by omega, fun c => by rw [shl_get, if_neg (by omega)]⟩
    · rw [pk_un c] at hk
      have := (okM.len h.1 hf).2
      exact ⟨k, hk, fun c => by rw [shl_get, if_neg (by omega)]⟩
  refine ⟨⟨rfl, h.1.2.1, fun f hf => ?_, h.1.2.2.2.1, h.1.2.2.2.2.1, fun f k hf hk => ?_⟩, fun f k hf hk => ?_, ⟨h.2.2.1.1, fun k => shl_bool h.2.2.1.2.1 _ _ k, h.2.2.1.2.2⟩, h.2.2.2.1, fun j hj => ?_⟩
  · show ∃ k, k ≤ 6 ∧ upd (F 6) x (nI (K - 1)) f = nI k
    by_cases c : f = x
    · exact ⟨K - 1, by omega, by rw [c, pk_us]⟩
    · rw [pk_un c]; exact h.1.2.2.1 f hf
  · show ∃ w', w' < 14 ∧ shl (F 7) (6 * x + y) (K - 1 - y) (6 * f + k) = nI w'
    obtain ⟨k', h1, h2⟩ := key f k hf hk
    rw [h2 7]; exact h.1.2.2.2.2.2 f k' hf h1
  · show ∃ r', r' < 8 ∧ shl (F 9) (6 * x + y) (K - 1 - y) (6 * f + k) = nI r'
    obtain ⟨k', h1, h2⟩ := key f k hf hk
    rw [h2 9]; exact h.2.1 f k' hf h1
  · obtain ⟨a1, a2, a3, a4⟩ := h.2.2.2.2 j hj
    exact ⟨(pk_un (show j ≠ x by omega)).trans a1, a2, a3, a4⟩
theorem okS.add (h : okS F ik kp tu n) (hx : x < n) (hy : y < 8) (hn : n < 20) : okS (va_up (va_up (va_up F 3 (upd (F 3) n (nI x))) 4 (upd (F 4) n (nI y))) 5 (upd (F 5) n 1)) ik kp tu (n + 1) := by
  have h1 := h.1.2.1
  have hz := (h.2.2.2.2 n (Nat.le_refl _)).1
  have z0 : i2n (F 6 n) = 0 := by rw [hz]; rfl
  refine ⟨⟨rfl, ⟨by omega, by omega⟩, fun f hf => ?_, fun f hf => ?_, fun f hf => ?_, fun f k hf hk => ?_⟩, fun f k hf hk => ?_, ⟨upd_bool h.2.2.1.1 n true, h.2.2.1.2⟩, h.2.2.2.1, fun j hj => h.2.2.2.2 j (by omega)⟩
  · show ∃ k, k ≤ 6 ∧ F 6 f = nI k
    by_cases c : f = n
    · exact ⟨0, by omega, by rw [c, hz]; rfl⟩
    · exact h.1.2.2.1 f (by omega)
  · show ∃ k, k < 8 ∧ upd (F 4) n (nI y) f = nI k
    by_cases c : f = n
    · exact ⟨y, hy, by rw [c, pk_us]⟩
    · rw [pk_un c]; exact h.1.2.2.2.1 f (by omega)
  · show upd (F 3) n (nI x) f = -1 ∨ ∃ k, k < f ∧ upd (F 3) n (nI x) f = nI k
    by_cases c : f = n
    · exact Or.inr ⟨x, by omega, by rw [c, pk_us]⟩
    · rw [pk_un c]; exact h.1.2.2.2.2.1 f (by omega)
  · have hk' : k < i2n (F 6 f) := hk
    by_cases c : f = n
    · rw [c, z0] at hk'; exact absurd hk' (Nat.not_lt_zero _)
    · exact h.1.2.2.2.2.2 f k (by omega) hk'
  · have hk' : k < i2n (F 6 f) := hk
    by_cases c : f = n
    · rw [c, z0] at hk'; exact absurd hk' (Nat.not_lt_zero _)
    · exact h.2.1 f k (by omega) hk'
theorem ikA_get (ik : Nat → Int32) : ∀ k j, ikA ik k j = if j < k then 1 else ik j := by
  intro k
  induction k with
  | zero => intro j; rw [if_neg (Nat.not_lt_zero _)]; rfl
  | succ k ih =>
    intro j
    show upd (ikA ik k) k 1 j = _
    by_cases c : j = k
    · rw [c, pk_us, if_pos (Nat.lt_succ_self _)]
    · rw [pk_un c, ih]
      by_cases d : j < k
      · rw [if_pos d, if_pos (by omega)]
      · rw [if_neg d, if_neg (by omega)]
theorem kpA_hi (F : Nat → Nat → Int32) (ow mp kp : Nat → Int32) : ∀ k j, 8 * k ≤ j → kpA F ow mp kp k j = kp j := by
  intro k
  induction k with
  | zero => intro j _; rfl
  | succ k ih =>
    intro j hj
    show keepA (kpA F ow mp kp k) (mMP F ow mp k) k 8 j = kp j
    rw [keepA_get, if_neg (by omega)]
    exact ih j (by omega)
theorem okS.pass (h : okS F ik kp tu n) (ow mp : Nat → Int32) : okS F (ikA ik n) (kpA F ow mp kp n) tu n := by
  refine ⟨h.1, h.2.1, ⟨h.2.2.1.1, h.2.2.1.2.1, fun k => ?_, h.2.2.1.2.2.2⟩, h.2.2.2.1, fun j hj => ?_⟩
  · rw [ikA_get]
    split
    · exact ⟨true, rfl⟩
    · exact h.2.2.1.2.2.1 k
  · obtain ⟨a1, a2, a3, a4⟩ := h.2.2.2.2 j hj
    exact ⟨a1, by rw [ikA_get, if_neg (by omega)]; exact a2, a3, fun p hp => by rw [kpA_hi F ow mp kp n _ (by omega)]; exact a4 p hp⟩
end OK
