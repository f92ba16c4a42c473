/-! what holds at each call of the law -/
def okR (F : Nat → Nat → Int32) (n : Nat) : Prop := ∀ f k, f < n → k < i2n (F 6 f) → ∃ r, 1 ≤ r ∧ r < 8 ∧ F 9 (6 * f + k) = nI r
def okQ (F : Nat → Nat → Int32) (n : Nat) : Prop := ∀ f, f < n → i2n (F 6 f) ≤ 5
def okL (F : Nat → Nat → Int32) (ik kp tu : Nat → Int32) (n : Nat) : Prop := okS F ik kp tu n ∧ upB (F 2) ∧ okR F n ∧ okQ F n
abbrev fAll (F : Nat → Nat → Int32) (x w : Nat) (b : Bool) (r sc : Int32) : Nat → Nat → Int32 := va_up (va_up (va_up (va_up (va_up F 6 (upd (F 6) x (nI (i2n (F 6 x) + 1)))) 7 (upd (F 7) (6 * x + i2n (F 6 x)) (nI w))) 8 (upd (F 8) (6 * x + i2n (F 6 x)) (b2i b))) 9 (upd (F 9) (6 * x + i2n (F 6 x)) r)) 10 (upd (F 10) (6 * x + i2n (F 6 x)) sc)
abbrev fDrp (F : Nat → Nat → Int32) (x y : Nat) : Nat → Nat → Int32 := va_up (va_up (va_up (va_up (va_up F 6 (upd (F 6) x (nI (i2n (F 6 x) - 1)))) 7 (shl (F 7) (6 * x + y) (i2n (F 6 x) - 1 - y))) 8 (shl (F 8) (6 * x + y) (i2n (F 6 x) - 1 - y))) 9 (shl (F 9) (6 * x + y) (i2n (F 6 x) - 1 - y))) 10 (shl (F 10) (6 * x + y) (i2n (F 6 x) - 1 - y))
section KL
variable {F : Nat → Nat → Int32} {ik kp tu : Nat → Int32} {n x y w r : Nat} {b : Bool} {sc : Int32}
theorem okR.all (h : okR F n) (hM : okC F n) (hx : x < n) (h6 : i2n (F 6 x) < 6) (hr : 1 ≤ r ∧ r < 8) : okR (fAll F x w b (nI r) sc) n := by
  intro f k hf hk
  have hk : k < i2n (upd (F 6) x (nI (i2n (F 6 x) + 1)) f) := hk
  have hl := (okM.len hM hf).2
  show ∃ r', 1 ≤ r' ∧ r' < 8 ∧ upd (F 9) (6 * x + i2n (F 6 x)) (nI r) (6 * f + k) = nI r'
  by_cases c : f = x
  · subst c
    rw [pk_us, i2n_nI (by omega)] at hk
    by_cases d : k = i2n (F 6 f)
    · exact ⟨r, hr.1, hr.2, by rw [d, pk_us]⟩
    · rw [pk_un (by omega)]; exact h f k hf (by omega)
  · rw [pk_un c] at hk
    rw [pk_un (by omega)]; exact h f k hf hk
theorem okQ.all (h : okQ F n) (h6 : i2n (F 6 x) + 1 ≤ 5) {q : Int32} : okQ (fAll F x w b q sc) n := by
  intro f hf
  show i2n (upd (F 6) x (nI (i2n (F 6 x) + 1)) f) ≤ 5
  by_cases c : f = x
  · rw [c, pk_us, i2n_nI (by omega)]; exact h6
  · rw [pk_un c]; exact h f hf
theorem okR.drp (h : okR F n) (hM : okC F n) (hx : x < n) (hy : y < i2n (F 6 x)) : okR (fDrp F x y) n := by
  intro f k hf hk
  have hk : k < i2n (upd (F 6) x (nI (i2n (F 6 x) - 1)) f) := hk
  have hl := (okM.len hM hf).2
  have hlx := (okM.len hM hx).2
  show ∃ r', 1 ≤ r' ∧ r' < 8 ∧ shl (F 9) (6 * x + y) (i2n (F 6 x) - 1 - y) (6 * f + k) = nI r'
  rw [shl_get]
  by_cases c : f = x
  · subst c
    rw [pk_us, i2n_nI (by omega)] at hk
    by_cases d : y ≤ k
    · rw [if_pos (by omega)]; exact h f (k + 1) hf (by omega)
    · rw [if_neg (by omega)]; exact h f k hf (by omega)
  · rw [pk_un c] at hk
    rw [if_neg (by omega)]; exact h f k hf hk
/-- an entry is added to a row, another one taken out -/
theorem okQ.two (h : okQ F n) (h6 : i2n (F 6 x) + 1 = 6) {q : Int32} : okQ (fDrp (fAll F x w b q sc) x y) n := by
  intro f hf
  show i2n (upd (upd (F 6) x (nI (i2n (F 6 x) + 1))) x (nI (i2n (upd (F 6) x (nI (i2n (F 6 x) + 1)) x) - 1)) f) ≤ 5
  by_cases c : f = x
  · rw [c, pk_us, pk_us, h6]; decide +kernel
  · rw [pk_un c, pk_un c]; exact h f hf
theorem all_len (h6 : i2n (F 6 x) < 6) {q : Int32} : i2n (fAll F x w b q sc 6 x) = i2n (F 6 x) + 1 := by
  show i2n (upd (F 6) x (nI (i2n (F 6 x) + 1)) x) = _
  rw [pk_us, i2n_nI (by omega)]
theorem okL.set1 (h : okL F ik kp tu n) (Y : Nat → Int32) : okL (va_up F 1 Y) ik kp tu n := h
theorem okL.nest (h : okL F ik kp tu n) (hxy : x < y) (hy : y < 6) : okL (va_up F 2 (upd (F 2) x (F 2 x ^^^ ((1 : Int32) <<< (nI y &&& 31))))) ik kp tu n := ⟨h.1.set2 (low_nest h.1.2.2.2.1 x hy), up_nest h.2.1 hxy hy, h.2.2⟩
theorem okL.set4 (h : okL F ik kp tu n) (hy : y < 8) : okL (va_up F 4 (upd (F 4) x (nI y))) ik kp tu n := ⟨h.1.set4 hy, h.2⟩
theorem okL.set5 (h : okL F ik kp tu n) (b : Bool) : okL (va_up F 5 (upd (F 5) x (b2i b))) ik kp tu n := ⟨h.1.set5 b, h.2⟩
theorem okL.settu (h : okL F ik kp tu n) (hx : x < n) (b : Bool) : okL F ik kp (upd tu x (b2i b)) n := ⟨h.1.settu hx b, h.2⟩
theorem okL.pass (h : okL F ik kp tu n) (ow mp : Nat → Int32) : okL F (ikA ik n) (kpA F ow mp kp n) tu n := ⟨h.1.pass ow mp, h.2⟩
theorem okL.add (h : okL F ik kp tu n) (hx : x < n) (hy : y < 8) (hn : n < 20) : okL (va_up (va_up (va_up F 3 (upd (F 3) n (nI x))) 4 (upd (F 4) n (nI y))) 5 (upd (F 5) n 1)) ik kp tu (n + 1) := by
  have z0 : i2n (F 6 n) = 0 := by rw [(h.1.2.2.2.2 n (Nat.le_refl _)).1]; rfl
  refine ⟨h.1.add hx hy hn, h.2.1, fun f k hf hk => ?_, fun f hf => ?_⟩
  · have hk : k < i2n (F 6 f) := hk
    by_cases c : f = n
    · rw [c, z0] at hk; exact absurd hk (Nat.not_lt_zero _)
    · exact h.2.2.1 f k (by omega) hk
  · show i2n (F 6 f) ≤ 5
    by_cases c : f = n
    · rw [c, z0]; exact Nat.zero_le _
    · exact h.2.2.2 f (by omega)
theorem in17 (hr : 1 ≤ r ∧ r < 8) : inB (nI r) 1 7 = true := by
  have h1 : (1 : Int32) ≤ nI r := nI_le (a := 1) hr.1 (by omega)
  have h2 : nI r ≤ (7 : Int32) := nI_le (b := 7) (by omega) (by decide)
  unfold inB
  rw [decide_eq_true h1, decide_eq_true h2]; rfl
theorem okL.all (h : okL F ik kp tu n) (hx : x < n) (hw : w < 14) (hr : 1 ≤ r ∧ r < 8) (h5 : i2n (F 6 x) + 1 ≤ 5) : okL (fAll F x w b (nI r) sc) ik kp tu n := ⟨h.1.allow hx hw (in17 hr) (by omega), h.2.1, h.2.2.1.all h.1.1 hx (by omega) hr, h.2.2.2.all h5⟩
theorem okS.all (h : okS F ik kp tu n) (hx : x < n) (hw : w < 14) (hr : 1 ≤ r ∧ r < 8) (h5 : i2n (F 6 x) < 6) : okS (fAll F x w b (nI r) sc) ik kp tu n := h.allow hx hw (in17 hr) h5
theorem okL.two (h : okL F ik kp tu n) (hx : x < n) (hw : w < 14) (hr : 1 ≤ r ∧ r < 8) (h6 : i2n (F 6 x) + 1 = 6) (hy : y < 6) : okL (fDrp (fAll F x w b (nI r) sc) x y) ik kp tu n := by
  have h1 : okS (fAll F x w b (nI r) sc) ik kp tu n := h.1.all hx hw hr (by omega)
  have h2 : y < i2n (fAll F x w b (nI r) sc 6 x) := by rw [all_len (by omega)]; omega
  exact ⟨h1.drop hx h2, h.2.1, (h.2.2.1.all h.1.1 hx (by omega) hr).drp h1.1 hx h2, h.2.2.2.two h6⟩
/-- the rights of an entry that is taken out -/
theorem drp_pos (h : okL F ik kp tu n) (hx : x < n) (hr : 1 ≤ r ∧ r < 8) (h6 : i2n (F 6 x) + 1 = 6) (hy : y < 6) : ¬ fAll F x w b (nI r) sc 9 (6 * x + y) ≤ 0 := by
  obtain ⟨q, h1, h2, e⟩ := (h.2.2.1.all (w := w) (b := b) (sc := sc) h.1.1 hx (by omega) hr) x y hx (by rw [all_len (by omega)]; omega)
  rw [e]; exact nI_nle (by omega) (by omega)
theorem mem_again (hy : y < 8) : hasB ((va_up F 1 (upd (F 1) x (if b = true then F 1 x ||| ((1 : Int32) <<< (nI y &&& 31)) else F 1 x &&& (((1 : Int32) <<< (nI y &&& 31)) ^^^ (-1))))) 1 x) (nI y) = b := by
  show hasB (upd (F 1) x (if b = true then F 1 x ||| ((1 : Int32) <<< (nI y &&& 31)) else F 1 x &&& (((1 : Int32) <<< (nI y &&& 31)) ^^^ (-1))) x) (nI y) = b
  have h32 : y < 32 := by omega
  have hS := b_1shl h32 h32
  rw [decide_eq_true rfl] at hS
  generalize (1 : Int32) <<< (nI y &&& 31) = S at hS ⊢
  rw [pk_us, hasB_bt _ h32]
  cases b with
  | true => rw [if_pos rfl, b_or, hS, Bool.or_true]
  | false => rw [if_neg (by decide), b_and, b_xm1 _ h32, hS, Bool.not_true, Bool.and_false]
theorem inh_again : toB ((va_up F 5 (upd (F 5) x (b2i b))) 5 x) = b := by
  show toB (upd (F 5) x (b2i b) x) = b
  rw [pk_us, toB_b2i]
theorem own_again : (va_up F 4 (upd (F 4) x (nI y))) 4 x = nI y := by
  show upd (F 4) x (nI y) x = nI y
  exact pk_us
theorem rights_7 (h : F 4 x = nI y) : mRights F y x = 7 := if_pos h
theorem own_no (h : okS F ik kp tu n) (hx : x < n) : ¬ F 4 x < 0 := by
  obtain ⟨h1, h2⟩ := okM.own h.1 hx
  rw [h1]; exact nI_pos (by omega)
theorem nest_bit (hxy : ¬ b2i (hasB (F 2 x ^^^ ((1 : Int32) <<< (nI y &&& 31))) (nI y)) = 0) (hlw : ∀ k, k < 6 → low6 (F 2 k)) (hx : x < 6) (hy : y < 6) : mMem (va_up F 2 (upd (F 2) x (F 2 x ^^^ ((1 : Int32) <<< (nI y &&& 31))))) y &&& (mMem (va_up F 2 (upd (F 2) x (F 2 x ^^^ ((1 : Int32) <<< (nI y &&& 31))))) x ^^^ (-1)) = 0 := by
  refine nest_in (F := va_up F 2 (upd (F 2) x (F 2 x ^^^ ((1 : Int32) <<< (nI y &&& 31))))) (low_nest hlw x hy) hx hy ?_
  show hasB (upd (F 2) x (F 2 x ^^^ ((1 : Int32) <<< (nI y &&& 31))) x) (nI y) = true
  rw [pk_us]; exact b2i_1 hxy
theorem grp_arg {k : Nat} (h : k < 7) : nI k - nI 1 = -1 ∨ ∃ j, j < 6 ∧ nI k - nI 1 = nI j := by
  rcases Nat.eq_zero_or_pos k with e | e
  · left; rw [e]; decide
  · exact Or.inr ⟨k - 1, by omega, pk_sub e⟩
end KL
/-! rows of the law's walks -/
section LR
variable {p : Program} {l : Launch} {e : Env} {R : Room} {s : State} {m : MethodId} {args : Array Value} {below : List Frame} {meth : Method} {c : Code} {H : Heap} {locs : List Loc} {cells slots : Nat} {Q : State → Prop}
variable {cc : ByteArray} {pc : Nat} {ls : Array Slot} {rest : List Value}
theorem idiv_n {x y : Nat} (h1 : x < 2 ^ 31) (h2 : 0 < y) (h3 : y < 2 ^ 31) (hx : p.tables.exec = Jvm.exec) (hb : c.code = cc) (hdg : decode cc pc = .ok (.idiv, 1)) (k : W p l e R s m args below meth c H locs cells slots Q (F0 m (pc + 1) ls (.int (nI (x / y)) :: rest))) : W p l e R s m args below meth c H locs cells slots Q (F0 m pc ls (.int (nI y) :: .int (nI x) :: rest)) := by
  refine lv_idiv hx hb hdg (nI_ne0 h2 h3) ?_
  rw [pk_div h1 h2 h3]; exact k
theorem irem_n {x y : Nat} (h1 : x < 2 ^ 31) (h2 : 0 < y) (h3 : y < 2 ^ 31) (hx : p.tables.exec = Jvm.exec) (hb : c.code = cc) (hdg : decode cc pc = .ok (.irem, 1)) (k : W p l e R s m args below meth c H locs cells slots Q (F0 m (pc + 1) ls (.int (nI (x % y)) :: rest))) : W p l e R s m args below meth c H locs cells slots Q (F0 m pc ls (.int (nI y) :: .int (nI x) :: rest)) := by
  refine lv_irem hx hb hdg (nI_ne0 h2 h3) ?_
  rw [pk_rem h1 h2 h3]; exact k
end LR
