/-! the class's groups are the model's -/
theorem othB_fr (ik kp MP : Nat → Int32) (y : Nat) : ∀ j, othB ik kp MP y j = !frB ik kp MP y j := by
  intro j
  induction j with
  | zero => rfl
  | succ j ih =>
    show (othB ik kp MP y j || !decide (keepA kp MP y j (8 * y + j) = MP j)) = !(frB ik kp MP y j && decide (kp (8 * y + j) = MP j))
    rw [ih, keepA_get, if_neg (by omega), Bool.not_and]
theorem grp_bit (x : Int32) {y : Nat} (hy : y < 32) (b : Bool) : (if b2i (hasB x (nI y)) = b2i b then x else x ^^^ ((1 : Int32) <<< (nI y &&& 31))) = if b = true then x ||| ((1 : Int32) <<< (nI y &&& 31)) else x &&& (((1 : Int32) <<< (nI y &&& 31)) ^^^ (-1)) := by
  rw [hasB_bt x hy]
  apply b_ext
  intro k hk
  have hS := b_1shl hy hk
  generalize (1 : Int32) <<< (nI y &&& 31) = S at hS ⊢
  by_cases c : k = y
  · subst c
    cases hb : bt x k <;> cases b <;> simp [b2i, b_or, b_and, b_xor, b_xm1 _ hk, b_not _ hk, hS, hb]
  · cases hb : bt x y <;> cases b <;> simp [b2i, b_or, b_and, b_xor, b_xm1 _ hk, b_not _ hk, hS, c]
theorem upd_if {c : Prop} [Decidable c] (f : Nat → Int32) (x : Nat) (v : Int32) : (if c then f else upd f x v) = upd f x (if c then f x else v) := by
  split
  · funext j
    by_cases h : j = x
    · subst h; rw [pk_us]
    · rw [pk_un h]
  · rfl
theorem grp_set (f : Nat → Int32) (x : Nat) {y : Nat} (hy : y < 32) (b : Bool) : (if b2i (hasB (f x) (nI y)) = b2i b then f else upd f x (f x ^^^ ((1 : Int32) <<< (nI y &&& 31)))) = upd f x (if b = true then f x ||| ((1 : Int32) <<< (nI y &&& 31)) else f x &&& (((1 : Int32) <<< (nI y &&& 31)) ^^^ (-1))) := by
  rw [upd_if, grp_bit (f x) hy b]
theorem ev_new {F : Nat → Nat → Int32} (hlw : ∀ k, k < 6 → low6 (F 2 k)) (ev : Nat → Int32) : ∀ k, k < 6 → evA (F 1) (F 2) ev k = mMem F k := fun k hk => by
  show fillA ev (cMem (F 1) (F 2)) 6 k = _
  rw [fillA_get, if_pos hk, cMem_is hlw hk]
theorem ev_if {c : Prop} [Decidable c] {F F' : Nat → Nat → Int32} {ev pe : Nat → Int32} (e1 : (if c then F 1 else pe) = F' 1) (e2 : F 2 = F' 2) (hlw : ∀ k, k < 6 → low6 (F 2 k)) (hev : ∀ k, k < 6 → ev k = mMem F k) : ∀ k, k < 6 → (if c then ev else evA pe (F 2) ev) k = mMem F' k := fun k hk => by
  by_cases h : c
  · rw [if_pos h] at e1 ⊢
    rw [hev k hk]; unfold mMem; rw [e1, e2]
  · rw [if_neg h] at e1 ⊢
    rw [e1, e2]
    exact ev_new (by rw [← e2]; exact hlw) ev k hk
theorem low_nest {f : Nat → Int32} (hlw : ∀ k, k < 6 → low6 (f k)) (x : Nat) {y : Nat} (hy : y < 6) : ∀ k, k < 6 → low6 (upd f x (f x ^^^ ((1 : Int32) <<< (nI y &&& 31))) k) := fun k hk => by
  by_cases h : k = x
  · subst h; rw [pk_us]
    intro j h1 h2
    rw [b_xor, hlw k hk j h1 h2, b_1shl (by omega) h2, decide_eq_false (by omega)]; rfl
  · rw [pk_un h]; exact hlw k hk
def grA (AD : Nat → Nat → Nat) : Nat → Prop := fun q => q = AD 0 1 ∨ q = AD 0 2 ∨ q = AD 0 3 ∨ q = AD 0 4
section GC
variable {D : va_G} {cI cO : ClassId} {L : List Nat} {f : Nat → va_E} {tg : Nat → Nat} {AD : Nat → Nat → Nat} {mc : Nat → Int32} {F F' : Nat → Nat → Int32} {ik kp tu : Nat → Int32} {n : Nat} {he gv : Nat → Int32} {gp gb ob nm lo : Int32} {A : Nat → Prop} {H H1 : Heap}
theorem Rep.grAp (h : Rep cI cO L f tg AD mc F ik kp tu n he gv gp gb ob nm lo) : apD 4 (grA AD) (fun k => AD 0 (k + 1)) := by
  have t := h.2.2.2.2.1
  refine ⟨fun u v hu hv e => ?_, fun v hv => ?_⟩
  · have a := t (u + 1) (by omega)
    have b := t (v + 1) (by omega)
    have e' : AD 0 (u + 1) = AD 0 (v + 1) := e
    rw [e', b] at a; omega
  · rcases (show v = 0 ∨ v = 1 ∨ v = 2 ∨ v = 3 by omega) with rfl | rfl | rfl | rfl
    · exact Or.inl rfl
    · exact Or.inr (Or.inl rfl)
    · exact Or.inr (Or.inr (Or.inl rfl))
    · exact Or.inr (Or.inr (Or.inr rfl))
theorem Rep.grSub (h : Rep cI cO L f tg AD mc F ik kp tu n he gv gp gb ob nm lo) (hA : ∀ a, a ∈ L → A a) {q : Nat} (hq : grA AD q) : A q := by
  obtain ⟨ev, h4, _⟩ := h.ev
  rcases hq with rfl | rfl | rfl | rfl
  · exact hA _ h.g.1
  · exact hA _ h.1.2.2.1.1
  · exact hA _ h.1.2.2.2.1.1
  · exact hA _ h4.1
/-- behind a method of the groups -/
theorem Rep.call_gr {pe inn ev : Nat → Int32} (h : Rep cI cO L f tg AD mc F ik kp tu n he gv gp gb ob nm lo) (hP : va_P D vwCl (va_pl L f) H) (hk : ∀ q : Nat, q < H.size → ¬ grA AD q → H1[q]? = H[q]?) (hP1 : va_P D vwCl (grW cI (fun k => AD 0 (k + 1)) pe inn ev) H1)
    (e1 : pe = F' 1) (e2 : inn = F' 2) (eo : ∀ k, 3 ≤ k → F' k = F k) (hev : ∀ k, k < 6 → ev k = mMem F' k) : ∃ f', va_P D vwCl (va_pl L f') H1 ∧ Rep cI cO L f' tg AD mc F' ik kp tu n he gv gp gb ob nm lo := by
  subst e1; subst e2
  have hn22 := h.n22
  have t := h.2.2.2.2.1
  obtain ⟨ev0, h04, _⟩ := h.ev
  have n12 := tg_ne (t 1 (by decide)) (t 2 (by decide)) (by decide)
  have n13 := tg_ne (t 1 (by decide)) (t 3 (by decide)) (by decide)
  have n14 := tg_ne (t 1 (by decide)) (t 4 (by decide)) (by decide)
  have n23 := tg_ne (t 2 (by decide)) (t 3 (by decide)) (by decide)
  have n24 := tg_ne (t 2 (by decide)) (t 4 (by decide)) (by decide)
  have n34 := tg_ne (t 3 (by decide)) (t 4 (by decide)) (by decide)
  have g : agr L tg (fun t => t = 1 ∨ t = 2 ∨ t = 3 ∨ t = 4) f (va_up (va_up (va_up (va_up f (AD 0 4) (.inl (cI, 6, .inl ev))) (AD 0 3) (.inl (cI, 6, .inl (F' 2)))) (AD 0 2) (.inl (cI, 6, .inl (F' 1)))) (AD 0 1) (.inr (3, [.ref (AD 0 2), .ref (AD 0 3), .ref (AD 0 4)]))) := by
    intro b hb hT
    have h1 : b ≠ AD 0 1 := fun e => hT (Or.inl (by rw [e]; exact t 1 (by decide)))
    have h2 : b ≠ AD 0 2 := fun e => hT (Or.inr (Or.inl (by rw [e]; exact t 2 (by decide))))
    have h3 : b ≠ AD 0 3 := fun e => hT (Or.inr (Or.inr (Or.inl (by rw [e]; exact t 3 (by decide)))))
    have h4 : b ≠ AD 0 4 := fun e => hT (Or.inr (Or.inr (Or.inr (by rw [e]; exact t 4 (by decide)))))
    rw [va_up_ne _ _ h1, va_up_ne _ _ h2, va_up_ne _ _ h3, va_up_ne _ _ h4]
  refine ⟨_, ?_, ⟨h.x.fr g (t 0 (by decide)) (by omega), (((h.g.upn n14).upn n13).upn n12).up, ((h.1.2.2.1.upn n24).upn n23).up.upn n12.symm, ((h.1.2.2.2.1.upn n34).up.upn n23.symm).upn n13.symm, ev, ((h04.up.upn n34.symm).upn n24.symm).upn n14.symm, hev⟩,
    h.2.1.fr h.2.2.2.2 g (fun k h1 h2 => by omega), h.2.2.1.fr h.2.2.2.2 g (by omega) (by omega),
    fun j hj => ((h.2.2.2.1 j hj).fr h.2.2.2.2 hj g (by omega) (by omega) (by omega) (by omega) (fun k hk => by omega)).cg (by rw [eo 3 (by decide)]) (by rw [eo 4 (by decide)]) (by rw [eo 5 (by decide)]) (by rw [eo 6 (by decide)]) (fun m hm => by rw [eo 7 (by decide), eo 8 (by decide), eo 9 (by decide), eo 10 (by decide)]; exact ⟨rfl, rfl, rfl, rfl⟩) rfl (fun p hp => rfl) rfl, h.2.2.2.2⟩
  intro j q hj
  have hm := List.mem_of_getElem? hj
  obtain ⟨b, hb, eb⟩ := List.mem_map.mp hm
  subst eb
  by_cases c1 : b = AD 0 1
  · subst c1; rw [va_up_self]; exact hP1 0 _ rfl
  · rw [va_up_ne _ _ c1]
    by_cases c2 : b = AD 0 2
    · subst c2; rw [va_up_self]; exact hP1 1 _ rfl
    · rw [va_up_ne _ _ c2]
      by_cases c3 : b = AD 0 3
      · subst c3; rw [va_up_self]; exact hP1 2 _ rfl
      · rw [va_up_ne _ _ c3]
        by_cases c4 : b = AD 0 4
        · subst c4; rw [va_up_self]; exact hP1 3 _ rfl
        · rw [va_up_ne _ _ c4]
          obtain ⟨k, hkk⟩ := List.getElem?_of_mem (show (b, f b) ∈ va_pl L f from List.mem_map.mpr ⟨b, hb, rfl⟩)
          have hat := hP k _ hkk
          exact hat.kept (hk b (va_at.lt hat) (fun hh => hh.elim c1 (fun h => h.elim c2 (fun h => h.elim c3 c4))))
end GC
