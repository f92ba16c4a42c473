/-! behind the adding of an entry: the class's pool -/
def PX (D : va_G) (cI cO : ClassId) (A : Nat → Prop) (a0 e0 : Nat) (F : Nat → Nat → Int32) (ik kp tu : Nat → Int32) (n : Nat) (he gv : Nat → Int32) (gp gb ob nm lo : Int32) (t : State) : Prop :=
  ∃ (L : List Nat) (tg : Nat → Nat) (AD : Nat → Nat → Nat) (mc : Nat → Int32), L.Nodup ∧ (∀ a, a ∈ L → A a) ∧ AD 0 0 = a0 ∧ AD 7 0 = e0 ∧ PB D cI cO L tg AD mc F ik kp tu n he gv gp gb ob nm lo t
section FI
variable {D : va_G} {H H1 : Heap} {cI cO : ClassId} {L : List Nat} {f : Nat → va_E} {tg : Nat → Nat} {AD : Nat → Nat → Nat} {mc : Nat → Int32} {F F' : Nat → Nat → Int32} {ik kp tu : Nat → Int32} {n : Nat} {he gv : Nat → Int32} {gp gb ob nm lo : Int32} {A : Nat → Prop} {x b len : Nat}
/-- a pool of which two cells were written, the second one maybe new -/
theorem pl_two {a1 a2 : Nat} {x1 x2 : va_E} (hP : va_P D vwCl (va_pl L f) H) (hk : ∀ q : Nat, q ∈ L → q ≠ a1 → q ≠ a2 → H1[q]? = H[q]?) (h1 : va_at D vwCl (a1, x1) H1) (h2 : va_at D vwCl (a2, x2) H1) (L' : List Nat) (hL' : ∀ q, q ∈ L' → q ∈ L ∨ q = a2) : va_P D vwCl (va_pl L' (va_up (va_up f a2 x2) a1 x1)) H1 := by
  intro j q hj
  have hm := List.mem_of_getElem? hj
  obtain ⟨z, hz, ez⟩ := List.mem_map.mp hm
  subst ez
  by_cases c1 : z = a1
  · subst c1; rw [va_up_self]; exact h1
  · rw [va_up_ne _ _ c1]
    by_cases c2 : z = a2
    · subst c2; rw [va_up_self]; exact h2
    · rw [va_up_ne _ _ c2]
      have hzL : z ∈ L := (hL' z hz).resolve_right c2
      obtain ⟨kk, hkk⟩ := List.getElem?_of_mem (show (z, f z) ∈ va_pl L f from List.mem_map.mpr ⟨z, hzL, rfl⟩)
      exact (hP kk _ hkk).kept (hk z hzL c1 c2)
theorem Rep.fin_C {c9 : Nat} (h : Rep cI cO L f tg AD mc F ik kp tu n he gv gp gb ob nm lo) (hM : okC F n) (hx : x < n) (hlen : i2n (F 6 x) = 0) (hL : L.Nodup) (hA : ∀ a, a ∈ L → A a) (hA9 : A c9) (hP : va_P D vwCl (va_pl L f) H) (hk : ∀ q : Nat, q < H.size → ¬ alZ (AD 2 x) H.size q → H1[q]? = H[q]?)
    (hP1 : va_P D vwCl (l2W cO (AD 2 x) c9 10 (va_up (fun _ => none) 0 (some b)) (mc (x + 1) + 1) c9 (nI (0 + 1))) H1) (hc : H.size ≤ c9)
    (hb : Hs L f b (.inr (1, [.int (F' 7 (6 * x + 0)), .int (F' 8 (6 * x + 0)), .int (F' 9 (6 * x + 0)), .int (F' 10 (6 * x + 0))]))) (tb : 1000 ≤ tg b)
    (e1 : F' 1 = F 1) (e2 : F' 2 = F 2) (e3 : F' 3 = F 3) (e4 : F' 4 = F 4) (e5 : F' 5 = F 5) (e6 : F' 6 = upd (F 6) x (nI (0 + 1))) (eo : ∀ j, j ≠ 6 * x + 0 → F' 7 j = F 7 j ∧ F' 8 j = F 8 j ∧ F' 9 j = F 9 j ∧ F' 10 j = F 10 j) :
    ∃ (L' : List Nat) (f' : Nat → va_E) (tg' : Nat → Nat), L'.Nodup ∧ (∀ a, a ∈ L' → A a) ∧ va_P D vwCl (va_pl L' f') H1 ∧ Rep cI cO L' f' tg' (adA AD x 0 b c9) (upd mc (x + 1) (mc (x + 1) + 1)) F' ik kp tu n he gv gp gb ob nm lo := by
  have hn22 := h.n22
  have t2 := (h.2.2.2.2.2.2 x hx).2.1
  have hlt : ∀ a, a ∈ L → a < H.size := fun a ha => va_pl_lt (X := []) hP ha
  have hc9 : c9 ∉ L := fun hh => by have := hlt c9 hh; omega
  have hro := h.ro hx
  have n29 : AD 2 x ≠ c9 := fun e => hc9 (by rw [← e]; exact hro.1)
  have b9 : b ≠ c9 := fun e => hc9 (by rw [← e]; exact hb.1)
  have b2 : b ≠ AD 2 x := fun e => by rw [e, t2] at tb; omega
  have g : extT L (L ++ [c9]) f (va_up (va_up f c9 (refs cO 10 (va_up (fun _ => none) 0 (some b)))) (AD 2 x) (.inr (0, [.int (mc (x + 1) + 1), .ref c9, .int (nI (0 + 1))]))) tg (va_up tg c9 (400 + x)) (fun t => t = 200 + x ∨ t = 400 + x) := by
    intro a ha hT
    have n2 : a ≠ AD 2 x := fun e => hT (Or.inl (by rw [e]; exact t2))
    have n9 : a ≠ c9 := fun e => hc9 (by rw [← e]; exact ha)
    exact ⟨List.mem_append_left _ ha, by rw [va_up_ne _ _ n2, va_up_ne _ _ n9], va_up_ne _ _ n9⟩
  refine ⟨L ++ [c9], _, va_up tg c9 (400 + x), push_nodup hL hc9, fun a ha => ?_, pl_two hP (fun q hq h1 h2 => hk q (hlt q hq) (fun hh => hh.elim h1 (fun hh => by have := hlt q hq; omega))) (hP1 0 _ rfl) (hP1 1 _ rfl) _ (fun q hq => ?_),
    h.addE hM hx hlen (by decide) g ⟨List.mem_append_left _ hro.1, va_up_self _ _ _⟩ (by rw [va_up_ne _ _ n29]; exact t2) ⟨List.mem_append_right _ List.mem_cons_self, by rw [va_up_ne _ _ (fun e => n29 e.symm)]; exact va_up_self _ _ _⟩ (va_up_self _ _ _) (fun j hj => absurd hj (Nat.not_lt_zero _)) (va_up_self _ _ _)
      ⟨List.mem_append_left _ hb.1, by rw [va_up_ne _ _ b2, va_up_ne _ _ b9]; exact hb.2⟩ (by rw [va_up_ne _ _ b9]; exact tb) e1 e2 e3 e4 e5 e6 eo⟩
  · rcases List.mem_append.mp ha with hh | hh
    · exact hA a hh
    · rw [List.mem_singleton] at hh
      subst hh; exact hA9
  · rcases List.mem_append.mp hq with hh | hh
    · exact Or.inl hh
    · exact Or.inr (List.mem_singleton.mp hh)
theorem Rep.fin_A {qd : Nat → Option Nat} (h : Rep cI cO L f tg AD mc F ik kp tu n he gv gp gb ob nm lo) (hM : okC F n) (hx : x < n) (hlen : i2n (F 6 x) = len) (hl6 : len < 6) (t4 : tg (AD 4 x) = 400 + x) (hq1 : Hs L f (AD 4 x) (refs cO 10 qd)) (hq2 : ∀ j, j < len → qd j = some (AD 5 (6 * x + j))) (hP : va_P D vwCl (va_pl L f) H) (hk : ∀ q : Nat, q < H.size → ¬ alA AD x q → H1[q]? = H[q]?)
    (hP1 : va_P D vwCl (alW cO (fun z => AD (2 + 2 * z) x) 10 (va_up qd len (some b)) (mc (x + 1) + 1) (nI (len + 1))) H1)
    (hb : Hs L f b (.inr (1, [.int (F' 7 (6 * x + len)), .int (F' 8 (6 * x + len)), .int (F' 9 (6 * x + len)), .int (F' 10 (6 * x + len))]))) (tb : 1000 ≤ tg b)
    (e1 : F' 1 = F 1) (e2 : F' 2 = F 2) (e3 : F' 3 = F 3) (e4 : F' 4 = F 4) (e5 : F' 5 = F 5) (e6 : F' 6 = upd (F 6) x (nI (len + 1))) (eo : ∀ j, j ≠ 6 * x + len → F' 7 j = F 7 j ∧ F' 8 j = F 8 j ∧ F' 9 j = F 9 j ∧ F' 10 j = F 10 j) :
    ∃ f' : Nat → va_E, va_P D vwCl (va_pl L f') H1 ∧ Rep cI cO L f' tg (adA AD x len b (AD 4 x)) (upd mc (x + 1) (mc (x + 1) + 1)) F' ik kp tu n he gv gp gb ob nm lo := by
  have hn22 := h.n22
  have t2 := (h.2.2.2.2.2.2 x hx).2.1
  have hlt : ∀ a, a ∈ L → a < H.size := fun a ha => va_pl_lt (X := []) hP ha
  have hro := h.ro hx
  have n24 : AD 4 x ≠ AD 2 x := tg_ne t4 t2 (by omega)
  have b2 : b ≠ AD 2 x := fun e => by rw [e, t2] at tb; omega
  have b4 : b ≠ AD 4 x := fun e => by rw [e, t4] at tb; omega
  have g : extT L L f (va_up (va_up f (AD 4 x) (refs cO 10 (va_up qd len (some b)))) (AD 2 x) (.inr (0, [.int (mc (x + 1) + 1), .ref (AD 4 x), .int (nI (len + 1))]))) tg tg (fun t => t = 200 + x ∨ t = 400 + x) := by
    intro a ha hT
    have n2 : a ≠ AD 2 x := fun e => hT (Or.inl (by rw [e]; exact t2))
    have n4 : a ≠ AD 4 x := fun e => hT (Or.inr (by rw [e]; exact t4))
    exact ⟨ha, by rw [va_up_ne _ _ n2, va_up_ne _ _ n4], rfl⟩
  exact ⟨_, pl_two hP (fun q hq h1 h2 => hk q (hlt q hq) (fun hh => hh.elim h1 h2)) (hP1 0 _ rfl) (hP1 1 _ rfl) L (fun q hq => Or.inl hq),
    h.addE hM hx hlen hl6 g ⟨hro.1, va_up_self _ _ _⟩ t2 ⟨hq1.1, by rw [va_up_ne _ _ n24]; exact va_up_self _ _ _⟩ t4 (fun j hj => by rw [va_up_ne _ _ (by omega)]; exact hq2 j hj) (va_up_self _ _ _)
      ⟨hb.1, by rw [va_up_ne _ _ b2, va_up_ne _ _ b4]; exact hb.2⟩ tb e1 e2 e3 e4 e5 e6 eo⟩
end FI
