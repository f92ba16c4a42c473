/-! the pool grows -/
section EX
variable {D : va_G} {H : Heap} {cI cO : ClassId} {L L' : List Nat} {f f' : Nat → va_E} {tg tg' : Nat → Nat} {AD : Nat → Nat → Nat} {mc : Nat → Int32} {F : Nat → Nat → Int32} {ik kp tu : Nat → Int32} {n : Nat} {he gv : Nat → Int32} {gp gb ob nm lo : Int32} {A : Nat → Prop}
def extL (L L' : List Nat) (f f' : Nat → va_E) (tg tg' : Nat → Nat) : Prop := ∀ a, a ∈ L → a ∈ L' ∧ f' a = f a ∧ tg' a = tg a
theorem Hs.ext {a : Nat} {e : va_E} (h : Hs L f a e) (g : extL L L' f f' tg tg') : Hs L' f' a e := ⟨(g a h.1).1, by rw [(g a h.1).2.1]; exact h.2⟩
theorem Hs.tge {a : Nat} {e : va_E} (h : Hs L f a e) (g : extL L L' f f' tg tg') : tg' a = tg a := (g a h.1).2.2
theorem RpFix.ext (h : RpFix cI L f AD F) (g : extL L L' f f' tg tg') : RpFix cI L' f' AD F := by
  obtain ⟨h0, h1, h2, h3, ev, h4, h5⟩ := h
  exact ⟨h0.ext g, h1.ext g, h2.ext g, h3.ext g, ev, h4.ext g, h5⟩
theorem RpMap.ext (h : RpMap cI L f AD he gv gp gb ob nm lo) (g : extL L L' f f' tg tg') : RpMap cI L' f' AD he gv gp gb ob nm lo := ⟨h.1.ext g, h.2.1.ext g, h.2.2.ext g⟩
theorem RpTree.ext (h : RpTree cO L f AD mc n) (g : extL L L' f f' tg tg') : RpTree cO L' f' AD mc n := by
  obtain ⟨h0, m, q, h1, h2⟩ := h
  exact ⟨h0.ext g, m, q, h1.ext g, h2⟩
theorem RpFold.ext {i : Nat} (h : RpFold cI cO L f tg AD mc F ik kp tu i) (g : extL L L' f f' tg tg') : RpFold cI cO L' f' tg' AD mc F ik kp tu i := by
  obtain ⟨a1, ⟨kk, a2, a3⟩, a4, a5, a6⟩ := h
  refine ⟨a1.ext g, ⟨kk, a2.ext g, a3⟩, a4.ext g, ?_, fun j hj => ⟨(a6 j hj).1.ext g, by rw [(a6 j hj).1.tge g]; exact (a6 j hj).2⟩⟩
  rcases a5 with e | ⟨t4, q, b1, b2⟩
  · exact Or.inl e
  · exact Or.inr ⟨by rw [b1.tge g]; exact t4, q, b1.ext g, b2⟩
theorem Rep.ext (h : Rep cI cO L f tg AD mc F ik kp tu n he gv gp gb ob nm lo) (g : extL L L' f f' tg tg') : Rep cI cO L' f' tg' AD mc F ik kp tu n he gv gp gb ob nm lo := by
  obtain ⟨ev, h04, _⟩ := h.ev
  obtain ⟨m, q, h60, _⟩ := h.td
  have t := h.2.2.2.2
  refine ⟨h.1.ext g, h.2.1.ext g, h.2.2.1.ext g, fun i hi => (h.2.2.2.1 i hi).ext g, ⟨fun k hk => ?_, by rw [h60.tge g]; exact t.2.1, fun i hi => ?_⟩⟩
  · refine Eq.trans (b := tg (AD 0 k)) ?_ (t.1 k hk)
    rcases (show k = 0 ∨ k = 1 ∨ k = 2 ∨ k = 3 ∨ k = 4 ∨ k = 5 ∨ k = 6 ∨ k = 7 ∨ k = 8 by omega) with rfl | rfl | rfl | rfl | rfl | rfl | rfl | rfl | rfl
    · exact h.x.tge g
    · exact h.g.tge g
    · exact h.1.2.2.1.tge g
    · exact h.1.2.2.2.1.tge g
    · exact h04.tge g
    · exact h.mo.tge g
    · exact h.mh.tge g
    · exact h.mg.tge g
    · exact h.t.tge g
  · obtain ⟨t1, t2, t3⟩ := t.2.2 i hi
    obtain ⟨kk, h3, _⟩ := h.ke hi
    exact ⟨by rw [(h.fo hi).tge g]; exact t1, by rw [(h.ro hi).tge g]; exact t2, by rw [h3.tge g]; exact t3⟩
theorem extL.push {b t : Nat} {e : va_E} (hb : b ∉ L) : extL L (L ++ [b]) f (va_up f b e) tg (va_up tg b t) := fun a ha =>
  ⟨List.mem_append_left _ ha, va_up_ne f e (fun h => hb (by rw [← h]; exact ha)), va_up_ne tg t (fun h => hb (by rw [← h]; exact ha))⟩
theorem push_nodup {b : Nat} (hL : L.Nodup) (hb : b ∉ L) : (L ++ [b]).Nodup := by
  rw [List.nodup_append]
  exact ⟨hL, List.nodup_cons.mpr ⟨List.not_mem_nil, List.nodup_nil⟩, fun x hx y hy e => by
    rw [List.mem_singleton] at hy
    subst hy; subst e; exact hb hx⟩
/-- a new cell comes into the pool -/
theorem pl_new {b t : Nat} {e : va_E} (hL : L.Nodup) (hA : ∀ a, a ∈ L → A a) (hP : va_P D vwCl (va_pl L f ++ [(b, e)]) H) (hD : va_D A (va_pl L f ++ [(b, e)])) :
    b ∉ L ∧ (L ++ [b]).Nodup ∧ (∀ a, a ∈ L ++ [b] → A a) ∧ va_P D vwCl (va_pl (L ++ [b]) (va_up f b e)) H ∧ Hs (L ++ [b]) (va_up f b e) b e ∧ extL L (L ++ [b]) f (va_up f b e) tg (va_up tg b t) ∧ va_up tg b t b = t := by
  have hb : b ∉ L := va_pl_fresh2 (X := []) hD
  have hAb : A b := hD.2 L.length (b, e) (by
    have hlen : (va_pl L f).length = L.length := by unfold va_pl; rw [List.length_map]
    rw [List.getElem?_append_right (by omega), hlen, Nat.sub_self]; rfl)
  refine ⟨hb, push_nodup hL hb, fun a ha => ?_, by rw [← va_pl_push hb]; exact hP, ⟨List.mem_append_right _ List.mem_cons_self, va_up_self _ _ _⟩, extL.push hb, va_up_self _ _ _⟩
  rcases List.mem_append.mp ha with h | h
  · exact hA a h
  · rw [List.mem_singleton] at h
    subst h; exact hAb
end EX
/-- the class's results don't hang on what its scratch rows held -/
theorem mMP_any (F : Nat → Nat → Int32) (ow mp gv : Nat → Int32) (x : Nat) : ∀ p, p < 8 → mMP F ow mp x p = mMP F o0 gv x p := fun p hp => by
  unfold mMP
  rw [fillA_get, fillA_get, if_pos hp, if_pos hp, mBest_any (ow := ow)]
  exact mV_any _ p hp
theorem keepA_cg {kp MP MP' : Nat → Int32} (x : Nat) (h : ∀ p, p < 8 → MP p = MP' p) : keepA kp MP x 8 = keepA kp MP' x 8 := by
  funext j
  rw [keepA_get, keepA_get]
  by_cases c : 8 * x ≤ j ∧ j < 8 * x + 8
  · rw [if_pos c, if_pos c]; exact h _ (by omega)
  · rw [if_neg c, if_neg c]
theorem kpA_any (F : Nat → Nat → Int32) (ow mp gv kp : Nat → Int32) : ∀ k, kpA F ow mp kp k = kpA F o0 gv kp k := by
  intro k
  induction k with
  | zero => rfl
  | succ k ih =>
    show keepA (kpA F ow mp kp k) (mMP F ow mp k) k 8 = keepA (kpA F o0 gv kp k) (mMP F o0 gv k) k 8
    rw [ih]
    exact keepA_cg k (mMP_any F ow mp gv k)
theorem frB_cg {ik kp MP MP' : Nat → Int32} {x : Nat} (h : ∀ p, p < 8 → MP p = MP' p) : ∀ k, k ≤ 8 → frB ik kp MP x k = frB ik kp MP' x k := by
  intro k
  induction k with
  | zero => intro _; rfl
  | succ k ih =>
    intro hk
    show (frB ik kp MP x k && decide (kp (8 * x + k) = MP k)) = (frB ik kp MP' x k && decide (kp (8 * x + k) = MP' k))
    rw [ih (by omega), h k (by omega)]
theorem psN_any (F : Nat → Nat → Int32) (ow mp gv ik kp : Nat → Int32) : ∀ k, psN F ow mp ik kp k = psN F o0 gv ik kp k := by
  intro k
  induction k with
  | zero => rfl
  | succ k ih =>
    show psN F ow mp ik kp k + (if othB (ikA ik k) (kpA F ow mp kp k) (mMP F ow mp k) k 8 = true then 1 else 0) = psN F o0 gv ik kp k + (if othB (ikA ik k) (kpA F o0 gv kp k) (mMP F o0 gv k) k 8 = true then 1 else 0)
    rw [ih, othB_fr, othB_fr, kpA_any F ow mp gv kp k, frB_cg (mMP_any F ow mp gv k) 8 (Nat.le_refl _)]
theorem fresh_any (F : Nat → Nat → Int32) (ow mp gv ik kp : Nat → Int32) (x : Nat) : frB ik kp (mMP F ow mp x) x 8 = frB ik kp (mMP F o0 gv x) x 8 := frB_cg (mMP_any F ow mp gv x) 8 (Nat.le_refl _)
