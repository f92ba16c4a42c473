/-! changes of one folder -/
theorem agr_fill (he v : Nat → Int32) : agr8 (fillA he v 8) v := fun p hp => by rw [fillA_get, if_pos hp]
theorem frB_le {ik kp MP : Nat → Int32} {x k : Nat} (h : frB ik kp MP x k = false) : ∀ d, frB ik kp MP x (k + d) = false := by
  intro d
  induction d with
  | zero => exact h
  | succ d ih => show (frB ik kp MP x (k + d) && _) = false; rw [ih, Bool.false_and]
theorem frB_f {ik kp MP : Nat → Int32} {x k : Nat} (h : frB ik kp MP x k = false) (hk : k ≤ 8) : frB ik kp MP x 8 = false := by
  have e := frB_le h (8 - k)
  rwa [show k + (8 - k) = 8 by omega] at e
theorem toB_ne {x : Int32} (h : ¬ x = 0) : toB x = true := by unfold toB; rw [decide_eq_false h]; rfl
theorem Rep.n22 {cI cO : ClassId} {L : List Nat} {f : Nat → va_E} {tg : Nat → Nat} {AD : Nat → Nat → Nat} {mc : Nat → Int32} {F : Nat → Nat → Int32} {ik kp tu : Nat → Int32} {n : Nat} {he gv : Nat → Int32} {gp gb ob nm lo : Int32} (h : Rep cI cO L f tg AD mc F ik kp tu n he gv gp gb ob nm lo) : n ≤ 22 := by
  obtain ⟨m, q, _, h1, h2, _⟩ := h.td
  omega
theorem toB_eq {x : Int32} (h : x = 0) : toB x = false := by unfold toB; rw [decide_eq_true h]; rfl
section FO
variable {D : va_G} {H : Heap} {cI cO : ClassId} {L : List Nat} {f f' : Nat → va_E} {tg : Nat → Nat} {AD : Nat → Nat → Nat} {mc : Nat → Int32} {F F' : Nat → Nat → Int32} {ik kp tu ik' kp' tu' : Nat → Int32} {n : Nat} {he gv : Nat → Int32} {gp gb ob nm lo : Int32}
theorem RpFix.cg (h : RpFix cI L f AD F) (e1 : F' 1 = F 1) (e2 : F' 2 = F 2) : RpFix cI L f AD F' := by
  obtain ⟨h0, h1, h2, h3, ev, h4, h5⟩ := h
  refine ⟨h0, h1, by rw [e1]; exact h2, by rw [e2]; exact h3, ev, h4, fun k hk => ?_⟩
  rw [h5 k hk]; unfold mMem; rw [e1, e2]
theorem RpFold.cg {i : Nat} (h : RpFold cI cO L f tg AD mc F ik kp tu i) (e3 : F' 3 i = F 3 i) (e4 : F' 4 i = F 4 i) (e5 : F' 5 i = F 5 i) (e6 : F' 6 i = F 6 i) (er : ∀ j, j < i2n (F 6 i) → F' 7 (6 * i + j) = F 7 (6 * i + j) ∧ F' 8 (6 * i + j) = F 8 (6 * i + j) ∧ F' 9 (6 * i + j) = F 9 (6 * i + j) ∧ F' 10 (6 * i + j) = F 10 (6 * i + j)) (ei : ik' i = ik i) (ek : ∀ p, p < 8 → kp' (8 * i + p) = kp (8 * i + p)) (et : tu' i = tu i) : RpFold cI cO L f tg AD mc F' ik' kp' tu' i := by
  obtain ⟨a1, ⟨kk, a2, a3⟩, a4, a5, a6⟩ := h
  unfold RpFold
  have ep : parR AD F' i = parR AD F i := by unfold parR; rw [e3]
  rw [ep, e4, e5, e6, ei, et]
  refine ⟨a1, ⟨kk, a2, fun p hp => by rw [ek p hp]; exact a3 p hp⟩, a4, a5, fun j hj => ?_⟩
  obtain ⟨q1, q2, q3, q4⟩ := er j hj
  rw [q1, q2, q3, q4]
  exact a6 j hj
/-- one folder's object is written -/
theorem Rep.st_fo (h : Rep cI cO L f tg AD mc F ik kp tu n he gv gp gb ob nm lo) (hL : L.Nodup) {i : Nat} (hi : i < n) {k : Nat} {e : va_E} (hk : (va_pl L f)[k]? = some (AD 1 i, e))
    (hP : va_P D vwCl ((va_pl L f).set k (AD 1 i, .inr (2, [va_rf (parR AD F i), .ref (AD 2 i), .ref (AD 3 i), .int (F' 4 i), .int (F' 5 i), .int (ik' i), .int (tu' i)]))) H)
    (e1 : F' 1 = F 1) (e2 : F' 2 = F 2) (e3 : F' 3 = F 3) (e6 : F' 6 = F 6) (e7 : F' 7 = F 7) (e8 : F' 8 = F 8) (e9 : F' 9 = F 9) (e10 : F' 10 = F 10) (eo : ∀ j, j ≠ i → F' 4 j = F 4 j ∧ F' 5 j = F 5 j ∧ ik' j = ik j ∧ tu' j = tu j) :
    ∃ f', va_P D vwCl (va_pl L f') H ∧ Rep cI cO L f' tg AD mc F' ik' kp tu' n he gv gp gb ob nm lo := by
  have hn22 := h.n22
  obtain ⟨h1, h2, h3, h4, h5⟩ := id h
  have t1 := (h5.2.2 i hi).1
  have g : agr L tg (fun t => t = 100 + i) f (va_up f (AD 1 i) (.inr (2, [va_rf (parR AD F i), .ref (AD 2 i), .ref (AD 3 i), .int (F' 4 i), .int (F' 5 i), .int (ik' i), .int (tu' i)]))) := up_agr t1
  refine ⟨_, pl_set hL hk hP, (h1.fr h5 g (fun k hk => by omega)).cg e1 e2, h2.fr h5 g (fun k hk hk2 => by omega), h3.fr h5 g (by omega) (by omega), fun j hj => ?_, h5⟩
  by_cases c : j = i
  · subst c
    obtain ⟨a1, ⟨kk, a2, a3⟩, a4, a5, a6⟩ := h4 j hj
    obtain ⟨_, t2, t3⟩ := h5.2.2 j hj
    have ep : parR AD F' j = parR AD F j := by unfold parR; rw [e3]
    unfold RpFold
    rw [ep, e6, e7, e8, e9, e10]
    refine ⟨a1.up, ⟨kk, a2.fr g t3 (by omega), a3⟩, a4.fr g t2 (by omega), ?_, fun m hm => ⟨(a6 m hm).1.fr g rfl (by have := (a6 m hm).2; omega), (a6 m hm).2⟩⟩
    rcases a5 with q | ⟨t4, q, b1, b2⟩
    · exact Or.inl q
    · exact Or.inr ⟨t4, q, b1.fr g t4 (by omega), b2⟩
  · obtain ⟨o1, o2, o3, o4⟩ := eo j c
    refine ((h4 j hj).fr h5 hj g (by omega) (by omega) (by omega) (by omega) (fun k hk => by omega)).cg (by rw [e3]) o1 o2 (by rw [e6]) (fun m hm => by rw [e7, e8, e9, e10]; exact ⟨rfl, rfl, rfl, rfl⟩) o3 (fun p hp => rfl) o4
/-- one folder's kept rights are written -/
theorem Rep.st_ke (h : Rep cI cO L f tg AD mc F ik kp tu n he gv gp gb ob nm lo) (hL : L.Nodup) {i : Nat} (hi : i < n) {k : Nat} {e : va_E} {X : Nat → Int32} (hk : (va_pl L f)[k]? = some (AD 3 i, e))
    (hP : va_P D vwCl ((va_pl L f).set k (AD 3 i, .inl (cI, 8, .inl X))) H) (ei : ∀ p, p < 8 → X p = kp' (8 * i + p)) (eo : ∀ j, j ≠ i → ∀ p, p < 8 → kp' (8 * j + p) = kp (8 * j + p)) :
    ∃ f', va_P D vwCl (va_pl L f') H ∧ Rep cI cO L f' tg AD mc F ik kp' tu n he gv gp gb ob nm lo := by
  have hn22 := h.n22
  obtain ⟨h1, h2, h3, h4, h5⟩ := id h
  have t3 := (h5.2.2 i hi).2.2
  have g : agr L tg (fun t => t = 300 + i) f (va_up f (AD 3 i) (.inl (cI, 8, .inl X))) := up_agr t3
  refine ⟨_, pl_set hL hk hP, h1.fr h5 g (fun k hk => by omega), h2.fr h5 g (fun k hk hk2 => by omega), h3.fr h5 g (by omega) (by omega), fun j hj => ?_, h5⟩
  by_cases c : j = i
  · subst c
    obtain ⟨a1, ⟨kk, a2, a3⟩, a4, a5, a6⟩ := h4 j hj
    obtain ⟨t1, t2, _⟩ := h5.2.2 j hj
    refine ⟨a1.fr g t1 (by omega), ⟨X, a2.up, ei⟩, a4.fr g t2 (by omega), ?_, fun m hm => ⟨(a6 m hm).1.fr g rfl (by have := (a6 m hm).2; omega), (a6 m hm).2⟩⟩
    rcases a5 with q | ⟨t4, q, b1, b2⟩
    · exact Or.inl q
    · exact Or.inr ⟨t4, q, b1.fr g t4 (by omega), b2⟩
  · exact ((h4 j hj).fr h5 hj g (by omega) (by omega) (by omega) (by omega) (fun k hk => by omega)).cg rfl rfl rfl rfl (fun m hm => ⟨rfl, rfl, rfl, rfl⟩) rfl (eo j c) rfl
theorem Rep.st_hk (h : Rep cI cO L f tg AD mc F ik kp tu n he gv gp gb ob nm lo) (hL : L.Nodup) {i : Nat} (hi : i < n) {k : Nat} {e : va_E} {v : Int32} (hk : (va_pl L f)[k]? = some (AD 1 i, e)) (hP : va_P D vwCl ((va_pl L f).set k (AD 1 i, .inr (2, [va_rf (parR AD F i), .ref (AD 2 i), .ref (AD 3 i), .int (F 4 i), .int (F 5 i), .int v, .int (tu i)]))) H) : ∃ f', va_P D vwCl (va_pl L f') H ∧ Rep cI cO L f' tg AD mc F (upd ik i v) kp tu n he gv gp gb ob nm lo :=
  h.st_fo (F' := F) (ik' := upd ik i v) (tu' := tu) hL hi hk (by rw [pk_us]; exact hP) rfl rfl rfl rfl rfl rfl rfl rfl (fun j hj => ⟨rfl, rfl, pk_un hj, rfl⟩)
theorem Rep.st_sw (h : Rep cI cO L f tg AD mc F ik kp tu n he gv gp gb ob nm lo) (hL : L.Nodup) {i : Nat} (hi : i < n) {k : Nat} {e : va_E} {v : Int32} (hk : (va_pl L f)[k]? = some (AD 1 i, e)) (hP : va_P D vwCl ((va_pl L f).set k (AD 1 i, .inr (2, [va_rf (parR AD F i), .ref (AD 2 i), .ref (AD 3 i), .int (F 4 i), .int (F 5 i), .int (ik i), .int v]))) H) : ∃ f', va_P D vwCl (va_pl L f') H ∧ Rep cI cO L f' tg AD mc F ik kp (upd tu i v) n he gv gp gb ob nm lo :=
  h.st_fo (F' := F) (ik' := ik) (tu' := upd tu i v) hL hi hk (by rw [pk_us]; exact hP) rfl rfl rfl rfl rfl rfl rfl rfl (fun j hj => ⟨rfl, rfl, rfl, pk_un hj⟩)
theorem Rep.st_ow (h : Rep cI cO L f tg AD mc F ik kp tu n he gv gp gb ob nm lo) (hL : L.Nodup) {i : Nat} (hi : i < n) {k : Nat} {e : va_E} {v : Int32} (hk : (va_pl L f)[k]? = some (AD 1 i, e)) (hP : va_P D vwCl ((va_pl L f).set k (AD 1 i, .inr (2, [va_rf (parR AD F i), .ref (AD 2 i), .ref (AD 3 i), .int v, .int (F 5 i), .int (ik i), .int (tu i)]))) H) : ∃ f', va_P D vwCl (va_pl L f') H ∧ Rep cI cO L f' tg AD mc (va_up F 4 (upd (F 4) i v)) ik kp tu n he gv gp gb ob nm lo :=
  h.st_fo (F' := va_up F 4 (upd (F 4) i v)) (ik' := ik) (tu' := tu) hL hi hk (by
    have e : va_up F 4 (upd (F 4) i v) 4 i = v := by rw [va_up_self, pk_us]
    rw [e]; exact hP) rfl rfl rfl rfl rfl rfl rfl rfl (fun j hj => ⟨by rw [va_up_self]; exact pk_un hj, rfl, rfl, rfl⟩)
theorem Rep.st_in (h : Rep cI cO L f tg AD mc F ik kp tu n he gv gp gb ob nm lo) (hL : L.Nodup) {i : Nat} (hi : i < n) {k : Nat} {e : va_E} {v : Int32} (hk : (va_pl L f)[k]? = some (AD 1 i, e)) (hP : va_P D vwCl ((va_pl L f).set k (AD 1 i, .inr (2, [va_rf (parR AD F i), .ref (AD 2 i), .ref (AD 3 i), .int (F 4 i), .int v, .int (ik i), .int (tu i)]))) H) : ∃ f', va_P D vwCl (va_pl L f') H ∧ Rep cI cO L f' tg AD mc (va_up F 5 (upd (F 5) i v)) ik kp tu n he gv gp gb ob nm lo :=
  h.st_fo (F' := va_up F 5 (upd (F 5) i v)) (ik' := ik) (tu' := tu) hL hi hk (by
    have e : va_up F 5 (upd (F 5) i v) 5 i = v := by rw [va_up_self, pk_us]
    rw [e]; exact hP) rfl rfl rfl rfl rfl rfl rfl rfl (fun j hj => ⟨rfl, by rw [va_up_self]; exact pk_un hj, rfl, rfl⟩)
theorem keepA_get (kp MP : Nat → Int32) (y : Nat) : ∀ (k j : Nat), keepA kp MP y k j = if 8 * y ≤ j ∧ j < 8 * y + k then MP (j - 8 * y) else kp j := by
  intro k
  induction k with
  | zero => intro j; rw [if_neg (by omega)]; rfl
  | succ k ih =>
    intro j
    show upd (keepA kp MP y k) (8 * y + k) (MP k) j = _
    by_cases h : j = 8 * y + k
    · subst h; rw [pk_us, if_pos (by omega), Nat.add_sub_cancel_left]
    · rw [pk_un h, ih]
      by_cases h2 : 8 * y ≤ j ∧ j < 8 * y + k
      · rw [if_pos h2, if_pos (by omega)]
      · rw [if_neg h2, if_neg (by omega)]
theorem Rep.st_cpy (h : Rep cI cO L f tg AD mc F ik kp tu n he gv gp gb ob nm lo) (hL : L.Nodup) {i : Nat} (hi : i < n) {k : Nat} {e : va_E} {kk : Nat → Int32} (hk : (va_pl L f)[k]? = some (AD 3 i, e)) (hP : va_P D vwCl ((va_pl L f).set k (AD 3 i, .inl (cI, 8, .inl (va_cpy gv kk 0 0 8)))) H) : ∃ f', va_P D vwCl (va_pl L f') H ∧ Rep cI cO L f' tg AD mc F ik (keepA kp gv i 8) tu n he gv gp gb ob nm lo :=
  h.st_ke (kp' := keepA kp gv i 8) hL hi hk hP (fun p hp => by
    rw [keepA_get, if_pos (by omega), pk_cpy_in (by omega) (by omega), Nat.add_sub_cancel_left, Nat.sub_zero, Nat.zero_add]) (fun j hj p hp => by rw [keepA_get, if_neg (by omega)])
end FO
