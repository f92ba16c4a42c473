/-! the class's rights are the model's -/
theorem va_P_in {D : va_G} {cl : List vw_C} {ws ws' : va_W} {H : Heap} (h : va_P D cl ws H) (hs : ∀ q ∈ ws', q ∈ ws) : va_P D cl ws' H := fun k q hk => by
  obtain ⟨j, hj⟩ := List.getElem?_of_mem (hs q (List.mem_of_getElem? hk))
  exact h j q hj
theorem Hs.mem {L : List Nat} {f : Nat → va_E} {a : Nat} {e : va_E} (h : Hs L f a e) : (a, e) ∈ va_pl L f := by
  obtain ⟨h1, h2⟩ := h
  exact List.mem_map.mpr ⟨a, h1, by rw [h2]⟩
theorem rp_gr {D : va_G} {cI cO : ClassId} {L : List Nat} {f : Nat → va_E} {tg : Nat → Nat} {AD : Nat → Nat → Nat} {mc : Nat → Int32} {F : Nat → Nat → Int32} {ik kp tu : Nat → Int32} {n : Nat} {he gv : Nat → Int32} {gp gb ob nm lo : Int32} {H : Heap} (h : Rep cI cO L f tg AD mc F ik kp tu n he gv gp gb ob nm lo) (hP : va_P D vwCl (va_pl L f) H) : ∃ ev : Nat → Int32, va_P D vwCl (grW cI (fun k => AD 0 (k + 1)) (F 1) (F 2) ev) H ∧ ∀ k, k < 6 → ev k = mMem F k := by
  obtain ⟨ev, h4, hev⟩ := h.ev
  refine ⟨ev, va_P_in hP ?_, hev⟩
  intro q hq
  simp only [List.mem_cons, List.not_mem_nil, or_false] at hq
  rcases hq with rfl | rfl | rfl | rfl
  · exact h.g.mem
  · exact h.1.2.2.1.mem
  · exact h.1.2.2.2.1.mem
  · exact h4.mem
theorem who6 {x : Int32} (hw : ∃ w, w < 14 ∧ x = nI w) : i2n x - 8 < 6 := by
  obtain ⟨w, h, rfl⟩ := hw
  rw [i2n_nI (by omega)]; omega
def upR (AD : Nat → Nat → Nat) (F : Nat → Nat → Int32) (x : Nat) : Option Nat := if F 5 x = 0 then none else parR AD F x
def okE (F : Nat → Nat → Int32) (n : Nat) : Prop := ∀ f k, f < n → k < i2n (F 6 f) → ∃ r, r < 8 ∧ F 9 (6 * f + k) = nI r
abbrev okC (F : Nat → Nat → Int32) (n : Nat) : Prop := okM F (fun _ => nI n) n
theorem i_not (x : Int32) : x ^^^ (-1) = ~~~x := by
  apply Int32.toBitVec_inj.mp
  show x.toBitVec ^^^ BitVec.allOnes 32 = ~~~x.toBitVec
  exact BitVec.xor_allOnes
theorem i_or_assoc (x y z : Int32) : (x ||| y) ||| z = x ||| (y ||| z) := by
  apply Int32.toBitVec_inj.mp
  show (x.toBitVec ||| y.toBitVec) ||| z.toBitVec = _
  exact BitVec.or_assoc _ _ _
theorem i_not_or (x y : Int32) : ~~~(x ||| y) = ~~~x &&& ~~~y := by
  apply Int32.toBitVec_inj.mp
  show ~~~(x.toBitVec ||| y.toBitVec) = _
  exact BitVec.not_or
def undI (d : Int32) : Int32 := (d ^^^ (-1)) &&& 7
theorem undI_or (d r : Int32) : undI d &&& (r ^^^ (-1)) = undI (d ||| r) := by
  unfold undI
  rw [i_not, i_not, i_not, i_not_or, i_assoc, i_assoc, i_comm 7]
theorem and_undI {r : Int32} (h : ∃ j, j < 8 ∧ r = nI j) (d : Int32) : r &&& undI d = r &&& (d ^^^ (-1)) := by
  obtain ⟨j, hj, rfl⟩ := h
  have e : nI j = nI j &&& 7 := by
    have k := pk_andN (n := j) (by omega) (m := 7) 3 (by decide)
    rw [k, Nat.mod_eq_of_lt (by omega)]
  unfold undI
  rw [i_comm (d ^^^ (-1)) 7, ← i_assoc, ← e]
theorem acmp_eq {AD : Nat → Nat → Nat} {a y : Nat} (h : AD 1 a = AD 1 y → a = y) : (if some (AD 1 a) = some (AD 1 y) then (1 : Int32) else 0) = b2i (decide (a = y)) := by
  by_cases c : a = y
  · subst c; rw [if_pos rfl, decide_eq_true rfl]; rfl
  · rw [if_neg (fun e => c (h (Option.some.inj e))), decide_eq_false c]; rfl
theorem cnt_eq {F : Nat → Nat → Int32} {a y k : Nat} (ha : a < 2 ^ 31) (hy : y < 2 ^ 31) : b2i (!decide (F 10 k = if (decide (a = y)) = true then 1 else 0)) = b2i (toB (mCnt F a y k)) := by
  unfold mCnt toB
  by_cases c : a = y
  · subst c
    rw [if_pos rfl, decide_eq_true (rfl : a = a), if_pos rfl]
    by_cases d : F 10 k = 1
    · rw [if_pos d, decide_eq_true d]; rfl
    · rw [if_neg d, decide_eq_false d]; rfl
  · rw [if_neg (fun e => c ((nI_eq ha hy).mp e)), decide_eq_false c, if_neg (by decide)]
    by_cases d : F 10 k = 0
    · rw [if_pos d, decide_eq_true d]; rfl
    · rw [if_neg d, decide_eq_false d]; rfl
theorem toB_f {x : Int32} (h : toB x = false) : x = 0 := by
  unfold toB at h
  by_cases c : x = 0
  · exact c
  · rw [decide_eq_false c] at h; cases h
theorem toB_t {x : Int32} (h : toB x = true) : ¬ x = 0 := by
  intro c
  unfold toB at h
  rw [decide_eq_true c] at h; cases h
section CS
variable {F : Nat → Nat → Int32} {x y a i : Nat} {s : Int32 × Int32}
theorem cs_0 (c : toB (mCnt F a y (6 * a + i)) = false) : mRow F x y a (i + 1) s = mRow F x y a i s := by
  show mStep F x y a i (mRow F x y a i s) = _
  unfold mStep; rw [if_pos (toB_f c)]
theorem cs_1 (c : toB (mCnt F a y (6 * a + i)) = true) (d : mFor F (6 * a + i) x = false) : mRow F x y a (i + 1) s = mRow F x y a i s := by
  show mStep F x y a i (mRow F x y a i s) = _
  unfold mStep; rw [if_neg (toB_t c), if_neg (b2i_bf d)]
theorem cs_2 (c : toB (mCnt F a y (6 * a + i)) = true) (d : mFor F (6 * a + i) x = true) : mRow F x y a (i + 1) s = ((mRow F x y a i s).1 ||| (if F 8 (6 * a + i) = 0 then 0 else F 9 (6 * a + i) &&& ((mRow F x y a i s).2 ^^^ (-1))), (mRow F x y a i s).2 ||| F 9 (6 * a + i)) := by
  show mStep F x y a i (mRow F x y a i s) = _
  unfold mStep; rw [if_neg (toB_t c), if_pos d]
end CS
