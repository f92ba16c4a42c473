/-! what the class's groups and mapping answer -/
theorem and_one (y : Int32) : y &&& 1 = 0 ∨ y &&& 1 = 1 := by
  obtain ⟨j, hj, e⟩ := pk_andE y (m := 1) 1 (by decide)
  have h2 : j = 0 ∨ j = 1 := by omega
  rcases h2 with rfl | rfl
  · left; rw [e]; rfl
  · right; rw [e]; rfl
theorem hasC_if (s k : Int32) : (if (s >>> (k &&& 31)) &&& 1 = 0 then (0 : Int32) else 1) = b2i (hasB s k) := by
  unfold hasB
  rcases and_one (s >>> (k &&& 31)) with h | h
  · rw [h]; rfl
  · rw [h]; rfl
theorem i_or0 (x : Int32) : x ||| 0 = x := by
  apply Int32.toBitVec_inj.mp
  show x.toBitVec ||| 0#32 = x.toBitVec
  exact BitVec.or_zero
theorem i_0and (x : Int32) : 0 &&& x = 0 := by
  apply Int32.toBitVec_inj.mp
  show 0#32 &&& x.toBitVec = 0#32
  exact BitVec.zero_and
theorem i_assoc (x y z : Int32) : (x &&& y) &&& z = x &&& (y &&& z) := by
  apply Int32.toBitVec_inj.mp
  show (x.toBitVec &&& y.toBitVec) &&& z.toBitVec = _
  exact BitVec.and_assoc _ _ _
theorem i_comm (x y : Int32) : x &&& y = y &&& x := by
  apply Int32.toBitVec_inj.mp
  show x.toBitVec &&& y.toBitVec = _
  exact BitVec.and_comm _ _
theorem gstep_c (f : Nat → Int32) (s : Int32) (k : Nat) : (if hasB (gstep f s k) (nI k) = true then gstep f s k ||| f k else gstep f s k) = gstep f s (k + 1) := by
  show _ = gstep f s k ||| (if hasB (gstep f s k) (nI k) = true then f k else 0)
  split
  · rfl
  · rw [i_or0]
theorem memb_c (f : Nat → Int32) (gs : Int32) (k : Nat) : (if hasB gs (nI k) = true then memb f gs k ||| f k else memb f gs k) = memb f gs (k + 1) := by
  show _ = memb f gs k ||| (if hasB gs (nI k) = true then f k else 0)
  split
  · rfl
  · rw [i_or0]
/-- the groups reached, and the persons, by the class -/
def cRch (inn : Nat → Int32) (x : Nat) : Int32 := grnds inn ((1 : Int32) <<< (nI x &&& 31)) 5
def cMem (pe inn : Nat → Int32) (x : Nat) : Int32 := memb pe (cRch inn x) 6
def evA (pe inn ev : Nat → Int32) : Nat → Int32 := fillA ev (cMem pe inn) 6
theorem comm7 (f : Nat → Int32) (set : Int32) : ∀ k, comm f set k &&& 7 = comm f set k := by
  intro k
  induction k with
  | zero =>
    show (if set = 0 then 0 else 7) &&& 7 = (if set = 0 then (0 : Int32) else 7)
    split <;> decide
  | succ k ih =>
    show (comm f set k &&& (if hasB set (nI k) = true then f k else 7)) &&& 7 = comm f set k &&& (if hasB set (nI k) = true then f k else 7)
    rw [i_assoc, i_comm (if hasB set (nI k) = true then f k else 7) 7, ← i_assoc, ih]
theorem comm_c (f : Nat → Int32) (set : Int32) (k : Nat) : (if hasB set (nI k) = true then comm f set k &&& f k else comm f set k) = comm f set (k + 1) := by
  show _ = comm f set k &&& (if hasB set (nI k) = true then f k else 7)
  split
  · rfl
  · rw [comm7]
theorem comm_0 (f : Nat → Int32) : ∀ k, comm f 0 k = 0 := by
  intro k
  induction k with
  | zero => exact if_pos rfl
  | succ k ih => show comm f 0 k &&& _ = 0; rw [ih, i_0and]
def bcA (x : Int32) : Int32 := x - ((x.toUInt32 >>> ((1 : Int32).toUInt32 &&& Int32.toUInt32 31)).toInt32 &&& 1431655765)
def bcB (x : Int32) : Int32 := (x &&& 858993459) + ((x.toUInt32 >>> ((2 : Int32).toUInt32 &&& Int32.toUInt32 31)).toInt32 &&& 858993459)
def bcC (x : Int32) : Int32 := (x + (x.toUInt32 >>> ((4 : Int32).toUInt32 &&& Int32.toUInt32 31)).toInt32) &&& 252645135
def bcD (x : Int32) : Int32 := x + (x.toUInt32 >>> ((8 : Int32).toUInt32 &&& Int32.toUInt32 31)).toInt32
def bcE (x : Int32) : Int32 := x + (x.toUInt32 >>> ((16 : Int32).toUInt32 &&& Int32.toUInt32 31)).toInt32
def bcI (x : Int32) : Int32 := bcE (bcD (bcC (bcB (bcA x)))) &&& 63
theorem bc_ok : ∀ j : Fin 8, bcI (nI j.val) = sizeI (nI j.val) 8 := by decide +kernel
theorem and7 {x : Int32} (h : ∃ j, j < 8 ∧ x = nI j) (y : Int32) : ∃ j, j < 8 ∧ x &&& y = nI j := by
  obtain ⟨j, hj, rfl⟩ := h
  have e : nI j = nI j &&& 7 := by
    have k := pk_andN (n := j) (by omega) (m := 7) 3 (by decide)
    rw [k, Nat.mod_eq_of_lt (by omega)]
  rw [e, i_assoc, i_comm 7 y, ← i_assoc]
  obtain ⟨i, hi, ei⟩ := pk_andE (nI j &&& y) (m := 7) 3 (by decide)
  exact ⟨i, by omega, ei⟩
theorem bc_loss {own val : Nat → Int32} {p : Nat} (h : ∃ j, j < 8 ∧ own p = nI j) : bcI (own p &&& (val p ^^^ (-1))) = lossP own val p := by
  obtain ⟨j, hj, e⟩ := and7 h (val p ^^^ (-1))
  unfold lossP
  rw [e]
  exact bc_ok ⟨j, hj⟩
theorem lossP_u (own K : Nat → Int32) (i : Nat) (V : Nat → Int32) : lossP own (upd K i (V i)) i = lossP own V i := by
  unfold lossP; rw [pk_us]
theorem wst_gtC {own V : Nat → Int32} {i : Nat} (c : ¬ lossP own V i ≤ lossP own V (wst own V i)) : nI i = nI (wst own V (i + 1)) := by
  rw [show wst own V (i + 1) = i from if_neg c]
theorem wst_leC {own V : Nat → Int32} {i : Nat} (c : lossP own V i ≤ lossP own V (wst own V i)) : nI (wst own V i) = nI (wst own V (i + 1)) := by
  rw [show wst own V (i + 1) = wst own V i from if_pos c]
def cGB (he : Nat → Int32) (mm o nm : Int32) : Int32 := comm he (ftL o nm &&& mm) 8
def cOB (he : Nat → Int32) (mm o nm : Int32) : Int32 := comm he (ftL o nm &&& (mm ^^^ (-1))) 8
def cV (he : Nat → Int32) (mm o nm : Int32) (p : Nat) : Int32 := if hasB (ftL o nm) (nI p) = true then (if hasB mm (nI p) = true then cGB he mm o nm else cOB he mm o nm) else he p
def cLoss (he : Nat → Int32) (mm o nm : Int32) : Int32 := lossS he (cV he mm o nm) 8
theorem cV_t {he : Nat → Int32} {mm o nm : Int32} {p : Nat} (c : hasB (ftL o nm) (nI p) = true) : (if hasB mm (nI p) = true then cGB he mm o nm else cOB he mm o nm) = cV he mm o nm p := (if_pos c).symm
theorem cV_n {he : Nat → Int32} {mm o nm : Int32} {p : Nat} (c : hasB (ftL o nm) (nI p) = false) : he p = cV he mm o nm p := (if_neg (b2i_bf c)).symm
def cNm (he : Nat → Int32) (mm o : Int32) : Nat → Int32
  | 0 => 0
  | k + 1 => if cLoss he mm o (cNm he mm o k) ≤ 0 then cNm he mm o k else cNm he mm o k ||| ((1 : Int32) <<< (nI (wst he (cV he mm o (cNm he mm o k)) 8) &&& 31))
theorem cNm_s {he : Nat → Int32} {mm o : Int32} {k : Nat} (c : ¬ cLoss he mm o (cNm he mm o k) ≤ 0) : cNm he mm o (k + 1) = cNm he mm o k ||| ((1 : Int32) <<< (nI (wst he (cV he mm o (cNm he mm o k)) 8) &&& 31)) := if_neg c
theorem cNm_stop {he : Nat → Int32} {mm o : Int32} {k : Nat} (c : cLoss he mm o (cNm he mm o k) ≤ 0) : ∀ d, cNm he mm o (k + d) = cNm he mm o k := by
  intro d
  induction d with
  | zero => rfl
  | succ d ih =>
    show (if _ then _ else _) = _
    rw [Nat.add_eq, ih, if_pos c]
theorem cNm_3 {he : Nat → Int32} {mm o : Int32} {k : Nat} (hk : k ≤ 3) (c : cLoss he mm o (cNm he mm o k) ≤ 0) : cNm he mm o 3 = cNm he mm o k := by
  have h := cNm_stop c (3 - k)
  rwa [show k + (3 - k) = 3 by omega] at h
theorem wst_fill {own A V : Nat → Int32} : ∀ n, n ≤ 8 → wst own (fillA A V 8) n = wst own V n := by
  intro n
  induction n with
  | zero => intro _; rfl
  | succ n ih =>
    intro h
    have e1 : lossP own (fillA A V 8) n = lossP own V n := by unfold lossP; rw [fillA_get, if_pos (by omega)]
    have e2 : lossP own (fillA A V 8) (wst own V n) = lossP own V (wst own V n) := by unfold lossP; rw [fillA_get, if_pos (wst_lt own V n (by omega))]
    show (if _ then _ else _) = (if _ then _ else _)
    rw [ih (by omega), e1, e2]
