/-! what the leaves answer -/
def hasB (s k : Int32) : Bool := decide ((s >>> (k &&& 31)) &&& 1 = 1)
def hasC (s k : Int32) : Bool := !decide ((s >>> (k &&& 31)) &&& 1 = 0)
def inB (v a b : Int32) : Bool := decide (a ≤ v) && decide (v ≤ b)
def sizeI (s : Int32) : Nat → Int32
  | 0 => 0
  | k + 1 => sizeI s k + ((s >>> (nI k &&& 31)) &&& 1)
/-- one round over the groups -/
def gstep (f : Nat → Int32) (s : Int32) : Nat → Int32
  | 0 => s
  | k + 1 => gstep f s k ||| (if hasB (gstep f s k) (nI k) = true then f k else 0)
def grnds (f : Nat → Int32) (s : Int32) : Nat → Int32
  | 0 => s
  | r + 1 => gstep f (grnds f s r) 6
def memb (f : Nat → Int32) (gs : Int32) : Nat → Int32
  | 0 => 0
  | k + 1 => memb f gs k ||| (if hasB gs (nI k) = true then f k else 0)
/-- the persons in the group x, by the model -/
def mMem (F : Nat → Nat → Int32) (x : Nat) : Int32 := memb (F 1) (grnds (F 2) (1 <<< (nI x &&& 31)) 6) 6
def comm (f : Nat → Int32) (set : Int32) : Nat → Int32
  | 0 => if set = 0 then 0 else 7
  | k + 1 => comm f set k &&& (if hasB set (nI k) = true then f k else 7)
theorem inB_if (v a b : Int32) : (if v < a then (0 : Int32) else if b < v then 0 else 1) = b2i (inB v a b) := by
  unfold inB b2i
  by_cases h1 : v < a
  · rw [if_pos h1, if_neg (by simp [Int32.not_le.mpr h1])]
  · rw [if_neg h1]
    by_cases h2 : b < v
    · rw [if_pos h2, if_neg (by simp [Int32.not_le.mpr h2])]
    · rw [if_neg h2, if_pos (by simp [Int32.not_lt.mp h1, Int32.not_lt.mp h2])]
