/-! words of pass and gainers -/
theorem lastMp_C (F : Nat → Nat → Int32) (ow mp : Nat → Int32) (y : Nat) : fillA (lastMp F ow mp y) (mV F ow y (mBest F ow y)) 8 = mMP F ow mp y := by
  cases y with
  | zero => rfl
  | succ y => exact fillA_fillA _ _ _ _
theorem i_add0 (x : Int32) : x + 0 = x := by rw [← Int32.toBitVec_inj, Int32.toBitVec_add]; exact BitVec.add_zero _
theorem ps_c (a b c : Nat → Int32) (y : Nat) (x : Int32) : (if (!frB a b c y 8) = true then x + 1 else x) = x + (if othB a b c y 8 = true then 1 else 0) := by
  rw [othB_fr]
  split
  · rfl
  · exact (i_add0 x).symm
theorem gnr_c (F : Nat → Nat → Int32) (kp tu : Nat → Int32) (y k : Nat) : (if (mNow F kp tu k y &&& (mRights F k y ^^^ (-1))) = 0 then gnr F kp tu y k else gnr F kp tu y k ||| ((1 : Int32) <<< (nI k &&& 31))) = gnr F kp tu y (k + 1) := by
  show _ = gnr F kp tu y k ||| (if (mNow F kp tu k y &&& (mRights F k y ^^^ (-1))) = 0 then 0 else (1 : Int32) <<< (nI k &&& 31))
  split
  · exact (i_or0 _).symm
  · rfl
