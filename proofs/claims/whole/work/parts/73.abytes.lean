/-! B: bytes -/
def bT (v : Int32) : Int32 := Int8.toInt32 (Int32.toInt8 ((v : Int32).toInt8.toInt32))
theorem b8 (x : Int8) : Int32.toInt8 (Int8.toInt32 x) = x := Int8.toInt8_toInt32 x
theorem bT_eq (v : Int32) : bT v = v.toInt8.toInt32 := by unfold bT; rw [b8]
theorem bT_bT (v : Int32) : bT (bT v) = bT v := by rw [bT_eq, bT_eq, b8]
theorem e255 : ∀ i, i < 32 → (255 : Int32).toBitVec.getLsbD i = decide (i < 8) := by decide
theorem t8 (v : Int32) : (v &&& 255).toInt8 = v.toInt8 := by
  rw [← Int8.toBitVec_inj]
  show (v &&& 255).toBitVec.signExtend 8 = v.toBitVec.signExtend 8
  apply BitVec.eq_of_getLsbD_eq
  intro i hi
  rw [BitVec.getLsbD_signExtend, BitVec.getLsbD_signExtend, Int32.toBitVec_and, BitVec.getLsbD_and, e255 i (by omega), if_pos (show i < 32 by omega), if_pos (show i < 32 by omega), decide_eq_true hi, Bool.and_true]
theorem bT_mask (v : Int32) : bT (v &&& 255) = bT v := by rw [bT_eq, bT_eq, t8]
theorem mask_bT (v : Int32) : bT v &&& 255 = v &&& 255 := by
  rw [bT_eq, ← Int32.toBitVec_inj]
  apply BitVec.eq_of_getLsbD_eq
  intro i hi
  simp only [Int32.toBitVec_and, BitVec.getLsbD_and, e255 i hi]
  by_cases h : i < 8
  · have : (v.toInt8.toInt32).toBitVec.getLsbD i = v.toBitVec.getLsbD i := by
      show ((v.toBitVec.signExtend 8).signExtend 32).getLsbD i = _
      rw [BitVec.getLsbD_signExtend, if_pos h, BitVec.getLsbD_signExtend, if_pos (by omega), decide_eq_true h, decide_eq_true hi]
      rfl
    rw [this]
  · simp [h]
theorem bT_inj {u v : Int32} (h : bT u = bT v) : u &&& 255 = v &&& 255 := by rw [← mask_bT u, ← mask_bT v, h]
theorem and255N {n : Nat} (h : n < 256) : nI n &&& 255 = nI n := by
  show Int32.ofNat n &&& 255 = Int32.ofNat n
  rw [← Int32.toBitVec_inj, Int32.toBitVec_and]
  apply BitVec.eq_of_toNat_eq
  rw [BitVec.toNat_and, show (255 : Int32).toBitVec.toNat = 2 ^ 8 - 1 by decide, Nat.and_two_pow_sub_one_eq_mod, Int32.toBitVec_ofNat', BitVec.toNat_ofNat, Nat.mod_eq_of_lt (a := n) (by omega)]
  omega
theorem bT_rng (v : Int32) : -128 ≤ (bT v).toInt ∧ (bT v).toInt ≤ 127 := by
  rw [bT_eq, Int8.toInt_toInt32]
  have h1 := Int8.le_toInt v.toInt8
  have h2 := Int8.toInt_lt v.toInt8
  omega
theorem fitB {v : Int32} (h : bT v = v) : fits .byte (.int v) = true := by
  have r := bT_rng v
  rw [h] at r
  have h1 : (-128 : Int32) ≤ v := by rw [le32, show (-128 : Int32).toInt = -128 by decide]; exact r.1
  have h2 : v ≤ (127 : Int32) := by rw [le32, show (127 : Int32).toInt = 127 by decide]; exact r.2
  show (decide (-128 ≤ v) && decide (v ≤ 127)) = true
  rw [decide_eq_true h1, decide_eq_true h2]; rfl
