/-! ===== Int32 by its bits: bt x i ===== -/
def bt (x : Int32) (i : Nat) : Bool := x.toBitVec.getLsbD i
theorem b_ext {x y : Int32} (h : ∀ i, i < 32 → bt x i = bt y i) : x = y := Int32.toBitVec_inj.mp (BitVec.eq_of_getLsbD_eq (fun i hi => h i hi))
theorem b_or (x y : Int32) (i : Nat) : bt (x ||| y) i = (bt x i || bt y i) := by unfold bt; rw [Int32.toBitVec_or, BitVec.getLsbD_or]
theorem b_and (x y : Int32) (i : Nat) : bt (x &&& y) i = (bt x i && bt y i) := by unfold bt; rw [Int32.toBitVec_and, BitVec.getLsbD_and]
theorem b_xor (x y : Int32) (i : Nat) : bt (x ^^^ y) i = (bt x i ^^ bt y i) := by unfold bt; rw [Int32.toBitVec_xor, BitVec.getLsbD_xor]
theorem b_big {x : Int32} {i : Nat} (h : 32 ≤ i) : bt x i = false := BitVec.getLsbD_of_ge _ _ h
theorem b_255 (i : Nat) : bt 255 i = decide (i < 8) := by
  rcases Nat.lt_or_ge i 32 with h | h
  · exact (by decide +kernel : ∀ i, i < 32 → bt 255 i = decide (i < 8)) i h
  · rw [b_big h, decide_eq_false (by omega)]
theorem b_65535 (i : Nat) : bt 65535 i = decide (i < 16) := by
  rcases Nat.lt_or_ge i 32 with h | h
  · exact (by decide +kernel : ∀ i, i < 32 → bt 65535 i = decide (i < 16)) i h
  · rw [b_big h, decide_eq_false (by omega)]
theorem b_m1 : ∀ i, i < 32 → bt (-1) i = true := by decide +kernel
theorem b_0 (i : Nat) : bt 0 i = false := BitVec.getLsbD_zero
theorem s_l : ∀ n, n < 32 → ((nI n &&& 31).toBitVec.smod 32).toNat = n := by decide +kernel
theorem s_u : ∀ n, n < 32 → (((nI n).toUInt32 &&& Int32.toUInt32 31).toBitVec % 32).toNat = n := by decide +kernel
theorem b_shl (n : Nat) (hn : n < 32) (x : Int32) {i : Nat} (hi : i < 32) : bt (x <<< (nI n &&& 31)) i = (decide (n ≤ i) && bt x (i - n)) := by
  unfold bt
  rw [Int32.toBitVec_shiftLeft]
  show (x.toBitVec <<< ((nI n &&& 31).toBitVec.smod 32).toNat).getLsbD i = _
  rw [s_l n hn, BitVec.getLsbD_shiftLeft]
  rcases Nat.lt_or_ge i n with h | h
  · simp [h, Nat.not_le.mpr h]
  · simp [hi, h, Nat.not_lt.mpr h]
theorem b_ushr (n : Nat) (hn : n < 32) (x : Int32) (i : Nat) : bt ((x.toUInt32 >>> ((nI n).toUInt32 &&& Int32.toUInt32 31)).toInt32) i = bt x (n + i) := by
  show (x.toUInt32 >>> ((nI n).toUInt32 &&& Int32.toUInt32 31)).toBitVec.getLsbD i = x.toUInt32.toBitVec.getLsbD (n + i)
  rw [UInt32.toBitVec_shiftRight]
  show (x.toUInt32.toBitVec >>> (((nI n).toUInt32 &&& Int32.toUInt32 31).toBitVec % 32).toNat).getLsbD i = _
  rw [s_u n hn, BitVec.getLsbD_ushiftRight]
theorem b_sshr (n : Nat) (hn : n < 32) (x : Int32) {i : Nat} (hi : i < 32) : bt (x >>> (nI n &&& 31)) i = if n + i < 32 then bt x (n + i) else bt x 31 := by
  unfold bt
  rw [Int32.toBitVec_shiftRight]
  show (x.toBitVec.sshiftRight ((nI n &&& 31).toBitVec.smod 32).toNat).getLsbD i = _
  rw [s_l n hn, BitVec.getLsbD_sshiftRight, BitVec.msb_eq_getLsbD_last]
  simp [hi]
theorem b_shl8 (x : Int32) {i : Nat} (hi : i < 32) : bt (x <<< ((8 : Int32) &&& 31)) i = (decide (8 ≤ i) && bt x (i - 8)) := b_shl 8 (by omega) x hi
theorem b_shl16 (x : Int32) {i : Nat} (hi : i < 32) : bt (x <<< ((16 : Int32) &&& 31)) i = (decide (16 ≤ i) && bt x (i - 16)) := b_shl 16 (by omega) x hi
theorem b_shl24 (x : Int32) {i : Nat} (hi : i < 32) : bt (x <<< ((24 : Int32) &&& 31)) i = (decide (24 ≤ i) && bt x (i - 24)) := b_shl 24 (by omega) x hi
theorem b_sshr8 (x : Int32) {i : Nat} (hi : i < 32) : bt (x >>> ((8 : Int32) &&& 31)) i = if 8 + i < 32 then bt x (8 + i) else bt x 31 := b_sshr 8 (by omega) x hi
/-! the above: kit/laws BITS; below: mine -/
theorem b_jush (n : Nat) (hn : n < 32) (x : Int32) (i : Nat) : bt (ju_ushr x (nI n)) i = bt x (n + i) := b_ushr n hn x i
theorem b_addor {x y : Int32} (h : ∀ i, i < 32 → (bt x i && bt y i) = false) : x + y = x ||| y := by
  apply Int32.toBitVec_inj.mp
  rw [Int32.toBitVec_add, Int32.toBitVec_or]
  apply BitVec.add_eq_or_of_and_eq_zero
  apply BitVec.eq_of_getLsbD_eq
  intro i hi
  rw [BitVec.getLsbD_and, BitVec.getLsbD_zero]
  exact h i hi
theorem b_1 (i : Nat) : bt 1 i = decide (i = 0) := by
  rcases Nat.lt_or_ge i 32 with h | h
  · exact (by decide +kernel : ∀ i, i < 32 → bt 1 i = decide (i = 0)) i h
  · rw [b_big h, decide_eq_false (by omega)]
theorem b_31 (i : Nat) : bt 31 i = decide (i < 5) := by
  rcases Nat.lt_or_ge i 32 with h | h
  · exact (by decide +kernel : ∀ i, i < 32 → bt 31 i = decide (i < 5)) i h
  · rw [b_big h, decide_eq_false (by omega)]
theorem b_7 (i : Nat) : bt 7 i = decide (i < 3) := by
  rcases Nat.lt_or_ge i 32 with h | h
  · exact (by decide +kernel : ∀ i, i < 32 → bt 7 i = decide (i < 3)) i h
  · rw [b_big h, decide_eq_false (by omega)]
/-- one bit, taken out by an arithmetic shift -/
theorem b_one (n : Nat) (hn : n < 32) (x : Int32) {i : Nat} (hi : i < 32) : bt ((x >>> (nI n &&& 31)) &&& 1) i = (decide (i = 0) && bt x n) := by
  rw [b_and, b_1, b_sshr n hn x hi]
  by_cases h : i = 0
  · subst h; simp [hn]
  · simp [h]
theorem b_oneU (n : Nat) (hn : n < 32) (x : Int32) {i : Nat} : bt ((ju_ushr x (nI n)) &&& 1) i = (decide (i = 0) && bt x n) := by
  rw [b_and, b_1, b_jush n hn x]
  by_cases h : i = 0
  · subst h; simp
  · simp [h]
/-- a word of one bit, shifted -/
theorem b_oneL (n : Nat) (hn : n < 32) {y : Int32} {b : Bool} (hy : ∀ i, i < 32 → bt y i = (decide (i = 0) && b)) {i : Nat} (hi : i < 32) : bt (y <<< (nI n &&& 31)) i = (decide (i = n) && b) := by
  rw [b_shl n hn y hi, hy (i - n) (by omega)]
  by_cases h : i = n
  · subst h; simp
  · by_cases h2 : n ≤ i
    · simp [h, show ¬ (i - n = 0) by omega]
    · simp [h, h2]
theorem b_m8 (x : Int32) : ∀ i, i < 3 → bt (x - 8) i = bt x i := by
  intro i hi
  have e : x.toBitVec.toNat < 2 ^ 32 := x.toBitVec.isLt
  unfold bt
  rw [Int32.toBitVec_sub, ← BitVec.testBit_toNat, ← BitVec.testBit_toNat, BitVec.toNat_sub]
  show ((2 ^ 32 - 8 + x.toBitVec.toNat) % 2 ^ 32).testBit i = x.toBitVec.toNat.testBit i
  rw [Nat.testBit_mod_two_pow, decide_eq_true (show i < 32 by omega), Bool.true_and]
  have h1 : (2 ^ 32 - 8 + x.toBitVec.toNat) % 2 ^ 3 = x.toBitVec.toNat % 2 ^ 3 := by omega
  have h2 := Nat.testBit_mod_two_pow (2 ^ 32 - 8 + x.toBitVec.toNat) 3 i
  have h3 := Nat.testBit_mod_two_pow x.toBitVec.toNat 3 i
  rw [decide_eq_true hi, Bool.true_and] at h2 h3
  rw [← h2, ← h3, h1]
