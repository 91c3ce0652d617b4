/-! which immediates may be: the class's allowsImmediate and the reference's isImmediate -/
theorem q_rem0 (v : Int64) (t : Nat) (ht : t = 0 ∨ t = 1 ∨ t = 2 ∨ t = 4) (h1 : -2097152 ≤ v.toInt) (h2 : v.toInt ≤ 2097152) : (v - v / lN (2 ^ t) * lN (2 ^ t) = 0) ↔ v.toInt % 2 ^ t = 0 := by
  have e0 : ∀ x : Int64, x = 0 ↔ x.toInt = 0 := fun x => ⟨fun h => by rw [h]; rfl, fun h => Int64.toInt_inj.mp h⟩
  rw [e0, Int64.toInt_sub, Int64.toInt_mul, Int64.toInt_div]
  rcases ht with e | e | e | e <;> subst e
  · rw [show (lN (2 ^ 0)).toInt = 1 from by decide, Int.tdiv_eq_ediv]
    simp only [Int.bmod]; split <;> omega
  · rw [show (lN (2 ^ 1)).toInt = 2 from by decide, Int.tdiv_eq_ediv]
    simp only [Int.bmod, Int.sign]; split <;> omega
  · rw [show (lN (2 ^ 2)).toInt = 4 from by decide, Int.tdiv_eq_ediv]
    simp only [Int.bmod, Int.sign]; split <;> omega
  · rw [show (lN (2 ^ 4)).toInt = 16 from by decide, Int.tdiv_eq_ediv]
    simp only [Int.bmod, Int.sign]; split <;> omega
theorem q_mask0 (v : Int64) (t : Nat) (ht : t = 0 ∨ t = 1 ∨ t = 2 ∨ t = 4) : (v &&& lN (2 ^ t - 1) = 0) ↔ v.toInt % 2 ^ t = 0 := by
  have e0 : ∀ x : Int64, x = 0 ↔ x.toBitVec.toNat = 0 := fun x => ⟨fun h => by rw [h]; rfl, fun h => Int64.toBitVec_inj.mp (BitVec.eq_of_toNat_eq h)⟩
  rw [e0, Int64.toBitVec_and, BitVec.toNat_and]
  have e1 : v.toInt = _ := BitVec.toInt_eq_toNat_cond v.toBitVec
  rw [e1]
  have hn : v.toBitVec.toNat < 2 ^ 64 := v.toBitVec.isLt
  generalize v.toBitVec.toNat = n at hn ⊢
  rcases ht with e | e | e | e <;> subst e
  · rw [show (lN (2 ^ 0 - 1)).toBitVec.toNat = 2 ^ 0 - 1 from by decide, Nat.and_two_pow_sub_one_eq_mod]; split <;> omega
  · rw [show (lN (2 ^ 1 - 1)).toBitVec.toNat = 2 ^ 1 - 1 from by decide, Nat.and_two_pow_sub_one_eq_mod]; split <;> omega
  · rw [show (lN (2 ^ 2 - 1)).toBitVec.toNat = 2 ^ 2 - 1 from by decide, Nat.and_two_pow_sub_one_eq_mod]; split <;> omega
  · rw [show (lN (2 ^ 4 - 1)).toBitVec.toNat = 2 ^ 4 - 1 from by decide, Nat.and_two_pow_sub_one_eq_mod]; split <;> omega
def cchk (v l e m : Int64) : Option Bool := if lg_cmp v l < 0 then some false else if 0 ≤ lg_cmp v e then some false else if lg_cmp (v &&& m) 0 = 0 then some true else some false
theorem q_st0 (t : Nat) (ht : t = 0 ∨ t = 1 ∨ t = 2 ∨ t = 4) : ¬ lN (2 ^ t) = 0 := by
  rcases ht with e | e | e | e <;> subst e <;> decide
theorem q_step {v lo hi : Int64} {t : Nat} (ht : t = 0 ∨ t = 1 ∨ t = 2 ∨ t = 4) (b1 : -2097152 ≤ lo.toInt) (b2 : hi.toInt ≤ 2097152) : f_M_isStep v lo hi (lN (2 ^ t)) = some (decide (lo.toInt ≤ v.toInt ∧ v.toInt ≤ hi.toInt ∧ v.toInt % 2 ^ t = 0)) := by
  unfold f_M_isStep
  simp only [lg_cmp_lt, lg_cmp_gt, lg_cmp_eq, Int64.lt_iff_toInt_lt]
  by_cases h1 : v.toInt < lo.toInt
  · rw [if_pos h1, decide_eq_false (by omega)]
  · by_cases h2 : hi.toInt < v.toInt
    · rw [if_neg h1, if_pos h2, decide_eq_false (by omega)]
    · rw [if_neg h1, if_neg h2, if_neg (q_st0 t ht)]
      have h3 := q_rem0 v t ht (by omega) (by omega)
      by_cases h4 : v.toInt % 2 ^ t = 0
      · rw [if_pos (h3.mpr h4), decide_eq_true ⟨by omega, by omega, h4⟩]
      · rw [if_neg (fun z => h4 (h3.mp z)), decide_eq_false (fun z => h4 z.2.2)]
theorem q_cchk {v l e : Int64} {t : Nat} (ht : t = 0 ∨ t = 1 ∨ t = 2 ∨ t = 4) : cchk v l e (lN (2 ^ t - 1)) = some (decide (l.toInt ≤ v.toInt ∧ v.toInt < e.toInt ∧ v.toInt % 2 ^ t = 0)) := by
  unfold cchk
  simp only [lg_cmp_lt, lg_cmp_ge, lg_cmp_eq, Int64.lt_iff_toInt_lt, Int64.le_iff_toInt_le]
  by_cases h1 : v.toInt < l.toInt
  · rw [if_pos h1, decide_eq_false (by omega)]
  · by_cases h2 : e.toInt ≤ v.toInt
    · rw [if_neg h1, if_pos h2, decide_eq_false (by omega)]
    · rw [if_neg h1, if_neg h2]
      have h3 := q_mask0 v t ht
      by_cases h4 : v.toInt % 2 ^ t = 0
      · rw [if_pos (h3.mpr h4), decide_eq_true ⟨by omega, by omega, h4⟩]
      · rw [if_neg (fun z => h4 (h3.mp z)), decide_eq_false (fun z => h4 z.2.2)]
theorem q_bs (x : Option Bool) : (x.bind fun r => some r) = x := by cases x <;> rfl
theorem q_bb (x : Option Bool) : (x.bind fun r => if (bI r) = 0 then (some false) else (some true)) = x := by rcases x with _ | b <;> first | rfl | (cases b <;> rfl)
def ml_lo : List Int64 := [0, 0, (-1048576), (-2048), (-4096), (-4096), (-4096), (-4096), (-4096), (-4096), (-2048), (-2048), (-2048), (-2048), (-2048), (-2048), (-2048), (-2048), (-2048), (-2048), (-2048), (-2048), (-2048), (-2048), 0, 0, 0, (-2048), (-2048), (-2048), (-2048), (-2048), (-2048), (-2048), (-2048), (-2048), (-2048), (-2048), (-2048), (-2048), (-2048), (-2048), (-2048), (-2048), (-2048), (-2048), (-2048), (-2048), 4, 0, 0, 0, (-32), (-2048), (-32), (-512), 0, 1, 1, (-32), 0, 0, 0, 0, (-2048), (-256), (-256), 1, 0, 0, 0, 0, 0, 0, 0]
def ml_hi : List Int64 := [1048575, 1048575, 1048574, 2047, 4094, 4094, 4094, 4094, 4094, 4094, 2047, 2047, 2047, 2047, 2047, 2047, 2047, 2047, 2047, 2047, 2047, 2047, 2047, 2047, 31, 31, 31, 2047, 2047, 2047, 2047, 2047, 2047, 2047, 2047, 2047, 2047, 2047, 2047, 2047, 2047, 2047, 2047, 2047, 2047, 2047, 2047, 2047, 1020, 124, 124, 252, 31, 2046, 31, 496, 252, 31, 31, 31, 252, 252, 252, 252, 2046, 254, 254, 31, 252, 252, 252, 252, 252, 252, 252]
def ml_t : List Nat := [0, 0, 1, 0, 1, 1, 1, 1, 1, 1, 0, 0, 0, 0, 0, 0, 0, 0, 0, 0, 0, 0, 0, 0, 0, 0, 0, 0, 0, 0, 0, 0, 0, 0, 0, 0, 0, 0, 0, 0, 0, 0, 0, 0, 0, 0, 0, 0, 2, 2, 2, 2, 0, 1, 0, 4, 2, 0, 0, 0, 2, 2, 2, 2, 1, 1, 1, 0, 2, 2, 2, 2, 2, 2, 2]
def m_lo (i : Nat) : Int64 := ml_lo.getD i 0
def m_hi (i : Nat) : Int64 := ml_hi.getD i 0
def m_t (i : Nat) : Nat := ml_t.getD i 0
def m_nz (i : Nat) : Bool := decide (i = 52) || decide (i = 55)
def mchk (i : Nat) (v : Int64) : Option Bool := if m_nz i = true then (if lg_cmp v 0 = 0 then some false else f_M_isStep v (m_lo i) (m_hi i) (lN (2 ^ m_t i))) else f_M_isStep v (m_lo i) (m_hi i) (lN (2 ^ m_t i))
theorem q_mi_0 (v : Int64) : f_M_isImmediate (nI 0) v = mchk 0 v := q_bs (f_M_isStep v 0 1048575 1)
theorem q_mi_1 (v : Int64) : f_M_isImmediate (nI 1) v = mchk 1 v := q_bs (f_M_isStep v 0 1048575 1)
theorem q_mi_2 (v : Int64) : f_M_isImmediate (nI 2) v = mchk 2 v := q_bs (f_M_isStep v (-1048576) 1048574 2)
theorem q_mi_3 (v : Int64) : f_M_isImmediate (nI 3) v = mchk 3 v := q_bs (f_M_isStep v (-2048) 2047 1)
theorem q_mi_4 (v : Int64) : f_M_isImmediate (nI 4) v = mchk 4 v := q_bs (f_M_isStep v (-4096) 4094 2)
theorem q_mi_5 (v : Int64) : f_M_isImmediate (nI 5) v = mchk 5 v := q_bs (f_M_isStep v (-4096) 4094 2)
theorem q_mi_6 (v : Int64) : f_M_isImmediate (nI 6) v = mchk 6 v := q_bs (f_M_isStep v (-4096) 4094 2)
theorem q_mi_7 (v : Int64) : f_M_isImmediate (nI 7) v = mchk 7 v := q_bs (f_M_isStep v (-4096) 4094 2)
theorem q_mi_8 (v : Int64) : f_M_isImmediate (nI 8) v = mchk 8 v := q_bs (f_M_isStep v (-4096) 4094 2)
theorem q_mi_9 (v : Int64) : f_M_isImmediate (nI 9) v = mchk 9 v := q_bs (f_M_isStep v (-4096) 4094 2)
theorem q_mi_10 (v : Int64) : f_M_isImmediate (nI 10) v = mchk 10 v := q_bs (f_M_isStep v (-2048) 2047 1)
theorem q_mi_11 (v : Int64) : f_M_isImmediate (nI 11) v = mchk 11 v := q_bs (f_M_isStep v (-2048) 2047 1)
theorem q_mi_12 (v : Int64) : f_M_isImmediate (nI 12) v = mchk 12 v := q_bs (f_M_isStep v (-2048) 2047 1)
theorem q_mi_13 (v : Int64) : f_M_isImmediate (nI 13) v = mchk 13 v := q_bs (f_M_isStep v (-2048) 2047 1)
theorem q_mi_14 (v : Int64) : f_M_isImmediate (nI 14) v = mchk 14 v := q_bs (f_M_isStep v (-2048) 2047 1)
theorem q_mi_15 (v : Int64) : f_M_isImmediate (nI 15) v = mchk 15 v := q_bs (f_M_isStep v (-2048) 2047 1)
theorem q_mi_16 (v : Int64) : f_M_isImmediate (nI 16) v = mchk 16 v := q_bs (f_M_isStep v (-2048) 2047 1)
theorem q_mi_17 (v : Int64) : f_M_isImmediate (nI 17) v = mchk 17 v := q_bs (f_M_isStep v (-2048) 2047 1)
theorem q_mi_18 (v : Int64) : f_M_isImmediate (nI 18) v = mchk 18 v := q_bs (f_M_isStep v (-2048) 2047 1)
theorem q_mi_19 (v : Int64) : f_M_isImmediate (nI 19) v = mchk 19 v := q_bs (f_M_isStep v (-2048) 2047 1)
theorem q_mi_20 (v : Int64) : f_M_isImmediate (nI 20) v = mchk 20 v := q_bs (f_M_isStep v (-2048) 2047 1)
theorem q_mi_21 (v : Int64) : f_M_isImmediate (nI 21) v = mchk 21 v := q_bs (f_M_isStep v (-2048) 2047 1)
theorem q_mi_22 (v : Int64) : f_M_isImmediate (nI 22) v = mchk 22 v := q_bs (f_M_isStep v (-2048) 2047 1)
theorem q_mi_23 (v : Int64) : f_M_isImmediate (nI 23) v = mchk 23 v := q_bs (f_M_isStep v (-2048) 2047 1)
theorem q_mi_24 (v : Int64) : f_M_isImmediate (nI 24) v = mchk 24 v := q_bs (f_M_isStep v 0 31 1)
theorem q_mi_25 (v : Int64) : f_M_isImmediate (nI 25) v = mchk 25 v := q_bs (f_M_isStep v 0 31 1)
theorem q_mi_26 (v : Int64) : f_M_isImmediate (nI 26) v = mchk 26 v := q_bs (f_M_isStep v 0 31 1)
theorem q_mi_27 (v : Int64) : f_M_isImmediate (nI 27) v = mchk 27 v := q_bs (f_M_isStep v (-2048) 2047 1)
theorem q_mi_28 (v : Int64) : f_M_isImmediate (nI 28) v = mchk 28 v := q_bs (f_M_isStep v (-2048) 2047 1)
theorem q_mi_29 (v : Int64) : f_M_isImmediate (nI 29) v = mchk 29 v := q_bs (f_M_isStep v (-2048) 2047 1)
theorem q_mi_30 (v : Int64) : f_M_isImmediate (nI 30) v = mchk 30 v := q_bs (f_M_isStep v (-2048) 2047 1)
theorem q_mi_31 (v : Int64) : f_M_isImmediate (nI 31) v = mchk 31 v := q_bs (f_M_isStep v (-2048) 2047 1)
theorem q_mi_32 (v : Int64) : f_M_isImmediate (nI 32) v = mchk 32 v := q_bs (f_M_isStep v (-2048) 2047 1)
theorem q_mi_33 (v : Int64) : f_M_isImmediate (nI 33) v = mchk 33 v := q_bs (f_M_isStep v (-2048) 2047 1)
theorem q_mi_34 (v : Int64) : f_M_isImmediate (nI 34) v = mchk 34 v := q_bs (f_M_isStep v (-2048) 2047 1)
theorem q_mi_35 (v : Int64) : f_M_isImmediate (nI 35) v = mchk 35 v := q_bs (f_M_isStep v (-2048) 2047 1)
theorem q_mi_36 (v : Int64) : f_M_isImmediate (nI 36) v = mchk 36 v := q_bs (f_M_isStep v (-2048) 2047 1)
theorem q_mi_37 (v : Int64) : f_M_isImmediate (nI 37) v = mchk 37 v := q_bs (f_M_isStep v (-2048) 2047 1)
theorem q_mi_38 (v : Int64) : f_M_isImmediate (nI 38) v = mchk 38 v := q_bs (f_M_isStep v (-2048) 2047 1)
theorem q_mi_39 (v : Int64) : f_M_isImmediate (nI 39) v = mchk 39 v := q_bs (f_M_isStep v (-2048) 2047 1)
theorem q_mi_40 (v : Int64) : f_M_isImmediate (nI 40) v = mchk 40 v := q_bs (f_M_isStep v (-2048) 2047 1)
theorem q_mi_41 (v : Int64) : f_M_isImmediate (nI 41) v = mchk 41 v := q_bs (f_M_isStep v (-2048) 2047 1)
theorem q_mi_42 (v : Int64) : f_M_isImmediate (nI 42) v = mchk 42 v := q_bs (f_M_isStep v (-2048) 2047 1)
theorem q_mi_43 (v : Int64) : f_M_isImmediate (nI 43) v = mchk 43 v := q_bs (f_M_isStep v (-2048) 2047 1)
theorem q_mi_44 (v : Int64) : f_M_isImmediate (nI 44) v = mchk 44 v := q_bs (f_M_isStep v (-2048) 2047 1)
theorem q_mi_45 (v : Int64) : f_M_isImmediate (nI 45) v = mchk 45 v := q_bs (f_M_isStep v (-2048) 2047 1)
theorem q_mi_46 (v : Int64) : f_M_isImmediate (nI 46) v = mchk 46 v := q_bs (f_M_isStep v (-2048) 2047 1)
theorem q_mi_47 (v : Int64) : f_M_isImmediate (nI 47) v = mchk 47 v := q_bs (f_M_isStep v (-2048) 2047 1)
theorem q_mi_48 (v : Int64) : f_M_isImmediate (nI 48) v = mchk 48 v := q_bs (f_M_isStep v 4 1020 4)
theorem q_mi_49 (v : Int64) : f_M_isImmediate (nI 49) v = mchk 49 v := q_bs (f_M_isStep v 0 124 4)
theorem q_mi_50 (v : Int64) : f_M_isImmediate (nI 50) v = mchk 50 v := q_bs (f_M_isStep v 0 124 4)
theorem q_mi_51 (v : Int64) : f_M_isImmediate (nI 51) v = mchk 51 v := q_bs (f_M_isStep v 0 252 4)
theorem q_mi_52 (v : Int64) : f_M_isImmediate (nI 52) v = mchk 52 v := by
  show (if lg_cmp v 0 = 0 then some false else (f_M_isStep v (-32) 31 1).bind fun r => if (bI r) = 0 then (some false) else (some true)) = (if lg_cmp v 0 = 0 then some false else f_M_isStep v (-32) 31 1)
  rw [q_bb]
theorem q_mi_53 (v : Int64) : f_M_isImmediate (nI 53) v = mchk 53 v := q_bs (f_M_isStep v (-2048) 2046 2)
theorem q_mi_54 (v : Int64) : f_M_isImmediate (nI 54) v = mchk 54 v := q_bs (f_M_isStep v (-32) 31 1)
theorem q_mi_55 (v : Int64) : f_M_isImmediate (nI 55) v = mchk 55 v := by
  show (if lg_cmp v 0 = 0 then some false else (f_M_isStep v (-512) 496 16).bind fun r => if (bI r) = 0 then (some false) else (some true)) = (if lg_cmp v 0 = 0 then some false else f_M_isStep v (-512) 496 16)
  rw [q_bb]
theorem q_mi_57 (v : Int64) : f_M_isImmediate (nI 57) v = mchk 57 v := q_bs (f_M_isStep v 1 31 1)
theorem q_mi_58 (v : Int64) : f_M_isImmediate (nI 58) v = mchk 58 v := q_bs (f_M_isStep v 1 31 1)
theorem q_mi_59 (v : Int64) : f_M_isImmediate (nI 59) v = mchk 59 v := q_bs (f_M_isStep v (-32) 31 1)
theorem q_mi_60 (v : Int64) : f_M_isImmediate (nI 60) v = mchk 60 v := q_bs (f_M_isStep v 0 252 4)
theorem q_mi_61 (v : Int64) : f_M_isImmediate (nI 61) v = mchk 61 v := q_bs (f_M_isStep v 0 252 4)
theorem q_mi_62 (v : Int64) : f_M_isImmediate (nI 62) v = mchk 62 v := q_bs (f_M_isStep v 0 252 4)
theorem q_mi_63 (v : Int64) : f_M_isImmediate (nI 63) v = mchk 63 v := q_bs (f_M_isStep v 0 252 4)
theorem q_mi_64 (v : Int64) : f_M_isImmediate (nI 64) v = mchk 64 v := q_bs (f_M_isStep v (-2048) 2046 2)
theorem q_mi_65 (v : Int64) : f_M_isImmediate (nI 65) v = mchk 65 v := q_bs (f_M_isStep v (-256) 254 2)
theorem q_mi_66 (v : Int64) : f_M_isImmediate (nI 66) v = mchk 66 v := q_bs (f_M_isStep v (-256) 254 2)
theorem q_mi_67 (v : Int64) : f_M_isImmediate (nI 67) v = mchk 67 v := q_bs (f_M_isStep v 1 31 1)
theorem q_mi_68 (v : Int64) : f_M_isImmediate (nI 68) v = mchk 68 v := q_bs (f_M_isStep v 0 252 4)
theorem q_mi_69 (v : Int64) : f_M_isImmediate (nI 69) v = mchk 69 v := q_bs (f_M_isStep v 0 252 4)
theorem q_mi_70 (v : Int64) : f_M_isImmediate (nI 70) v = mchk 70 v := q_bs (f_M_isStep v 0 252 4)
theorem q_mi_71 (v : Int64) : f_M_isImmediate (nI 71) v = mchk 71 v := q_bs (f_M_isStep v 0 252 4)
theorem q_mi_72 (v : Int64) : f_M_isImmediate (nI 72) v = mchk 72 v := q_bs (f_M_isStep v 0 252 4)
theorem q_mi_73 (v : Int64) : f_M_isImmediate (nI 73) v = mchk 73 v := q_bs (f_M_isStep v 0 252 4)
theorem q_mi_74 (v : Int64) : f_M_isImmediate (nI 74) v = mchk 74 v := q_bs (f_M_isStep v 0 252 4)
theorem q_mi {i : Nat} (hi : i < 75) (h : i ≠ 56) (v : Int64) : f_M_isImmediate (nI i) v = mchk i v :=
  match i, hi, h with
  | 0, _, _ => q_mi_0 v
  | 1, _, _ => q_mi_1 v
  | 2, _, _ => q_mi_2 v
  | 3, _, _ => q_mi_3 v
  | 4, _, _ => q_mi_4 v
  | 5, _, _ => q_mi_5 v
  | 6, _, _ => q_mi_6 v
  | 7, _, _ => q_mi_7 v
  | 8, _, _ => q_mi_8 v
  | 9, _, _ => q_mi_9 v
  | 10, _, _ => q_mi_10 v
  | 11, _, _ => q_mi_11 v
  | 12, _, _ => q_mi_12 v
  | 13, _, _ => q_mi_13 v
  | 14, _, _ => q_mi_14 v
  | 15, _, _ => q_mi_15 v
  | 16, _, _ => q_mi_16 v
  | 17, _, _ => q_mi_17 v
  | 18, _, _ => q_mi_18 v
  | 19, _, _ => q_mi_19 v
  | 20, _, _ => q_mi_20 v
  | 21, _, _ => q_mi_21 v
  | 22, _, _ => q_mi_22 v
  | 23, _, _ => q_mi_23 v
  | 24, _, _ => q_mi_24 v
  | 25, _, _ => q_mi_25 v
  | 26, _, _ => q_mi_26 v
  | 27, _, _ => q_mi_27 v
  | 28, _, _ => q_mi_28 v
  | 29, _, _ => q_mi_29 v
  | 30, _, _ => q_mi_30 v
  | 31, _, _ => q_mi_31 v
  | 32, _, _ => q_mi_32 v
  | 33, _, _ => q_mi_33 v
  | 34, _, _ => q_mi_34 v
  | 35, _, _ => q_mi_35 v
  | 36, _, _ => q_mi_36 v
  | 37, _, _ => q_mi_37 v
  | 38, _, _ => q_mi_38 v
  | 39, _, _ => q_mi_39 v
  | 40, _, _ => q_mi_40 v
  | 41, _, _ => q_mi_41 v
  | 42, _, _ => q_mi_42 v
  | 43, _, _ => q_mi_43 v
  | 44, _, _ => q_mi_44 v
  | 45, _, _ => q_mi_45 v
  | 46, _, _ => q_mi_46 v
  | 47, _, _ => q_mi_47 v
  | 48, _, _ => q_mi_48 v
  | 49, _, _ => q_mi_49 v
  | 50, _, _ => q_mi_50 v
  | 51, _, _ => q_mi_51 v
  | 52, _, _ => q_mi_52 v
  | 53, _, _ => q_mi_53 v
  | 54, _, _ => q_mi_54 v
  | 55, _, _ => q_mi_55 v
  | 56, _, h => absurd rfl h
  | 57, _, _ => q_mi_57 v
  | 58, _, _ => q_mi_58 v
  | 59, _, _ => q_mi_59 v
  | 60, _, _ => q_mi_60 v
  | 61, _, _ => q_mi_61 v
  | 62, _, _ => q_mi_62 v
  | 63, _, _ => q_mi_63 v
  | 64, _, _ => q_mi_64 v
  | 65, _, _ => q_mi_65 v
  | 66, _, _ => q_mi_66 v
  | 67, _, _ => q_mi_67 v
  | 68, _, _ => q_mi_68 v
  | 69, _, _ => q_mi_69 v
  | 70, _, _ => q_mi_70 v
  | 71, _, _ => q_mi_71 v
  | 72, _, _ => q_mi_72 v
  | 73, _, _ => q_mi_73 v
  | 74, _, _ => q_mi_74 v
  | n + 75, h, _ => absurd h (by omega)
def zs (i j : Nat) : Bool := (k_traits i).toNatClampNeg.testBit j
set_option maxRecDepth 100000 in
theorem zt_is : ∀ i, i < 75 → ∀ j, j < 4 → f_K_is i (nI (2 ^ (5 + j))) = some (zs i (5 + j)) := by decide +kernel
set_option maxRecDepth 100000 in
theorem zt_up : ∀ i, i < 75 → zs i 8 = decide (i = 56) ∧ zs i 7 = decide (i = 74) := by decide +kernel
def c_e (i : Nat) : Int64 := if zs i 5 = true then ju_lshl 1 (k_highestBit i) else ju_lshl 2 (k_highestBit i)
def c_l (i : Nat) : Int64 := if zs i 5 = true then -(c_e i) else 0
theorem q_ca {i : Nat} (hi : i < 75) (h : i ≠ 56) (hz : zh i 3 = true) (v : Int64) : f_K_allowsImmediate i v = if zs i 6 = true then (if lg_cmp v 0 = 0 then some false else cchk v (c_l i) (c_e i) (ju_lshl 1 (k_lowestBit i) - 1)) else cchk v (c_l i) (c_e i) (ju_lshl 1 (k_lowestBit i) - 1) := by
  have h8 : f_K_has i 8 = some true := (zt_has i hi 3 (by omega)).trans (by rw [hz])
  have h5 : f_K_is i 32 = some (zs i 5) := zt_is i hi 0 (by omega)
  have h6 : f_K_is i 64 = some (zs i 6) := zt_is i hi 1 (by omega)
  have h7 : f_K_is i 256 = some false := (zt_is i hi 3 (by omega)).trans (by rw [(zt_up i hi).1, decide_eq_false h])
  have tail : f_K_allowsImmediate_L26 i v = cchk v (c_l i) (c_e i) (ju_lshl 1 (k_lowestBit i) - 1) := by
    unfold f_K_allowsImmediate_L26 f_K_allowsImmediate_L52 f_K_allowsImmediate_L78 f_K_allowsImmediate_L79 f_K_allowsImmediate_L106 f_K_allowsImmediate_L124
    rw [h7, Option.bind_some, if_pos (show bI false = 0 from rfl), Option.bind_some, if_pos (show bI false = 0 from rfl), h5]
    unfold c_l c_e cchk
    cases zs i 5 <;> rfl
  unfold f_K_allowsImmediate
  rw [h8, Option.bind_some, if_neg (show ¬ bI true = 0 by decide), h6, Option.bind_some, tail]
  cases zs i 6 <;> rfl
set_option maxRecDepth 100000 in
theorem zt_im1 : ∀ i, i < 75 → i ≠ 56 → zh i 3 = true → (m_t i = 0 ∨ m_t i = 1 ∨ m_t i = 2 ∨ m_t i = 4) ∧ ju_lshl 1 (k_lowestBit i) - 1 = lN (2 ^ m_t i - 1) := by decide +kernel
set_option maxRecDepth 100000 in
theorem zt_im2 : ∀ i, i < 75 → i ≠ 56 → zh i 3 = true → -2097152 ≤ (m_lo i).toInt ∧ (m_hi i).toInt ≤ 2097152 ∧ (c_e i).toInt = (m_hi i).toInt + 2 ^ m_t i ∧ (m_hi i).toInt % 2 ^ m_t i = 0 := by decide +kernel
set_option maxRecDepth 100000 in
theorem zt_im3 : ∀ i, i < 75 → i ≠ 56 → zh i 3 = true → (zs i 6 = m_nz i ∧ (c_l i).toInt = (m_lo i).toInt) ∨ (zs i 6 = true ∧ m_nz i = false ∧ (c_l i).toInt = 0 ∧ (m_lo i).toInt = 2 ^ m_t i) := by decide +kernel
theorem q_imm {i : Nat} (hi : i < 75) (hz : zh i 3 = true) (h56 : i ≠ 56) (v : Int64) : ∃ b, f_M_isImmediate (nI i) v = some b ∧ f_K_allowsImmediate i v = some b := by
  obtain ⟨h1, h2⟩ := zt_im1 i hi h56 hz
  obtain ⟨h3, h4, h5, h6⟩ := zt_im2 i hi h56 hz
  have h7 := zt_im3 i hi h56 hz
  rw [q_mi hi h56, q_ca hi h56 hz, h2]
  unfold mchk
  rw [q_step h1 h3 h4, q_cchk h1]
  have ev : lg_cmp v 0 = 0 ↔ v.toInt = 0 := ⟨fun h => by rw [(lg_cmp_eq v 0).mp h]; rfl, fun h => (lg_cmp_eq v 0).mpr (Int64.toInt_inj.mp h)⟩
  generalize m_t i = t at h1 h5 h6 h7 ⊢
  have core : (decide ((c_l i).toInt ≤ v.toInt ∧ v.toInt < (c_e i).toInt ∧ v.toInt % 2 ^ t = 0)) = decide ((c_l i).toInt ≤ v.toInt ∧ v.toInt ≤ (m_hi i).toInt ∧ v.toInt % 2 ^ t = 0) := decide_eq_decide.mpr (by
    rcases h1 with e | e | e | e <;> subst e <;> omega)
  rcases h7 with ⟨g1, g2⟩ | ⟨g1, g2, g3, g4⟩
  · rw [core, g1, g2]
    by_cases a : m_nz i = true
    · rw [if_pos a]
      by_cases b : lg_cmp v 0 = 0
      · rw [if_pos b]; exact ⟨_, rfl, rfl⟩
      · rw [if_neg b]; exact ⟨_, rfl, rfl⟩
    · rw [if_neg a]; exact ⟨_, rfl, rfl⟩
  · rw [g1, g2, if_pos rfl, if_neg (by decide)]
    by_cases b : lg_cmp v 0 = 0
    · rw [if_pos b]
      refine ⟨false, ?_, rfl⟩
      have := ev.mp b
      rw [decide_eq_false (by rw [g4, this]; rcases h1 with e | e | e | e <;> subst e <;> omega)]
    · rw [if_neg b, core]
      refine ⟨_, rfl, ?_⟩
      have b2 : ¬ v.toInt = 0 := fun z => b (ev.mpr z)
      congr 1
      apply decide_eq_decide.mpr
      rw [g3, g4]
      rcases h1 with e | e | e | e <;> subst e <;> omega
