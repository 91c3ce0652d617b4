/-! which registers and immediates may be; a word's parts; the kind of a word -/
theorem q_mi56 (v : Int64) : f_M_isImmediate (nI 56) v = (f_M_isStep v 1 31 (lN (2 ^ 0))).bind fun r => if (bI r) = 0 then ((f_M_isStep v 1048544 1048575 (lN (2 ^ 0))).bind fun r => if (bI r) = 0 then (some false) else (some true)) else (some true) := rfl
theorem q_imm56 (v : Int64) : ∃ b, f_M_isImmediate (nI 56) v = some b ∧ f_K_allowsImmediate 56 v = some b := by
  have h8 : f_K_has 56 8 = some true := by decide +kernel
  have h6 : f_K_is 56 64 = some true := by decide +kernel
  have h7 : f_K_is 56 256 = some true := by decide +kernel
  have h5 : f_K_is 56 32 = some true := by decide +kernel
  have hb : ju_lshl 1 (k_highestBit 56) = 32 := by decide +kernel
  have lo : ju_lshl 1 (k_lowestBit 56) - 1 = lN (2 ^ 0 - 1) := by decide +kernel
  have nt : ¬ bI true = 0 := by decide
  have tail : ∀ p : Int64, f_K_allowsImmediate_L79 56 v p = some (decide (-32 ≤ p.toInt ∧ p.toInt < 32)) := by
    intro p
    unfold f_K_allowsImmediate_L79 f_K_allowsImmediate_L106
    rw [h5, Option.bind_some, if_neg nt, Option.bind_some, if_neg nt, hb]
    unfold f_K_allowsImmediate_L124
    rw [lo]
    refine (q_cchk (v := p) (l := -32) (e := 32) (t := 0) (Or.inl rfl)).trans ?_
    congr 1
    apply decide_eq_decide.mpr
    rw [show (-32 : Int64).toInt = -32 from by decide, show (32 : Int64).toInt = 32 from by decide]
    omega
  have k1 : decide ((1 : Int64).toInt ≤ v.toInt ∧ v.toInt ≤ (31 : Int64).toInt ∧ v.toInt % 2 ^ 0 = 0) = decide (1 ≤ v.toInt ∧ v.toInt ≤ 31) := decide_eq_decide.mpr (by
    rw [show (1 : Int64).toInt = 1 from by decide, show (31 : Int64).toInt = 31 from by decide]; omega)
  have k2 : decide ((1048544 : Int64).toInt ≤ v.toInt ∧ v.toInt ≤ (1048575 : Int64).toInt ∧ v.toInt % 2 ^ 0 = 0) = decide (1048544 ≤ v.toInt ∧ v.toInt ≤ 1048575) := decide_eq_decide.mpr (by
    rw [show (1048544 : Int64).toInt = 1048544 from by decide, show (1048575 : Int64).toInt = 1048575 from by decide]; omega)
  refine ⟨(decide (1 ≤ v.toInt ∧ v.toInt ≤ 31) || decide (1048544 ≤ v.toInt ∧ v.toInt ≤ 1048575)), ?_, ?_⟩
  · rw [q_mi56, q_step (Or.inl rfl) (by decide) (by decide), q_step (Or.inl rfl) (by decide) (by decide), k1, k2, Option.bind_some, Option.bind_some]
    cases decide (1 ≤ v.toInt ∧ v.toInt ≤ 31) <;> cases decide (1048544 ≤ v.toInt ∧ v.toInt ≤ 1048575) <;> rfl
  · unfold f_K_allowsImmediate f_K_allowsImmediate_L26 f_K_allowsImmediate_L52 f_K_allowsImmediate_L78
    rw [h8, Option.bind_some, if_neg nt, h6, Option.bind_some, if_neg nt, h7, Option.bind_some, if_neg nt, Option.bind_some, if_neg nt]
    have ez : lg_cmp v 0 = 0 ↔ v.toInt = 0 := (lg_cmp_eq v 0).trans ⟨fun h => by rw [h]; rfl, fun h => Int64.toInt_inj.mp h⟩
    have ea : lg_cmp v 0 < 0 ↔ v.toInt < 0 := (lg_cmp_lt v 0).trans (by rw [Int64.lt_iff_toInt_lt, show (0 : Int64).toInt = 0 from by decide])
    have eb : lg_cmp v 1048576 < 0 ↔ v.toInt < 1048576 := (lg_cmp_lt v 1048576).trans (by rw [Int64.lt_iff_toInt_lt, show (1048576 : Int64).toInt = 1048576 from by decide])
    have ec : lg_cmp v 524288 < 0 ↔ v.toInt < 524288 := (lg_cmp_lt v 524288).trans (by rw [Int64.lt_iff_toInt_lt, show (524288 : Int64).toInt = 524288 from by decide])
    rw [tail, tail]
    by_cases c0 : v.toInt = 0
    · rw [if_pos (ez.mpr c0), decide_eq_false (by omega), decide_eq_false (by omega)]; rfl
    · rw [if_neg (fun z => c0 (ez.mp z))]
      by_cases c1 : v.toInt < 0
      · rw [if_pos (ea.mpr c1), decide_eq_false (by omega), decide_eq_false (by omega)]; rfl
      · rw [if_neg (fun z => c1 (ea.mp z))]
        by_cases c2 : v.toInt < 1048576
        · rw [if_pos (eb.mpr c2)]
          by_cases c3 : v.toInt < 524288
          · rw [if_pos (ec.mpr c3), decide_eq_false (show ¬ (1048544 ≤ v.toInt ∧ v.toInt ≤ 1048575) by omega), Bool.or_false]
            congr 1
            exact decide_eq_decide.mpr (by omega)
          · rw [if_neg (fun z => c3 (ec.mp z)), decide_eq_false (show ¬ (1 ≤ v.toInt ∧ v.toInt ≤ 31) by omega), Bool.false_or]
            have es : (v - 1048576).toInt = v.toInt - 1048576 := by
              rw [Int64.toInt_sub, show (1048576 : Int64).toInt = 1048576 from by decide]
              simp only [Int.bmod]; split <;> omega
            congr 1
            exact decide_eq_decide.mpr (by rw [es]; omega)
        · rw [if_neg (fun z => c2 (eb.mp z)), decide_eq_false (by omega), decide_eq_false (by omega)]; rfl
def imk (i : Nat) (v : Int64) : Bool := (f_K_allowsImmediate i v).getD false
theorem q_immA {i : Nat} (hi : i < 75) (hz : zh i 3 = true) (v : Int64) : f_M_isImmediate (nI i) v = some (imk i v) ∧ f_K_allowsImmediate i v = some (imk i v) := by
  have : ∃ b, f_M_isImmediate (nI i) v = some b ∧ f_K_allowsImmediate i v = some b := by
    by_cases h : i = 56
    · subst h; exact q_imm56 v
    · exact q_imm hi hz h v
  obtain ⟨b, h1, h2⟩ := this
  unfold imk
  rw [h1, h2]; exact ⟨rfl, rfl⟩
set_option maxRecDepth 100000 in
theorem zt_ni : ∀ i, i < 75 → (nI i < 48 ↔ i < 48) ∧ (nI i = 74 ↔ i = 74) ∧ (nI i = 56 ↔ i = 56) ∧ (nI (zB i) = 32 ↔ i < 48) := by decide +kernel
theorem q_ri (r : Int32) : (r < 0 ↔ r.toInt < 0) ∧ (r ≤ 31 ↔ r.toInt ≤ 31) ∧ (r = 0 ↔ r.toInt = 0) ∧ (r = 2 ↔ r.toInt = 2) ∧ (r < 8 ↔ r.toInt < 8) ∧ (16 ≤ r ↔ 16 ≤ r.toInt) ∧ (15 < r ↔ 15 < r.toInt) ∧ (31 < r ↔ 31 < r.toInt) ∧ (r ≤ 0 ↔ r.toInt ≤ 0) := by
  refine ⟨?_, ?_, ?_, ?_, ?_, ?_, ?_, ?_, ?_⟩
  · rw [Int32.lt_iff_toInt_lt, show (0 : Int32).toInt = 0 from by decide]
  · rw [Int32.le_iff_toInt_le, show (31 : Int32).toInt = 31 from by decide]
  · exact ⟨fun h => by rw [h]; rfl, fun h => Int32.toInt_inj.mp h⟩
  · exact ⟨fun h => by rw [h]; rfl, fun h => Int32.toInt_inj.mp h⟩
  · rw [Int32.lt_iff_toInt_lt, show (8 : Int32).toInt = 8 from by decide]
  · rw [Int32.le_iff_toInt_le, show (16 : Int32).toInt = 16 from by decide]
  · rw [Int32.lt_iff_toInt_lt, show (15 : Int32).toInt = 15 from by decide]
  · rw [Int32.lt_iff_toInt_lt, show (31 : Int32).toInt = 31 from by decide]
  · rw [Int32.le_iff_toInt_le, show (0 : Int32).toInt = 0 from by decide]
theorem q_bI0 (b : Bool) : (bI b = 0) ↔ b = false := by cases b <;> decide
def rok (i j : Nat) (r : Int32) : Bool :=
  if zn i j = true then decide (8 ≤ r.toInt ∧ r.toInt ≤ 15) else decide (0 ≤ r.toInt ∧ r.toInt ≤ 31 ∧ (r.toInt = 0 → i < 48 ∨ i = 74) ∧ (r.toInt = 2 → i ≠ 56))
theorem q_mreg {i j : Nat} (hi : i < 75) (hj : j < 3) (hz : zh i j = true) (th : Int32) (pf of : Nat → Int32) (sz bg r : Int32) : f_M_isRegister th pf of sz bg (nI i) (nI j) r = some (rok i j r) := by
  obtain ⟨n1, n2, n3, n4⟩ := zt_ni i hi
  obtain ⟨e0, e1, e2, e3, e4, e5, e6, e7, e8⟩ := q_ri r
  unfold f_M_isRegister rok
  rw [zt_mshort hi hj, hz, Bool.true_and, Option.bind_some]
  simp only [n1, n2, n3, e0, e1, e2, e3, e4, e5]
  cases zn i j with
  | true =>
    rw [if_neg (show ¬ bI true = 0 by decide), if_pos (show true = true from rfl)]
    (repeat' split) <;> (congr 1; symm; first | (apply decide_eq_true; omega) | (apply decide_eq_false; omega))
  | false =>
    rw [if_pos (show bI false = 0 from rfl), if_neg (show ¬ (false = true) by decide)]
    (repeat' split) <;> (congr 1; symm; first | (apply decide_eq_true; omega) | (apply decide_eq_false; omega))
def rk (i j : Nat) (r : Int32) : Bool := if zh i j = true then rok i j r else true
theorem q_creg {i j : Nat} (hi : i < 75) (hj : j < 3) (r : Int32) : f_K_allowsRegister i (nI (2 ^ j)) r = some (rk i j r) := by
  obtain ⟨n1, n2, n3, n4⟩ := zt_ni i hi
  obtain ⟨e0, e1, e2, e3, e4, e5, e6, e7, e8⟩ := q_ri r
  have h7 : f_K_is i 128 = some (decide (i = 74)) := (zt_is i hi 2 (by omega)).trans (by rw [(zt_up i hi).2])
  have h8 : f_K_is i 256 = some (decide (i = 56)) := (zt_is i hi 3 (by omega)).trans (by rw [(zt_up i hi).1])
  unfold f_K_allowsRegister rk
  rw [zt_has i hi j (by omega), Option.bind_some]
  cases hz : zh i j with
  | false => rw [if_pos (show bI false = 0 from rfl), if_neg (show ¬ (false = true) by decide)]
  | true =>
    obtain ⟨g1, g2⟩ := zt_reg i hi j hj hz
    rw [if_neg (show ¬ bI true = 0 by decide), g1, Option.bind_some, zt_slen i hi, h7, h8, if_pos (show true = true from rfl)]
    unfold rok
    simp only [Option.bind_some, q_bI0, n4, e1, e2, e3, e4, e6, e7, e8, decide_eq_false_iff_not]
    cases zn i j with
    | true =>
      rw [if_neg (show ¬ (true = false) by decide), if_pos (show true = true from rfl)]
      (repeat' split) <;> (congr 1; symm; first | (apply decide_eq_true; omega) | (apply decide_eq_false; omega))
    | false =>
      rw [if_pos (show false = false from rfl), if_neg (show ¬ (false = true) by decide)]
      (repeat' split) <;> (congr 1; symm; first | (apply decide_eq_true; omega) | (apply decide_eq_false; omega))
def gd (i : Nat) (d a b im : Int32) : Bool := rk i 0 d && rk i 1 a && rk i 2 b && (!zh i 3 || imk i im.toInt64)
theorem q_allows {i : Nat} (hi : i < 75) (d a b im : Int32) : f_K_allows i d a b im = some (gd i d a b im) := by
  unfold f_K_allows gd
  rw [show f_K_allowsRegister i 1 d = some (rk i 0 d) from q_creg hi (j := 0) (by omega) d, show f_K_allowsRegister i 2 a = some (rk i 1 a) from q_creg hi (j := 1) (by omega) a, show f_K_allowsRegister i 4 b = some (rk i 2 b) from q_creg hi (j := 2) (by omega) b, show f_K_has i 8 = some (zh i 3) from zt_has i hi 3 (by omega)]
  simp only [Option.bind_some]
  cases rk i 0 d
  · rfl
  cases rk i 1 a
  · rfl
  cases rk i 2 b
  · rfl
  cases hz : zh i 3
  · rfl
  rw [(q_immA hi hz _).2]
  cases imk i im.toInt64 <;> rfl
theorem q_ag_s {i : Nat} (hi : i < 75) (th : Int32) (pf of : Nat → Int32) (sz bg : Int32) {j : Nat} (hj : j < 3) (n : Nat) : f_M_areGood_L2 th pf of sz bg (nI i) (n + 1) (nI j) = if rk i j (pf j) = true then f_M_areGood_L2 th pf of sz bg (nI i) n (nI (j + 1)) else some false := by
  rw [f_M_areGood_L2, if_neg (show ¬ (3 : Int32) ≤ nI j from nI_ge (b := 3) hj (by decide)), zt_mhas hi (by omega), Option.bind_some]
  unfold rk
  cases hz : zh i j with
  | false => rw [if_pos (show bI false = 0 from rfl), nI_1, if_neg (show ¬ (false = true) by decide), if_pos (show true = true from rfl)]
  | true =>
    rw [if_neg (show ¬ bI true = 0 by decide), if_neg (nI_in (N := 4) (by omega) (by omega)), nI_clamp (by omega), q_mreg hi hj hz, Option.bind_some, nI_1, if_pos (show true = true from rfl)]
    cases rok i j (pf j) <;> rfl
theorem q_ag_e {i : Nat} (hi : i < 75) (th : Int32) (pf of : Nat → Int32) (sz bg : Int32) (n : Nat) : f_M_areGood_L2 th pf of sz bg (nI i) (n + 1) (nI 3) = some (!zh i 3 || imk i (pf 3).toInt64) := by
  rw [f_M_areGood_L2, if_pos (show (3 : Int32) ≤ nI 3 from nI_le (a := 3) (Nat.le_refl 3) (by decide)), show f_M_has th pf of sz bg (nI i) 3 = some (zh i 3) from zt_mhas hi (j := 3) (by omega) th pf of sz bg, Option.bind_some]
  cases hz : zh i 3 with
  | false => rfl
  | true =>
    rw [if_neg (show ¬ bI true = 0 by decide), if_neg (show ¬ ((3 : Int32) < 0 ∨ 4 ≤ (3 : Int32).toNatClampNeg) by decide), show (3 : Int32).toNatClampNeg = 3 from by decide, (q_immA hi hz _).1, Option.bind_some]
    cases imk i (pf 3).toInt64 <;> rfl
theorem q_good {i : Nat} (hi : i < 75) (th : Int32) (pf of : Nat → Int32) (sz bg : Int32) : f_M_areGood th pf of sz bg (nI i) = some (gd i (pf 0) (pf 1) (pf 2) (pf 3)) := by
  have s0 : f_M_areGood th pf of sz bg (nI i) = if rk i 0 (pf 0) = true then f_M_areGood_L2 th pf of sz bg (nI i) 79 (nI 1) else some false := q_ag_s hi th pf of sz bg (j := 0) (by omega) 79
  have s1 : f_M_areGood_L2 th pf of sz bg (nI i) 79 (nI 1) = if rk i 1 (pf 1) = true then f_M_areGood_L2 th pf of sz bg (nI i) 78 (nI 2) else some false := q_ag_s hi th pf of sz bg (j := 1) (by omega) 78
  have s2 : f_M_areGood_L2 th pf of sz bg (nI i) 78 (nI 2) = if rk i 2 (pf 2) = true then f_M_areGood_L2 th pf of sz bg (nI i) 77 (nI 3) else some false := q_ag_s hi th pf of sz bg (j := 2) (by omega) 77
  have s3 : f_M_areGood_L2 th pf of sz bg (nI i) 77 (nI 3) = some (!zh i 3 || imk i (pf 3).toInt64) := q_ag_e hi th pf of sz bg 76
  rw [s0, s1, s2, s3]
  unfold gd
  cases rk i 0 (pf 0)
  · rfl
  cases rk i 1 (pf 1)
  · rfl
  cases rk i 2 (pf 2)
  · rfl
  rfl
/-! the class's registers and immediate of a word, by bits -/
def zb (i j : Nat) : Int32 := if j < 3 ∧ zh i j = true ∧ zn i j = true then 8 else 0
theorem q_reg {i j : Nat} (hi : i < 75) (hj : j < 3) (w : Int32) : ∃ F, f_K_register i w (nI (2 ^ j)) = some (zb i j + F) ∧ ∀ e, e < 32 → bt F e = bt w (pz i j e) := by
  unfold f_K_register
  rw [zt_has i hi j (by omega), Option.bind_some]
  cases hz : zh i j with
  | false =>
    refine ⟨0, ?_, ?_⟩
    · rw [if_pos (show bI false = 0 from rfl), show zb i j = 0 from if_neg (fun z => Bool.noConfusion (hz.symm.trans z.2.1))]; rfl
    · intro e he
      rw [b_0, zt_nreg i hi j (by omega) hz e he, b_big (by omega)]
  | true =>
    obtain ⟨e1, e2, e3, e4⟩ := zt_reg i hi j hj hz
    rw [if_neg (show ¬ bI true = 0 by decide), e2, Option.bind_some, e1, Option.bind_some]
    cases hn : zn i j with
    | false =>
      rw [hn] at e4
      have e5 : ∀ e, e < 32 → pz i j e = if e < 5 then pz i j 0 + e else 99 := by simpa using e4
      refine ⟨(ju_ushr w (nI (pz i j 0))) &&& 31, ?_, ?_⟩
      · rw [if_pos (show bI false = 0 from rfl), show zb i j = 0 from if_neg (fun z => Bool.noConfusion (hn.symm.trans z.2.2)), Int32.zero_add]
      · intro e he
        rw [b_and, b_31, b_jush _ (by omega), e5 e he]
        by_cases h : e < 5
        · rw [decide_eq_true h, Bool.and_true, if_pos h]
        · rw [decide_eq_false h, Bool.and_false, if_neg h, b_big (by omega)]
    | true =>
      rw [hn] at e4
      have e5 : ∀ e, e < 32 → pz i j e = if e < 3 then pz i j 0 + e else 99 := by simpa using e4
      refine ⟨(ju_ushr w (nI (pz i j 0))) &&& 7, ?_, ?_⟩
      · rw [if_neg (show ¬ bI true = 0 by decide), show zb i j = 8 from if_pos ⟨hj, hz, hn⟩]
      · intro e he
        rw [b_and, b_7, b_jush _ (by omega), e5 e he]
        by_cases h : e < 3
        · rw [decide_eq_true h, Bool.and_true, if_pos h]
        · rw [decide_eq_false h, Bool.and_false, if_neg h, b_big (by omega)]
theorem q_bit0 {n : Nat} (hn : n < 32) (x : Int32) : ((x >>> (nI n &&& 31)) &&& 1 = 0) ↔ bt x n = false := by
  constructor
  · intro h
    have e := b_one n hn x (i := 0) (by omega)
    rw [h, b_0, decide_eq_true rfl, Bool.true_and] at e
    exact e.symm
  · intro h
    apply b_ext
    intro i hi
    rw [b_one n hn x hi, h, Bool.and_false, b_0]
def sx (i : Nat) (V : Int32) : Int32 := if zs i 5 = true ∧ bt V (zhb i) = true then V - ((2 : Int32) <<< (nI (zhb i) &&& 31)) else V
def fx (i : Nat) (V : Int32) : Int32 := if i = 56 then sx i V &&& 1048575 else sx i V
theorem q_im_e {i : Nat} (hi : i < 75) (w V : Int32) (n : Nat) : f_K_immediate_L15 i w (n + 1) V (nI (zB i)) = some (fx i V) := by
  have hB := q_zB i
  obtain ⟨b1, b2, b3⟩ := zt_hb i hi
  have h8 : f_K_is i 256 = some (decide (i = 56)) := (zt_is i hi 3 (by omega)).trans (by rw [(zt_up i hi).1])
  rw [f_K_immediate_L15, zt_slen i hi, Option.bind_some, if_pos (nI_le (Nat.le_refl _) (by omega)), show f_K_is i 32 = some (zs i 5) from zt_is i hi 0 (by omega), Option.bind_some, b1]
  have L : ∀ y : Int32, f_K_immediate_L105 i w y (nI (zB i)) = some (if i = 56 then y &&& 1048575 else y) := by
    intro y
    unfold f_K_immediate_L105
    rw [h8, Option.bind_some]
    by_cases h : i = 56
    · rw [decide_eq_true h, if_neg (show ¬ bI true = 0 by decide), if_pos h]
    · rw [decide_eq_false h, if_pos (show bI false = 0 from rfl), if_neg h]
  rw [L, L]
  unfold fx
  cases hz5 : zs i 5 with
  | false => rw [if_pos (show bI false = 0 from rfl), show sx i V = V from if_neg (fun z => Bool.noConfusion (hz5.symm.trans z.1))]
  | true =>
    rw [if_neg (show ¬ bI true = 0 by decide)]
    by_cases h : bt V (zhb i) = true
    · rw [if_neg (fun z => by rw [(q_bit0 (by omega) V).mp z] at h; exact Bool.noConfusion h), show sx i V = V - ((2 : Int32) <<< (nI (zhb i) &&& 31)) from if_pos ⟨hz5, h⟩]
    · rw [if_pos ((q_bit0 (by omega) V).mpr (Bool.eq_false_iff.mpr h)), show sx i V = V from if_neg (fun z => h z.2)]
theorem q_im_L {i : Nat} (hi : i < 75) (w : Int32) : ∀ (n q : Nat) (acc : Int32), q ≤ zB i → zB i < q + n → ∃ V, f_K_immediate_L15 i w n acc (nI q) = some (fx i V) ∧ ∀ e, e < 32 → bt V e = (bt acc e || (decide (pz i 3 e + q < zB i) && bt w (pz i 3 e))) := by
  intro n
  have hB := q_zB i
  induction n with
  | zero => intro k acc h1 h2; omega
  | succ n ih =>
    intro q acc h1 h2
    by_cases hk : q = zB i
    · subst hk
      refine ⟨acc, q_im_e hi w acc n, ?_⟩
      intro e he
      rw [decide_eq_false (by omega), Bool.false_and, Bool.or_false]
    · have hk2 : q < zB i := by omega
      have e1 : zB i - 1 - (zB i - 1 - q) = q := by omega
      have hl := zt_lay i hi (zB i - 1 - q) (by omega)
      rw [e1] at hl
      rw [f_K_immediate_L15, zt_slen i hi, Option.bind_some, if_neg (nI_ge hk2 (by omega)), hl, Option.bind_some]
      have hs : ((nI (zB i) - 1) - nI q : Int32) = nI (zB i - 1 - q) := by
        rw [show (nI (zB i) - 1 : Int32) = nI (zB i - 1) from pk_sub (b := 1) (by omega)]
        exact pk_sub (by omega)
      have hv := zt_inv i hi 3 (by omega)
      by_cases hc : 400 ≤ cz i (zB i - 1 - q) ∧ cz i (zB i - 1 - q) < 500
      · obtain ⟨l1, l2⟩ := zt_letI i hi (zB i - 1 - q) (by omega) hc
        rw [l1, Option.bind_some, if_pos rfl, Option.bind_some, l2, hs]
        have hce := (zt_cod3 i hi (zB i - 1 - q) (by omega) (by omega)).1
        obtain ⟨V, hV, hb⟩ := ih (q + 1) (acc ||| (((ju_ushr w (nI (zB i - 1 - q))) &&& 1) <<< (nI (ce (cz i (zB i - 1 - q))) &&& 31))) (by omega) (by omega)
        refine ⟨V, by rw [nI_1]; exact hV, ?_⟩
        intro e he
        rw [hb e he, b_or, b_oneL (b := bt w (zB i - 1 - q)) _ (by omega) (fun j hj => b_oneU _ (by omega) _) he]
        have hw := (q_cw3 (zt_cod2 i hi (zB i - 1 - q) (by omega))).mpr hc
        have hp := (zt_pos i hi (zB i - 1 - q) (by omega) hw.1).2
        rw [hw.2] at hp
        by_cases ee : e = ce (cz i (zB i - 1 - q))
        · rw [← ee] at hp
          rw [decide_eq_true ee, hp, decide_eq_false (show ¬ (zB i - 1 - q + (q + 1) < zB i) by omega), decide_eq_true (show zB i - 1 - q + q < zB i by omega)]
          simp
        · rw [decide_eq_false ee]
          have : decide (pz i 3 e + (q + 1) < zB i) = decide (pz i 3 e + q < zB i) := decide_eq_decide.mpr (by
            constructor
            · intro z; omega
            · intro z
              rcases Nat.lt_or_ge (pz i 3 e + (q + 1)) (zB i) with g | g
              · exact g
              · exfalso
                have e9 : pz i 3 e = zB i - 1 - q := by omega
                rcases hv e he with h5 | ⟨h5, h6, h7, h8⟩
                · omega
                · rw [e9] at h8; exact ee h8.symm)
          rw [this]; simp
      · obtain ⟨V, hV, hb⟩ := ih (q + 1) acc (by omega) (by omega)
        refine ⟨V, ?_, ?_⟩
        · rw [nI_1]
          rcases zt_letN i hi (zB i - 1 - q) (by omega) hc with l | l | l | l <;> (rw [l, Option.bind_some, if_neg (by decide)]; exact hV)
        · intro e he
          rw [hb e he]
          have : decide (pz i 3 e + (q + 1) < zB i) = decide (pz i 3 e + q < zB i) := decide_eq_decide.mpr (by
            constructor
            · intro z; omega
            · intro z
              rcases Nat.lt_or_ge (pz i 3 e + (q + 1)) (zB i) with g | g
              · exact g
              · exfalso
                have e9 : pz i 3 e = zB i - 1 - q := by omega
                rcases hv e he with h5 | ⟨h5, h6, h7, h8⟩
                · omega
                · rw [e9] at h6 h7; exact hc ((q_cw3 (zt_cod2 i hi (zB i - 1 - q) (by omega))).mp ⟨h6, h7⟩))
          rw [this]
theorem q_im {i : Nat} (hi : i < 75) (w : Int32) : ∃ V, f_K_immediate i w = some (fx i V) ∧ ∀ e, e < 32 → bt V e = bt w (pz i 3 e) := by
  have hB := q_zB i
  unfold f_K_immediate
  rw [show f_K_has i 8 = some (zh i 3) from zt_has i hi 3 (by omega), Option.bind_some]
  cases hz : zh i 3 with
  | false =>
    refine ⟨0, ?_, fun e he => ?_⟩
    · rw [if_pos (show bI false = 0 from rfl)]
      have : sx i 0 = 0 := if_neg (fun z => Bool.noConfusion ((b_0 _).symm.trans z.2))
      unfold fx; rw [this]; split <;> first | rfl | decide
    · rw [b_0, zt_nreg i hi 3 (by omega) hz e he, b_big (by omega)]
  | true =>
    rw [if_neg (show ¬ bI true = 0 by decide)]
    obtain ⟨V, h, hb⟩ := q_im_L hi w 40 0 0 (by omega) (by omega)
    refine ⟨V, h, fun e he => ?_⟩
    rw [hb e he, b_0, Bool.false_or]
    rcases zt_inv i hi 3 (by omega) e he with h5 | h5
    · rw [h5, b_big (show 32 ≤ 99 by omega), Bool.and_false]
    · rw [decide_eq_true (by omega), Bool.true_and]
set_option maxRecDepth 100000 in
theorem zt_two : ∀ h, h < 21 → ∀ e, e < 32 → bt (-((2 : Int32) <<< (nI h &&& 31))) e = decide (h < e) := by decide +kernel
theorem q_sx {V : Int32} {h : Nat} (hh : h < 21) (hV : ∀ e, e < 32 → h < e → bt V e = false) : ((V <<< ((31 - nI h) &&& 31)) >>> ((31 - nI h) &&& 31)) = if bt V h = true then V - ((2 : Int32) <<< (nI h &&& 31)) else V := by
  rw [show (31 - nI h : Int32) = nI (31 - h) from pk_sub (a := 31) (by omega)]
  have lhs : ∀ e, e < 32 → bt ((V <<< (nI (31 - h) &&& 31)) >>> (nI (31 - h) &&& 31)) e = if e ≤ h then bt V e else bt V h := by
    intro e he
    rw [b_sshr _ (by omega) _ he]
    by_cases c : e ≤ h
    · rw [if_pos (by omega), if_pos c, b_shl _ (by omega) _ (by omega), decide_eq_true (by omega), Bool.true_and, show 31 - h + e - (31 - h) = e by omega]
    · rw [if_neg (by omega), if_neg c, b_shl _ (by omega) _ (by omega), decide_eq_true (by omega), Bool.true_and, show 31 - (31 - h) = h by omega]
  by_cases c : bt V h = true
  · rw [if_pos c, Int32.sub_eq_add_neg, b_addor (fun e he => by
      rw [zt_two h hh e he]
      by_cases g : h < e
      · rw [hV e he g, Bool.false_and]
      · rw [decide_eq_false g, Bool.and_false])]
    apply b_ext
    intro e he
    rw [lhs e he, b_or, zt_two h hh e he]
    by_cases g : e ≤ h
    · rw [if_pos g, decide_eq_false (by omega), Bool.or_false]
    · rw [if_neg g, decide_eq_true (by omega), Bool.or_true, c]
  · rw [if_neg c]
    apply b_ext
    intro e he
    rw [lhs e he]
    by_cases g : e ≤ h
    · rw [if_pos g]
    · rw [if_neg g, hV e he (by omega)]; exact Bool.eq_false_iff.mpr c
set_option maxRecDepth 100000 in
theorem zt_sign : ∀ i, i < 75 → (f_M_signOf (nI i) = some (-1) ∧ (zs i 5 = false ∨ zh i 3 = false)) ∨ (f_M_signOf (nI i) = some (nI (zhb i)) ∧ zs i 5 = true ∧ zh i 3 = true) ∨ (zh i 3 = false ∧ f_M_signOf (nI i) = some 11) := by decide +kernel
/-! the reference's taking apart -/
def tkI (i : Nat) (wd : Int32) (k : Nat) (pf : Nat → Int32) : Prop := ∀ w, w < 4 → ∃ F, pf w = zb i w + F ∧ ∀ e, e < 32 → bt F e = (decide (pz i w e < k) && bt wd (pz i w e))
def dcd (i : Nat) (wd : Int32) (pf : Nat → Int32) : Prop := (∀ j, j < 3 → f_K_register i wd (nI (2 ^ j)) = some (pf j)) ∧ f_K_immediate i wd = some (pf 3)
theorem q_tk_same {i : Nat} (hi : i < 75) {wd : Int32} {k : Nat} {pf : Nat → Int32} (hk : k < 32) (hc : cz i k < 2) (h : tkI i wd k pf) : tkI i wd (k + 1) pf := by
  intro w hw
  obtain ⟨F, hF, hb⟩ := h w hw
  refine ⟨F, hF, fun e he => ?_⟩
  rw [hb e he]
  have : decide (pz i w e < k) = decide (pz i w e < k + 1) := decide_eq_decide.mpr (by
    rcases zt_inv i hi w hw e he with h5 | ⟨h5, h6, h7, h8⟩
    · omega
    · have : pz i w e ≠ k := fun z => by rw [z] at h6; omega
      omega)
  rw [this]
theorem q_tk_up {i : Nat} (hi : i < 75) {wd : Int32} {k : Nat} (hk : k < 32) {pf : Nat → Int32} (hc : 2 ≤ cz i k) (h : tkI i wd k pf) : tkI i wd (k + 1) (upd pf (cw (cz i k)) (pf (cw (cz i k)) + (((wd >>> (nI k &&& 31)) &&& 1) <<< (nI (ce (cz i k)) &&& 31)))) := by
  have hp := (zt_pos i hi k hk hc).2
  have hce := (zt_cod3 i hi k hk hc).1
  intro w hw
  obtain ⟨F, hF, hb⟩ := h w hw
  by_cases ew : w = cw (cz i k)
  · have bX : ∀ e, e < 32 → bt (((wd >>> (nI k &&& 31)) &&& 1) <<< (nI (ce (cz i k)) &&& 31)) e = (decide (e = ce (cz i k)) && bt wd k) := fun e he => b_oneL _ (by omega) (fun j hj => b_one _ hk _ hj) he
    rw [← ew] at hp ⊢
    have dis : ∀ e, e < 32 → (bt F e && bt (((wd >>> (nI k &&& 31)) &&& 1) <<< (nI (ce (cz i k)) &&& 31)) e) = false := by
      intro e he
      rw [hb e he, bX e he]
      by_cases ee : e = ce (cz i k)
      · rw [ee, hp, decide_eq_false (Nat.lt_irrefl k)]; simp
      · rw [decide_eq_false ee]; simp
    refine ⟨F ||| (((wd >>> (nI k &&& 31)) &&& 1) <<< (nI (ce (cz i k)) &&& 31)), ?_, ?_⟩
    · rw [show ∀ v : Int32, upd pf w v w = v from fun v => if_pos rfl, hF, Int32.add_assoc, b_addor dis]
    · intro e he
      rw [b_or, hb e he, bX e he]
      by_cases ee : e = ce (cz i k)
      · rw [ee, hp, decide_eq_false (Nat.lt_irrefl k), decide_eq_true (Nat.lt_succ_self k)]; simp
      · rw [decide_eq_false ee, Bool.false_and, Bool.or_false]
        have : decide (pz i w e < k) = decide (pz i w e < k + 1) := decide_eq_decide.mpr (by
          rcases zt_inv i hi w hw e he with h5 | ⟨h5, h6, h7, h8⟩
          · omega
          · have : pz i w e ≠ k := fun z => by rw [z] at h8; exact ee h8.symm
            omega)
        rw [this]
  · refine ⟨F, ?_, fun e he => ?_⟩
    · rw [← hF]; exact if_neg ew
    · rw [hb e he]
      have : decide (pz i w e < k) = decide (pz i w e < k + 1) := decide_eq_decide.mpr (by
        rcases zt_inv i hi w hw e he with h5 | ⟨h5, h6, h7, h8⟩
        · omega
        · have : pz i w e ≠ k := fun z => by rw [z] at h7; exact ew h7.symm
          omega)
      rw [this]
theorem q_189 {i : Nat} (hi : i < 75) (t0 : Int32) (p0 o0 : Nat → Int32) (s0 g0 wd x th : Int32) (pf of : Nat → Int32) (sz bg : Int32) : ∃ p, p = (if i = 56 then upd pf 3 (pf 3 &&& 1048575) else pf) ∧ f_M_take_L189 t0 p0 o0 s0 g0 (nI i) wd x th pf of sz bg = some (gd i (p 0) (p 1) (p 2) (p 3), th, p, of, sz, bg) := by
  refine ⟨_, rfl, ?_⟩
  unfold f_M_take_L189
  by_cases h : i = 56
  · rw [if_pos ((zt_ni i hi).2.2.1.mpr h), if_neg (show ¬ ((3 : Int32) < 0 ∨ 4 ≤ (3 : Int32).toNatClampNeg) by decide), if_neg (show ¬ ((3 : Int32) < 0 ∨ 4 ≤ (3 : Int32).toNatClampNeg) by decide), q_good hi, Option.bind_some, if_pos h, show (3 : Int32).toNatClampNeg = 3 from by decide]
  · rw [if_neg (fun z => h ((zt_ni i hi).2.2.1.mp z)), q_good hi, Option.bind_some, if_neg h]
theorem q_tk_e {i : Nat} (hi : i < 75) (t0 : Int32) (p0 o0 : Nat → Int32) (s0 g0 wd th : Int32) (pf of : Nat → Int32) (sz bg : Int32) (n : Nat) (h : tkI i wd (zB i) pf) : ∃ pf', dcd i wd pf' ∧ f_M_take_L41 t0 p0 o0 s0 g0 (nI i) wd (n + 1) (nI (zB i)) th pf of sz bg = some (gd i (pf' 0) (pf' 1) (pf' 2) (pf' 3), th, pf', of, sz, bg) := by
  have hB := q_zB i
  have full : ∀ w, w < 4 → ∀ e, e < 32 → (decide (pz i w e < zB i) && bt wd (pz i w e)) = bt wd (pz i w e) := by
    intro w hw e he
    rcases zt_inv i hi w hw e he with h5 | h5
    · rw [h5, b_big (show 32 ≤ 99 by omega), Bool.and_false]
    · rw [decide_eq_true h5.1, Bool.true_and]
  obtain ⟨V, hV, bV⟩ := q_im hi wd
  have r3 : pf 3 = V := by
    obtain ⟨F, hF, hb⟩ := h 3 (by omega)
    rw [hF, show zb i 3 = 0 from if_neg (fun z => by omega), Int32.zero_add]
    exact b_ext fun e he => by rw [hb e he, full 3 (by omega) e he, bV e he]
  have rj : ∀ j, j < 3 → f_K_register i wd (nI (2 ^ j)) = some (pf j) := by
    intro j hj
    obtain ⟨F, hF, hb⟩ := h j (by omega)
    obtain ⟨G, hG, bG⟩ := q_reg hi hj wd
    rw [hG, hF, show F = G from b_ext fun e he => by rw [hb e he, full j (by omega) e he, bG e he]]
  have key : ∀ p1 : Nat → Int32, (∀ j, j < 3 → p1 j = pf j) → p1 3 = sx i V → ∀ x, ∃ pf', dcd i wd pf' ∧ f_M_take_L189 t0 p0 o0 s0 g0 (nI i) wd x th p1 of sz bg = some (gd i (pf' 0) (pf' 1) (pf' 2) (pf' 3), th, pf', of, sz, bg) := by
    intro p1 h1 h3 x
    obtain ⟨p, ep, hp⟩ := q_189 hi t0 p0 o0 s0 g0 wd x th p1 of sz bg
    refine ⟨p, ⟨?_, ?_⟩, hp⟩
    · intro j hj
      rw [rj j hj, ep]
      congr 1
      by_cases c : i = 56
      · rw [if_pos c, ← h1 j hj]; symm; exact if_neg (by omega)
      · rw [if_neg c, h1 j hj]
    · rw [hV, ep]
      congr 1
      unfold fx
      by_cases c : i = 56
      · rw [if_pos c, if_pos c, ← h3]; symm; exact if_pos rfl
      · rw [if_neg c, if_neg c, h3]
  have sV : (zs i 5 = false ∨ zh i 3 = false) → sx i V = V := by
    intro g
    refine if_neg (fun z => ?_)
    rcases g with g | g
    · exact Bool.noConfusion (g.symm.trans z.1)
    · have := (zt_hb i hi).2.1
      have e9 := bV (zhb i) (by omega)
      rw [zt_nreg i hi 3 (by omega) g _ (by omega), b_big (show 32 ≤ 99 by omega)] at e9
      exact Bool.noConfusion (e9.symm.trans z.2)
  rw [f_M_take_L41, zt_mbits i hi, Option.bind_some, if_pos (nI_le (Nat.le_refl _) (by omega))]
  have n3 : ¬ ((3 : Int32) < 0 ∨ 4 ≤ (3 : Int32).toNatClampNeg) := by decide
  rcases zt_sign i hi with ⟨s1, s2⟩ | ⟨s1, s2, s3⟩ | ⟨s1, s2⟩
  · rw [s1, Option.bind_some, if_pos (show (-1 : Int32) < 0 by decide)]
    exact key pf (fun _ _ => rfl) (by rw [r3, sV s2]) _
  · obtain ⟨b1, b2, b3⟩ := zt_hb i hi
    rw [s1, Option.bind_some, if_neg (nI_pos (by omega)), if_neg n3, if_neg n3, show (3 : Int32).toNatClampNeg = 3 from by decide]
    refine key _ (fun j hj => if_neg (by omega)) ?_ _
    refine (if_pos rfl).trans ?_
    rw [r3, q_sx b2 (fun e he g => by rw [bV e he, b3 e he g, b_big (show 32 ≤ 99 by omega)])]
    unfold sx
    by_cases c : bt V (zhb i) = true
    · rw [if_pos c, if_pos ⟨s2, c⟩]
    · rw [if_neg c, if_neg (fun z => c z.2)]
  · have V0 : V = 0 := b_ext fun e he => by rw [bV e he, zt_nreg i hi 3 (by omega) s1 e he, b_big (show 32 ≤ 99 by omega), b_0]
    rw [s2, Option.bind_some, if_neg (show ¬ (11 : Int32) < 0 by decide), if_neg n3, if_neg n3, show (3 : Int32).toNatClampNeg = 3 from by decide]
    refine key _ (fun j hj => if_neg (by omega)) ?_ _
    refine (if_pos rfl).trans ?_
    rw [r3, sV (Or.inr s1), V0]
    decide
theorem q_eqb {c n : Nat} (hc : c < 2) (hn : n < 32) (x : Int32) : (nI c = ((x >>> (nI n &&& 31)) &&& 1)) ↔ bt x n = decide (c = 1) := by
  constructor
  · intro h
    have e := b_one n hn x (i := 0) (by omega)
    rw [← h, q_small c hc 0 (by omega), decide_eq_true rfl, Bool.true_and, Bool.true_and] at e
    exact e.symm
  · intro h
    apply b_ext
    intro i hi
    rw [b_one n hn x hi, h, q_small c hc i hi]
def own (i : Nat) (wd : Int32) (k : Nat) : Prop := ∀ k', k ≤ k' → k' < zB i → cz i k' < 2 → bt wd k' = decide (cz i k' = 1)
theorem q_tk_L {i : Nat} (hi : i < 75) (t0 : Int32) (p0 o0 : Nat → Int32) (s0 g0 wd th : Int32) (of : Nat → Int32) (sz bg : Int32) : ∀ (n k : Nat) (pf : Nat → Int32), k ≤ zB i → zB i < k + n → tkI i wd k pf → ∃ a pf', f_M_take_L41 t0 p0 o0 s0 g0 (nI i) wd n (nI k) th pf of sz bg = some (a, th, pf', of, sz, bg) ∧ ((own i wd k ∧ dcd i wd pf' ∧ a = gd i (pf' 0) (pf' 1) (pf' 2) (pf' 3)) ∨ (a = false ∧ ¬ own i wd k)) := by
  intro n
  have hB := q_zB i
  induction n with
  | zero => intro k pf h1 h2; omega
  | succ n ih =>
    intro k pf h1 h2 hI
    by_cases hk : k = zB i
    · subst hk
      obtain ⟨pf', hd, he⟩ := q_tk_e hi t0 p0 o0 s0 g0 wd th pf of sz bg n hI
      exact ⟨_, pf', he, Or.inl ⟨fun k' a b => by omega, hd, rfl⟩⟩
    · have hk2 : k < zB i := by omega
      have mono : own i wd k → own i wd (k + 1) := fun h k' a b c => h k' (by omega) b c
      have hcc := zt_cod2 i hi k (by omega)
      have hc3 := zt_cod3 i hi k (by omega)
      rcases hcc with h | h | h
      · by_cases hb : bt wd k = decide (cz i k = 1)
        · obtain ⟨a, pf', e, r⟩ := ih (k + 1) pf (by omega) (by omega) (q_tk_same hi (by omega) h hI)
          refine ⟨a, pf', ?_, ?_⟩
          · rw [f_M_take_L41, zt_mbits i hi, Option.bind_some, if_neg (nI_ge hk2 (by omega)), q_ix, if_neg (nI_in (N := 2400) (by omega) (by omega)), nI_clamp (by omega), zt_code i hi k (by omega), if_neg (show ¬ (2 : Int32) ≤ nI (cz i k) from nI_ge (b := 2) h (by decide)), if_pos ((q_eqb h (by omega) wd).mpr hb)]
            unfold f_M_take_L84 f_M_take_L121
            rw [if_pos (show nI (cz i k) ≤ 1 from nI_le (b := 1) (by omega) (by decide)), if_pos (show nI (cz i k) < 500 from nI_lt (b := 500) (by omega) (by decide)), nI_1]
            exact e
          · have back : own i wd (k + 1) → own i wd k := fun g k' a b c => by
              rcases Nat.lt_or_ge k k' with y | y
              · exact g k' y b c
              · have : k' = k := by omega
                subst this; exact hb
            rcases r with ⟨r1, r2, r3⟩ | ⟨r1, r2⟩
            · exact Or.inl ⟨back r1, r2, r3⟩
            · exact Or.inr ⟨r1, fun z => r2 (mono z)⟩
        · refine ⟨false, pf, ?_, Or.inr ⟨rfl, fun z => hb (z k (Nat.le_refl k) hk2 h)⟩⟩
          rw [f_M_take_L41, zt_mbits i hi, Option.bind_some, if_neg (nI_ge hk2 (by omega)), q_ix, if_neg (nI_in (N := 2400) (by omega) (by omega)), nI_clamp (by omega), zt_code i hi k (by omega), if_neg (show ¬ (2 : Int32) ≤ nI (cz i k) from nI_ge (b := 2) h (by decide)), if_neg (fun z => hb ((q_eqb h (by omega) wd).mp z))]
      · obtain ⟨e1, e2, e3⟩ := hc3 (by omega)
        have hd : (nI (cz i k) / 100 - 1 : Int32) = nI (cz i k / 100 - 1) := by
          rw [show (nI (cz i k) / 100 : Int32) = nI (cz i k / 100) from pk_div (d := 100) (by omega) (by decide) (by decide)]
          exact pk_sub (b := 1) (by omega)
        have hr : (nI (cz i k) - nI (cz i k) / 100 * 100 : Int32) = nI (cz i k % 100) := pk_rem (d := 100) (by omega) (by decide) (by decide)
        have hw : cw (cz i k) = cz i k / 100 - 1 := by unfold cw; rw [if_pos h.2]
        have up := q_tk_up hi (show k < 32 by omega) (show 2 ≤ cz i k by omega) hI
        rw [hw] at up
        obtain ⟨a, pf', e, r⟩ := ih (k + 1) _ (by omega) (by omega) up
        refine ⟨a, pf', ?_, ?_⟩
        · rw [f_M_take_L41, zt_mbits i hi, Option.bind_some, if_neg (nI_ge hk2 (by omega)), q_ix, if_neg (nI_in (N := 2400) (by omega) (by omega)), nI_clamp (by omega), zt_code i hi k (by omega), if_pos (show (2 : Int32) ≤ nI (cz i k) from nI_le (a := 2) (by omega) (by omega))]
          unfold f_M_take_L84 f_M_take_L121
          rw [if_neg (show ¬ nI (cz i k) ≤ 1 from nI_ge (a := 1) (by omega) (by omega)), if_neg (show ¬ (500 : Int32) ≤ nI (cz i k) from nI_ge (b := 500) h.2 (by omega)), hd, if_neg (nI_in (N := 4) (by omega) (by omega)), if_neg (nI_in (N := 4) (by omega) (by omega)), if_pos (show nI (cz i k) < 500 from nI_lt (b := 500) h.2 (by decide)), nI_clamp (by omega), hr, nI_1]
          exact e
        · have back : own i wd (k + 1) → own i wd k := fun g k' a b c => by
            rcases Nat.lt_or_ge k k' with y | y
            · exact g k' y b c
            · have : k' = k := by omega
              subst this; omega
          rcases r with ⟨r1, r2, r3⟩ | ⟨r1, r2⟩
          · exact Or.inl ⟨back r1, r2, r3⟩
          · exact Or.inr ⟨r1, fun z => r2 (mono z)⟩
      · obtain ⟨e1, e2, e3⟩ := hc3 (by omega)
        have hd : (nI (cz i k) / 100 - 5 : Int32) = nI (cz i k / 100 - 5) := by
          rw [show (nI (cz i k) / 100 : Int32) = nI (cz i k / 100) from pk_div (d := 100) (by omega) (by decide) (by decide)]
          exact pk_sub (b := 5) (by omega)
        have hr : (nI (cz i k) - nI (cz i k) / 100 * 100 : Int32) = nI (cz i k % 100) := pk_rem (d := 100) (by omega) (by decide) (by decide)
        have hw : cw (cz i k) = cz i k / 100 - 5 := by unfold cw; rw [if_neg (by omega)]
        have up := q_tk_up hi (show k < 32 by omega) (show 2 ≤ cz i k by omega) hI
        rw [hw] at up
        obtain ⟨a, pf', e, r⟩ := ih (k + 1) _ (by omega) (by omega) up
        refine ⟨a, pf', ?_, ?_⟩
        · rw [f_M_take_L41, zt_mbits i hi, Option.bind_some, if_neg (nI_ge hk2 (by omega)), q_ix, if_neg (nI_in (N := 2400) (by omega) (by omega)), nI_clamp (by omega), zt_code i hi k (by omega), if_pos (show (2 : Int32) ≤ nI (cz i k) from nI_le (a := 2) (by omega) (by omega))]
          unfold f_M_take_L84 f_M_take_L121
          rw [if_neg (show ¬ nI (cz i k) ≤ 1 from nI_ge (a := 1) (by omega) (by omega)), if_pos (show (500 : Int32) ≤ nI (cz i k) from nI_le (a := 500) h.1 (by omega)), if_neg (show ¬ nI (cz i k) < 500 from nI_nlt (b := 500) h.1 (by omega)), hd, if_neg (nI_in (N := 4) (by omega) (by omega)), if_neg (nI_in (N := 4) (by omega) (by omega)), nI_clamp (by omega), hr, nI_1]
          exact e
        · have back : own i wd (k + 1) → own i wd k := fun g k' a b c => by
            rcases Nat.lt_or_ge k k' with y | y
            · exact g k' y b c
            · have : k' = k := by omega
              subst this; omega
          rcases r with ⟨r1, r2, r3⟩ | ⟨r1, r2⟩
          · exact Or.inl ⟨back r1, r2, r3⟩
          · exact Or.inr ⟨r1, fun z => r2 (mono z)⟩
theorem q_own {i : Nat} (hi : i < 75) (wd : Int32) : (wd &&& (k_ownMask i) = k_ownBits i) ↔ own i wd 0 := by
  have hB := q_zB i
  constructor
  · intro h k _ hk hc
    have e := (zt_own i hi k (by omega))
    have f : bt (wd &&& (k_ownMask i)) k = bt (k_ownBits i) k := by rw [h]
    rw [b_and, e.1, e.2, decide_eq_true (show k < zB i ∧ cz i k < 2 from ⟨hk, hc⟩), Bool.and_true] at f
    exact f
  · intro h
    apply b_ext
    intro k hk
    have e := (zt_own i hi k hk)
    rw [b_and, e.1, e.2]
    by_cases c : k < zB i ∧ cz i k < 2
    · rw [decide_eq_true c, Bool.and_true]; exact h k (Nat.zero_le k) c.1 c.2
    · rw [decide_eq_false c, Bool.and_false, decide_eq_false]
      intro z
      rcases Nat.lt_or_ge k (zB i) with g | g
      · exact c ⟨g, by omega⟩
      · have := zt_row0 i hi k hk g; omega
theorem q_tk2 {i j : Nat} (hi : i < 75) (hj : j < 3) (t0 : Int32) (p0 o0 : Nat → Int32) (s0 g0 wd th : Int32) (pf of : Nat → Int32) (sz bg : Int32) (n : Nat) : f_M_take_L2 t0 p0 o0 s0 g0 (nI i) wd (n + 1) (nI j) th pf of sz bg = f_M_take_L2 t0 p0 o0 s0 g0 (nI i) wd n (nI (j + 1)) th (upd pf j (zb i j)) of sz bg := by
  rw [f_M_take_L2, if_neg (show ¬ (4 : Int32) ≤ nI j from nI_ge (b := 4) (by omega) (by decide)), if_neg (show ¬ (3 : Int32) ≤ nI j from nI_ge (b := 3) hj (by decide)), zt_mshort hi hj, Option.bind_some, if_neg (nI_in (N := 4) (by omega) (by omega)), if_neg (nI_in (N := 4) (by omega) (by omega)), nI_clamp (by omega), nI_1]
  cases h : (zh i j && zn i j) with
  | false =>
    rw [if_pos (show bI false = 0 from rfl), show zb i j = 0 from if_neg (fun z => by rw [z.2.1, z.2.2] at h; exact Bool.noConfusion h)]
  | true =>
    rw [if_neg (show ¬ bI true = 0 by decide), show zb i j = 8 from if_pos ⟨hj, by simpa using h⟩]
theorem q_take {i : Nat} (hi : i < 75) (wd th : Int32) (pf of : Nat → Int32) (sz bg : Int32) : ∃ a pf', f_M_take th pf of sz bg (nI i) wd = some (a, th, pf', of, sz, bg) ∧ f_K_admits i wd = some a ∧ (a = true → dcd i wd pf') := by
  have hB := q_zB i
  have u0 : f_M_take th pf of sz bg (nI i) wd = f_M_take_L2 th pf of sz bg (nI i) wd 79 (nI 1) th (upd pf 0 (zb i 0)) of sz bg := q_tk2 hi (j := 0) (by omega) th pf of sz bg wd th pf of sz bg 79
  have u1 := q_tk2 hi (j := 1) (by omega) th pf of sz bg wd th (upd pf 0 (zb i 0)) of sz bg 78
  have u2 := q_tk2 hi (j := 2) (by omega) th pf of sz bg wd th (upd (upd pf 0 (zb i 0)) 1 (zb i 1)) of sz bg 77
  have u3 : f_M_take_L2 th pf of sz bg (nI i) wd (76 + 1) (nI 3) th (upd (upd (upd pf 0 (zb i 0)) 1 (zb i 1)) 2 (zb i 2)) of sz bg = f_M_take_L2 th pf of sz bg (nI i) wd 76 (nI 4) th (upd (upd (upd (upd pf 0 (zb i 0)) 1 (zb i 1)) 2 (zb i 2)) 3 0) of sz bg := by
    rw [f_M_take_L2, if_neg (show ¬ (4 : Int32) ≤ nI 3 by decide), if_pos (show (3 : Int32) ≤ nI 3 by decide), if_neg (nI_in (N := 4) (by omega) (by omega)), nI_clamp (by omega), nI_1]
  have u4 : ∀ p : Nat → Int32, f_M_take_L2 th pf of sz bg (nI i) wd (75 + 1) (nI 4) th p of sz bg = f_M_take_L41 th pf of sz bg (nI i) wd 80 (nI 0) th p of sz bg := by
    intro p
    rw [f_M_take_L2, if_pos (show (4 : Int32) ≤ nI 4 by decide)]; rfl
  have I0 : tkI i wd 0 (upd (upd (upd (upd pf 0 (zb i 0)) 1 (zb i 1)) 2 (zb i 2)) 3 0) := by
    intro w hw
    refine ⟨0, ?_, fun e he => by rw [b_0, decide_eq_false (by omega), Bool.false_and]⟩
    rcases (show w = 0 ∨ w = 1 ∨ w = 2 ∨ w = 3 by omega) with e | e | e | e <;> subst e <;> simp [upd, zb]
  obtain ⟨a, pf', e, r⟩ := q_tk_L hi th pf of sz bg wd th of sz bg 80 0 _ (by omega) (by omega) I0
  refine ⟨a, pf', ?_, ?_⟩
  · exact u0.trans (u1.trans (u2.trans (u3.trans ((u4 _).trans e))))
  · unfold f_K_admits
    rcases r with ⟨r1, r2, r3⟩ | ⟨r1, r2⟩
    · rw [if_pos ((q_own hi wd).mpr r1), show f_K_register i wd 1 = some (pf' 0) from r2.1 0 (by omega), Option.bind_some, show f_K_register i wd 2 = some (pf' 1) from r2.1 1 (by omega), Option.bind_some, show f_K_register i wd 4 = some (pf' 2) from r2.1 2 (by omega), Option.bind_some, r2.2, Option.bind_some, q_allows hi, Option.bind_some, ← r3]
      refine ⟨?_, fun _ => r2⟩
      cases a <;> rfl
    · rw [if_neg (fun z => r2 ((q_own hi wd).mp z)), r1]
      exact ⟨rfl, fun z => Bool.noConfusion z⟩
theorem q_lock {X : Nat} (hX : X ≤ 75) (t0 : Int32) (p0 o0 : Nat → Int32) (s0 g0 wd x2 th : Int32) (of : Nat → Int32) (sz bg : Int32) : ∀ (d j : Nat) (pf : Nat → Int32), j + d = X → ∀ n m, ∃ k pf', f_M_find_L32 t0 p0 o0 s0 g0 wd (n + d + 1) x2 (nI X) (nI j) th pf of sz bg = some (k, th, pf', of, sz, bg) ∧ ((k = -1 ∧ (∀ i, j ≤ i → i < X → f_K_admits i wd = some false) ∧ f_C_numberOf_L2 wd (m + d) (nI j) = f_C_numberOf_L2 wd m (nI X)) ∨ ∃ i, j ≤ i ∧ i < X ∧ k = nI i ∧ dcd i wd pf' ∧ f_K_admits i wd = some true ∧ (∀ i', j ≤ i' → i' < i → f_K_admits i' wd = some false) ∧ f_C_numberOf_L2 wd (m + d) (nI j) = some (nI i)) := by
  intro d
  induction d with
  | zero =>
    intro j pf hj n m
    have : j = X := by omega
    subst this
    refine ⟨-1, pf, ?_, Or.inl ⟨rfl, fun i a b => by omega, rfl⟩⟩
    rw [f_M_find_L32, if_pos (nI_le (Nat.le_refl _) (by omega))]
  | succ d ih =>
    intro j pf hj n m
    obtain ⟨a, pf1, h1, h2, h3⟩ := q_take (show j < 75 by omega) wd th pf of sz bg
    have eM : f_M_find_L32 t0 p0 o0 s0 g0 wd (n + (d + 1) + 1) x2 (nI X) (nI j) th pf of sz bg = if (bI a) = 0 then f_M_find_L32 t0 p0 o0 s0 g0 wd (n + d + 1) x2 (nI X) (nI (j + 1)) th pf1 of sz bg else some (nI j, th, pf1, of, sz, bg) := by
      rw [f_M_find_L32, if_neg (nI_ge (show j < X by omega) (by omega)), h1, Option.bind_some, nI_1]
      rfl
    have eC : f_C_numberOf_L2 wd (m + (d + 1)) (nI j) = if (bI a) = 0 then f_C_numberOf_L2 wd (m + d) (nI (j + 1)) else some (nI j) := by
      show f_C_numberOf_L2 wd (m + d + 1) (nI j) = _
      rw [f_C_numberOf_L2, if_neg (show ¬ (75 : Int32) ≤ nI j from nI_ge (b := 75) (by omega) (by decide)), if_neg (nI_in (N := 75) (by omega) (by omega)), nI_clamp (by omega), h2, Option.bind_some, nI_1]
    rw [eM, eC]
    cases a with
    | false =>
      rw [if_pos (show bI false = 0 from rfl), if_pos (show bI false = 0 from rfl)]
      obtain ⟨k, pf', e, r⟩ := ih (j + 1) pf1 (by omega) n m
      refine ⟨k, pf', e, ?_⟩
      have ext : ∀ i', j ≤ i' → (j + 1 ≤ i' → f_K_admits i' wd = some false) → f_K_admits i' wd = some false := by
        intro i' g1 g2
        rcases Nat.lt_or_ge j i' with y | y
        · exact g2 y
        · have : i' = j := by omega
          subst this; exact h2
      rcases r with ⟨r1, r2, r3⟩ | ⟨i, r1, r2, r3, r4, r5, r6, r7⟩
      · exact Or.inl ⟨r1, fun i' g1 g2 => ext i' g1 (fun y => r2 i' y g2), r3⟩
      · exact Or.inr ⟨i, by omega, r2, r3, r4, r5, fun i' g1 g2 => ext i' g1 (fun y => r6 i' y g2), r7⟩
    | true =>
      rw [if_neg (show ¬ bI true = 0 by decide), if_neg (show ¬ bI true = 0 by decide)]
      exact ⟨nI j, pf1, rfl, Or.inr ⟨j, Nat.le_refl j, by omega, rfl, h3 rfl, h2, fun i' g1 g2 => by omega, rfl⟩⟩
theorem q_skip (wd : Int32) {X : Nat} (hX : X ≤ 75) : ∀ (d j : Nat), j + d = X → (∀ i, j ≤ i → i < X → f_K_admits i wd = some false) → ∀ m, f_C_numberOf_L2 wd (m + d) (nI j) = f_C_numberOf_L2 wd m (nI X) := by
  intro d
  induction d with
  | zero => intro j h _ m; rw [← h]; rfl
  | succ d ih =>
    intro j h g m
    show f_C_numberOf_L2 wd (m + d + 1) (nI j) = _
    rw [f_C_numberOf_L2, if_neg (show ¬ (75 : Int32) ≤ nI j from nI_ge (b := 75) (by omega) (by decide)), if_neg (nI_in (N := 75) (by omega) (by omega)), nI_clamp (by omega), g j (Nat.le_refl j) (by omega), Option.bind_some, nI_1, if_pos (show bI false = 0 from rfl)]
    exact ih (j + 1) (by omega) (fun i a b => g i (by omega) b) m
set_option maxRecDepth 100000 in
theorem zt_low : ∀ i, i < 75 → bt (k_ownMask i) 0 = true ∧ bt (k_ownMask i) 1 = true ∧ (bt (k_ownBits i) 0 && bt (k_ownBits i) 1) = decide (i < 48) := by decide +kernel
theorem b_3 (i : Nat) : bt 3 i = decide (i < 2) := by
  rcases Nat.lt_or_ge i 32 with h | h
  · exact (by decide +kernel : ∀ i, i < 32 → bt 3 i = decide (i < 2)) i h
  · rw [b_big h, decide_eq_false (by omega)]
theorem q_long (wd : Int32) : (wd &&& 3 = 3) ↔ (bt wd 0 && bt wd 1) = true := by
  constructor
  · intro h
    have e0 : bt (wd &&& 3) 0 = bt 3 0 := by rw [h]
    have e1 : bt (wd &&& 3) 1 = bt 3 1 := by rw [h]
    rw [b_and, b_3] at e0 e1
    simp at e0 e1
    rw [e0, e1]; rfl
  · intro h
    have h2 : bt wd 0 = true ∧ bt wd 1 = true := by simpa using h
    apply b_ext
    intro i hi
    rw [b_and, b_3]
    rcases (show i = 0 ∨ i = 1 ∨ 2 ≤ i by omega) with e | e | e
    · subst e; rw [h2.1]; rfl
    · subst e; rw [h2.2]; rfl
    · rw [decide_eq_false (by omega), Bool.and_false]
theorem q_adm_own {i : Nat} {wd : Int32} (h : f_K_admits i wd ≠ some false) : wd &&& (k_ownMask i) = k_ownBits i := by
  by_cases c : wd &&& (k_ownMask i) = k_ownBits i
  · exact c
  · exfalso; apply h; unfold f_K_admits; rw [if_neg c]
theorem q_adm_long {i : Nat} (hi : i < 75) {wd : Int32} (h : f_K_admits i wd ≠ some false) : (wd &&& 3 = 3) ↔ i < 48 := by
  have e := q_adm_own h
  obtain ⟨l1, l2, l3⟩ := zt_low i hi
  have e0 : bt (wd &&& (k_ownMask i)) 0 = bt (k_ownBits i) 0 := by rw [e]
  have e1 : bt (wd &&& (k_ownMask i)) 1 = bt (k_ownBits i) 1 := by rw [e]
  rw [b_and, l1, Bool.and_true] at e0
  rw [b_and, l2, Bool.and_true] at e1
  rw [q_long, e0, e1, l3, decide_eq_true_iff]
theorem q_find (wd th : Int32) (pf of : Nat → Int32) (sz bg : Int32) : ∃ k pf', f_M_find th pf of sz bg wd = some (k, th, pf', of, sz, bg) ∧ f_C_numberOf wd = some k ∧ ((k = -1 ∧ ∀ i, i < 75 → f_K_admits i wd = some false) ∨ ∃ i, i < 75 ∧ k = nI i ∧ dcd i wd pf' ∧ f_K_admits i wd = some true ∧ ((wd &&& 3 = 3) ↔ i < 48) ∧ ∀ i', i' < i → f_K_admits i' wd = some false) := by
  have nadm : ∀ i, i < 75 → ¬ ((wd &&& 3 = 3) ↔ i < 48) → f_K_admits i wd = some false := by
    intro i hi h
    by_cases c : f_K_admits i wd = some false
    · exact c
    · exact absurd (q_adm_long hi c) h
  unfold f_M_find f_M_find_L13 f_M_isLong
  by_cases hl : wd &&& 3 = 3
  · rw [if_pos hl, Option.bind_some, if_neg (show ¬ bI true = 0 by decide), Option.bind_some, if_neg (show ¬ bI true = 0 by decide)]
    obtain ⟨k, pf', e, r⟩ := q_lock (X := 48) (by omega) th pf of sz bg wd 0 th of sz bg 48 0 pf (by omega) 31 32
    refine ⟨k, pf', e, ?_⟩
    have hi48 : ∀ i, 48 ≤ i → i < 75 → f_K_admits i wd = some false := fun i a b => nadm i b (fun z => by have := z.mp hl; omega)
    rcases r with ⟨r1, r2, r3⟩ | ⟨i, r1, r2, r3, r4, r5, r6, r7⟩
    · have s := q_skip wd (X := 75) (by omega) 27 48 (by omega) hi48 5
      have t : f_C_numberOf_L2 wd 5 (nI 75) = some (-1) := by rw [f_C_numberOf_L2, if_pos (show (75 : Int32) ≤ nI 75 by decide)]
      refine ⟨?_, Or.inl ⟨r1, fun i a => ?_⟩⟩
      · rw [r1]; exact r3.trans (s.trans t)
      · rcases Nat.lt_or_ge i 48 with y | y
        · exact r2 i (by omega) y
        · exact hi48 i y a
    · refine ⟨by rw [r3]; exact r7, Or.inr ⟨i, by omega, r3, r4, r5, ?_, fun i' a => r6 i' (by omega) a⟩⟩
      exact ⟨fun _ => r2, fun _ => hl⟩
  · rw [if_neg hl, Option.bind_some, if_pos (show bI false = 0 from rfl), Option.bind_some, if_pos (show bI false = 0 from rfl)]
    obtain ⟨k, pf', e, r⟩ := q_lock (X := 75) (by omega) th pf of sz bg wd 48 th of sz bg 27 48 pf (by omega) 52 5
    refine ⟨k, pf', e, ?_⟩
    have lo48 : ∀ i, 0 ≤ i → i < 48 → f_K_admits i wd = some false := fun i _ b => nadm i (by omega) (fun z => hl (z.mpr b))
    have s : f_C_numberOf wd = f_C_numberOf_L2 wd 32 (nI 48) := q_skip wd (X := 48) (by omega) 48 0 (by omega) lo48 32
    rcases r with ⟨r1, r2, r3⟩ | ⟨i, r1, r2, r3, r4, r5, r6, r7⟩
    · have t : f_C_numberOf_L2 wd 5 (nI 75) = some (-1) := by rw [f_C_numberOf_L2, if_pos (show (75 : Int32) ≤ nI 75 by decide)]
      refine ⟨?_, Or.inl ⟨r1, fun i a => ?_⟩⟩
      · rw [r1]; exact s.trans (r3.trans t)
      · rcases Nat.lt_or_ge i 48 with y | y
        · exact lo48 i (by omega) y
        · exact r2 i y a
    · refine ⟨by rw [r3]; exact s.trans r7, Or.inr ⟨i, r2, r3, r4, r5, ?_, fun i' a => ?_⟩⟩
      · exact ⟨fun z => absurd z hl, fun z => by omega⟩
      · rcases Nat.lt_or_ge i' 48 with y | y
        · exact lo48 i' (by omega) y
        · exact r6 i' y a
