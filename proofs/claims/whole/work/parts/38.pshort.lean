/-! parts put together and taken apart again; a long word told as a short one -/
theorem q_imr {i : Nat} (hi : i < 75) (h56 : i ≠ 56) (hz : zh i 3 = true) {v : Int64} (h : imk i v = true) : (m_lo i).toInt ≤ v.toInt ∧ v.toInt ≤ (m_hi i).toInt ∧ v.toInt % 2 ^ m_t i = 0 := by
  obtain ⟨t1, _⟩ := zt_im1 i hi h56 hz
  obtain ⟨t3, t4, _, _⟩ := zt_im2 i hi h56 hz
  have e := (q_immA hi hz v).1
  rw [h, q_mi hi h56] at e
  unfold mchk at e
  rw [q_step t1 t3 t4] at e
  have core : some (decide ((m_lo i).toInt ≤ v.toInt ∧ v.toInt ≤ (m_hi i).toInt ∧ v.toInt % 2 ^ m_t i = 0)) = some true → (m_lo i).toInt ≤ v.toInt ∧ v.toInt ≤ (m_hi i).toInt ∧ v.toInt % 2 ^ m_t i = 0 := fun z => of_decide_eq_true (Option.some.inj z)
  by_cases a : m_nz i = true
  · rw [if_pos a] at e
    by_cases b : lg_cmp v 0 = 0
    · rw [if_pos b] at e; exact absurd (Option.some.inj e) (by decide)
    · rw [if_neg b] at e; exact core e
  · rw [if_neg a] at e; exact core e
theorem q_imr56 {v : Int64} (h : imk 56 v = true) : (1 ≤ v.toInt ∧ v.toInt ≤ 31) ∨ (1048544 ≤ v.toInt ∧ v.toInt ≤ 1048575) := by
  have hz : zh 56 3 = true := by decide +kernel
  have e := (q_immA (i := 56) (by omega) hz v).1
  rw [h, q_mi56, q_step (Or.inl rfl) (by decide) (by decide), q_step (Or.inl rfl) (by decide) (by decide), show (1 : Int64).toInt = 1 from by decide, show (31 : Int64).toInt = 31 from by decide, show (1048544 : Int64).toInt = 1048544 from by decide, show (1048575 : Int64).toInt = 1048575 from by decide, Option.bind_some, Option.bind_some] at e
  by_cases a : 1 ≤ v.toInt ∧ v.toInt ≤ 31
  · exact Or.inl a
  · rw [decide_eq_false (fun z => a ⟨z.1, z.2.1⟩), if_pos n_f] at e
    by_cases b : 1048544 ≤ v.toInt ∧ v.toInt ≤ 1048575
    · exact Or.inr b
    · rw [decide_eq_false (fun z => b ⟨z.1, z.2.1⟩), if_pos n_f] at e
      exact absurd (Option.some.inj e) (by decide)
theorem b_nat (x : Int32) (e : Nat) : bt x e = x.toBitVec.toNat.testBit e := by unfold bt; rw [← BitVec.testBit_toNat]
theorem b_low {x : Int32} {t : Nat} (ht : t = 0 ∨ t = 1 ∨ t = 2 ∨ t = 4) (h : x.toInt % 2 ^ t = 0) {e : Nat} (he : e < t) : bt x e = false := by
  have e1 : x.toInt = _ := BitVec.toInt_eq_toNat_cond x.toBitVec
  rw [e1] at h
  have hn : x.toBitVec.toNat < 2 ^ 32 := x.toBitVec.isLt
  rw [b_nat]
  generalize x.toBitVec.toNat = n at h hn ⊢
  have hm : n % 2 ^ t = 0 := by
    rcases ht with z | z | z | z <;> subst z <;> split at h <;> omega
  have h2 := Nat.testBit_mod_two_pow n t e
  rw [decide_eq_true he, Bool.true_and, hm, Nat.zero_testBit] at h2
  exact h2.symm
theorem b_high {x : Int32} {h : Nat} (hh : h ≤ 31) (h1 : -((2 ^ h : Nat) : Int) ≤ x.toInt) (h2 : x.toInt < ((2 ^ h : Nat) : Int)) {e : Nat} (he : h ≤ e) (he2 : e < 32) : bt x e = decide (x.toInt < 0) := by
  have e1 : x.toInt = _ := BitVec.toInt_eq_toNat_cond x.toBitVec
  have hp : 2 ^ h ≤ 2 ^ 31 := Nat.pow_le_pow_right (by omega) hh
  have hpe : 2 ^ h ≤ 2 ^ e := Nat.pow_le_pow_right (by omega) he
  have hn : x.toBitVec.toNat < 2 ^ 32 := x.toBitVec.isLt
  by_cases c : x.toInt < 0
  · rw [decide_eq_true c]
    have hb : (~~~ x.toBitVec).getLsbD e = false := by
      rw [← BitVec.testBit_toNat]
      apply Nat.testBit_lt_two_pow
      rw [BitVec.toNat_not]
      rw [e1] at c h1
      split at h1
      · omega
      · omega
    rw [BitVec.getLsbD_not, decide_eq_true he2, Bool.true_and] at hb
    unfold bt
    cases g : x.toBitVec.getLsbD e with
    | true => rfl
    | false => rw [g] at hb; exact absurd hb (by decide)
  · rw [decide_eq_false c, b_nat]
    apply Nat.testBit_lt_two_pow
    rw [e1] at c h2
    split at h2 <;> omega
set_option maxRecDepth 100000 in
theorem zt_rng1 : ∀ i, i < 75 → i ≠ 56 → zh i 3 = true → zs i 5 = true → -((2 ^ zhb i : Nat) : Int) ≤ (m_lo i).toInt ∧ (m_hi i).toInt < ((2 ^ zhb i : Nat) : Int) := by decide +kernel
set_option maxRecDepth 100000 in
theorem zt_rng2 : ∀ i, i < 75 → i ≠ 56 → zh i 3 = true → zs i 5 = false → 0 ≤ (m_lo i).toInt ∧ (m_hi i).toInt < ((2 ^ (zhb i + 1) : Nat) : Int) := by decide +kernel
set_option maxRecDepth 100000 in
theorem zt_pt : ∀ i, i < 75 → zh i 3 = true → ∀ e, e < 32 → pz i 3 e = 99 ∨ (m_t i ≤ e ∧ e ≤ zhb i) ∨ i = 56 := by decide +kernel
set_option maxRecDepth 100000 in
theorem zt_pt2 : ∀ i, i < 75 → i ≠ 56 → zh i 3 = true → ∀ e, e < 32 → (m_t i ≤ e ∧ e ≤ zhb i) → pz i 3 e < 32 := by decide +kernel
set_option maxRecDepth 100000 in
theorem zt_p56 : ∀ e, e < 32 → pz 56 3 e = 99 ∨ e < 6 := by decide +kernel
set_option maxRecDepth 100000 in
theorem zt_q56 : ∀ e, e < 6 → pz 56 3 e < 32 := by decide +kernel
set_option maxRecDepth 100000 in
theorem zt_f56 : ∀ m, m < 32 → fx 56 (nI (1048544 + m) &&& 63) = nI (1048544 + m) ∧ fx 56 (nI m &&& 63) = nI m := by decide +kernel
theorem b_63 (i : Nat) : bt 63 i = decide (i < 6) := by
  rcases Nat.lt_or_ge i 32 with h | h
  · exact (by decide +kernel : ∀ i, i < 32 → bt 63 i = decide (i < 6)) i h
  · rw [b_big h, decide_eq_false (by omega)]
theorem b_sx {V : Int32} {h : Nat} (hh : h < 21) (hV : ∀ e, e < 32 → h < e → bt V e = false) {e : Nat} (he : e < 32) : bt (if bt V h = true then V - ((2 : Int32) <<< (nI h &&& 31)) else V) e = if e ≤ h then bt V e else bt V h := by
  rw [← q_sx hh hV, show (31 - nI h : Int32) = nI (31 - h) from pk_sub (a := 31) (by omega), b_sshr _ (by omega) _ he]
  by_cases c : e ≤ h
  · rw [if_pos (by omega), if_pos c, b_shl _ (by omega) _ (by omega), decide_eq_true (by omega), Bool.true_and, show 31 - h + e - (31 - h) = e by omega]
  · rw [if_neg (by omega), if_neg c, b_shl _ (by omega) _ (by omega), decide_eq_true (by omega), Bool.true_and, show 31 - (31 - h) = h by omega]
/-- an immediate that may be comes back out of its bits -/
theorem q_imb {i : Nat} (hi : i < 75) (hz : zh i 3 = true) {im V : Int32} (h : imk i im.toInt64 = true) (hV : ∀ e, e < 32 → bt V e = if pz i 3 e < 32 then bt im e else false) : fx i V = im := by
  have hT : im.toInt64.toInt = im.toInt := Int32.toInt_toInt64 im
  by_cases h56 : i = 56
  · subst h56
    have r := q_imr56 h
    rw [hT] at r
    have e6 : V = im &&& 63 := b_ext fun e he => by
      rw [hV e he, b_and, b_63]
      rcases Nat.lt_or_ge e 6 with g | g
      · rw [if_pos (zt_q56 e g), decide_eq_true g, Bool.and_true]
      · rcases zt_p56 e he with y | y
        · rw [if_neg (by omega), decide_eq_false (by omega), Bool.and_false]
        · omega
    rw [e6]
    rcases r with r | r
    · have : im = nI im.toInt.toNat := Int32.toInt_inj.mp (by rw [nI_toInt (by omega)]; omega)
      rw [this]
      exact (zt_f56 im.toInt.toNat (by omega)).2
    · have : im = nI (1048544 + (im.toInt.toNat - 1048544)) := Int32.toInt_inj.mp (by rw [nI_toInt (by omega)]; omega)
      rw [this]
      exact (zt_f56 (im.toInt.toNat - 1048544) (by omega)).1
  · obtain ⟨r1, r2, r3⟩ := q_imr hi h56 hz h
    rw [hT] at r1 r2 r3
    obtain ⟨t1, _⟩ := zt_im1 i hi h56 hz
    obtain ⟨b1, b2, b3⟩ := zt_hb i hi
    have top : ∀ e, e < 32 → zhb i < e → bt V e = false := fun e he g => by rw [hV e he, b3 e he g, if_neg (by omega)]
    have mid : ∀ e, e < 32 → e ≤ zhb i → bt V e = bt im e := fun e he g => by
      rw [hV e he]
      rcases Nat.lt_or_ge e (m_t i) with y | y
      · rw [b_low t1 r3 y]; split <;> rfl
      · rw [if_pos (zt_pt2 i hi h56 hz e he ⟨y, g⟩)]
    unfold fx
    rw [if_neg h56]
    apply b_ext
    intro e he
    cases hs : zs i 5 with
    | true =>
      obtain ⟨q1, q2⟩ := zt_rng1 i hi h56 hz hs
      have hi2 : ∀ e, zhb i ≤ e → e < 32 → bt im e = decide (im.toInt < 0) := fun e g1 g2 => b_high (h := zhb i) (by omega) (by omega) (by omega) g1 g2
      have hsx : sx i V = if bt V (zhb i) = true then V - ((2 : Int32) <<< (nI (zhb i) &&& 31)) else V := by
        unfold sx
        by_cases c : bt V (zhb i) = true
        · rw [if_pos c, if_pos ⟨hs, c⟩]
        · rw [if_neg c, if_neg (fun z => c z.2)]
      rw [hsx, b_sx b2 top he]
      by_cases c : e ≤ zhb i
      · rw [if_pos c, mid e he c]
      · rw [if_neg c, mid (zhb i) (by omega) (Nat.le_refl _), hi2 e (by omega) he, hi2 (zhb i) (Nat.le_refl _) (by omega)]
    | false =>
      obtain ⟨q1, q2⟩ := zt_rng2 i hi h56 hz hs
      rw [show sx i V = V from if_neg (fun z => Bool.noConfusion (hs.symm.trans z.1))]
      rcases Nat.lt_or_ge (zhb i) e with c | c
      · rw [top e he c, b_high (h := zhb i + 1) (by omega) (by omega) (by omega) c he, decide_eq_false (by omega)]
      · exact mid e he c
set_option maxRecDepth 100000 in
theorem zt_r31 : ∀ m, m < 32 → (nI m &&& 31) = nI m ∧ (8 ≤ m → m < 16 → (8 + (nI m &&& 7) : Int32) = nI m) := by decide +kernel
/-- a register that may be comes back out of its bits -/
theorem q_regb {i t : Nat} (hi : i < 75) (ht : t < 3) (hz : zh i t = true) {x F : Int32} (h : rok i t x = true) (hF : ∀ e, e < 32 → bt F e = if pz i t e < 32 then bt x e else false) : zb i t + F = x := by
  obtain ⟨e1, e2, e3, e4⟩ := zt_reg i hi t ht hz
  unfold rok at h
  cases hn : zn i t with
  | true =>
    rw [hn] at e4 h
    rw [if_pos rfl] at h
    have h := of_decide_eq_true h
    have e5 : ∀ e, e < 32 → pz i t e = if e < 3 then pz i t 0 + e else 99 := by simpa using e4
    have eF : F = x &&& 7 := b_ext fun e he => by
      rw [hF e he, b_and, b_7, e5 e he]
      by_cases c : e < 3
      · rw [if_pos c, if_pos (by omega), decide_eq_true c, Bool.and_true]
      · rw [if_neg c, if_neg (by omega), decide_eq_false c, Bool.and_false]
    have : x = nI x.toInt.toNat := Int32.toInt_inj.mp (by rw [nI_toInt (by omega)]; omega)
    rw [eF, show zb i t = 8 from if_pos ⟨ht, hz, hn⟩, this]
    exact (zt_r31 x.toInt.toNat (by omega)).2 (by omega) (by omega)
  | false =>
    rw [hn] at e4 h
    rw [if_neg (by decide)] at h
    have h := of_decide_eq_true h
    have e5 : ∀ e, e < 32 → pz i t e = if e < 5 then pz i t 0 + e else 99 := by simpa using e4
    have eF : F = x &&& 31 := b_ext fun e he => by
      rw [hF e he, b_and, b_31, e5 e he]
      by_cases c : e < 5
      · rw [if_pos c, if_pos (by omega), decide_eq_true c, Bool.and_true]
      · rw [if_neg c, if_neg (by omega), decide_eq_false c, Bool.and_false]
    have : x = nI x.toInt.toNat := Int32.toInt_inj.mp (by rw [nI_toInt (by omega)]; omega)
    rw [eF, show zb i t = 0 from if_neg (fun z => Bool.noConfusion (hn.symm.trans z.2.2)), Int32.zero_add, this]
    exact (zt_r31 x.toInt.toNat (by omega)).1
theorem q_gd {i : Nat} {P : Nat → Int32} (h : gd i (P 0) (P 1) (P 2) (P 3) = true) : (∀ t, t < 3 → zh i t = true → rok i t (P t) = true) ∧ (zh i 3 = true → imk i (P 3).toInt64 = true) := by
  unfold gd rk at h
  simp only [Bool.and_eq_true, Bool.or_eq_true, Bool.not_eq_true'] at h
  obtain ⟨⟨⟨h0, h1⟩, h2⟩, h3⟩ := h
  refine ⟨fun t ht hz => ?_, fun hz => ?_⟩
  · rcases (show t = 0 ∨ t = 1 ∨ t = 2 by omega) with e | e | e <;> subst e
    · rw [if_pos hz] at h0; exact h0
    · rw [if_pos hz] at h1; exact h1
    · rw [if_pos hz] at h2; exact h2
  · rcases h3 with h3 | h3
    · exact Bool.noConfusion (h3.symm.trans hz)
    · exact h3
theorem q_gdirr {i : Nat} {P Q : Nat → Int32} (g : ∀ w, w < 4 → zh i w = true → P w = Q w) : gd i (P 0) (P 1) (P 2) (P 3) = gd i (Q 0) (Q 1) (Q 2) (Q 3) := by
  have e : ∀ t, t < 3 → rk i t (P t) = rk i t (Q t) := by
    intro t ht
    unfold rk
    cases hz : zh i t with
    | true => rw [g t (by omega) hz]
    | false => rw [if_neg (show ¬ (false = true) by decide), if_neg (show ¬ (false = true) by decide)]
  unfold gd
  rw [e 0 (by omega), e 1 (by omega), e 2 (by omega)]
  cases hz : zh i 3 with
  | true => rw [g 3 (by omega) hz]
  | false => rw [Bool.not_false, Bool.true_or, Bool.true_or]
/-- the word of parts that may be: its own bits, its parts -/
theorem q_rt {j : Nat} (hj : j < 75) {P : Nat → Int32} (hg : gd j (P 0) (P 1) (P 2) (P 3) = true) {r : Int32} (hr : f_K_compose j (P 0) (P 1) (P 2) (P 3) = some r) : own j r 0 ∧ ∃ Q, dcd j r Q ∧ (∀ w, w < 4 → zh j w = true → Q w = P w) ∧ f_K_admits j r = some true := by
  have hB := q_zB j
  obtain ⟨r', h1, hb⟩ := q_compose hj (P 0) (P 1) (P 2) (P 3)
  have er : r' = r := Option.some.inj (h1.symm.trans hr)
  rw [er] at hb
  obtain ⟨g1, g2⟩ := q_gd hg
  have ow : own j r 0 := by
    intro k _ hk hc
    rw [hb k (by omega), decide_eq_true hk, Bool.true_and]
    unfold mbit; rw [if_pos hc]
  have bits : ∀ w, w < 4 → ∀ e, e < 32 → bt r (pz j w e) = if pz j w e < 32 then bt (P w) e else false := by
    intro w hw e he
    rcases zt_inv j hj w hw e he with h5 | ⟨h5, h6, h7, h8⟩
    · rw [h5, if_neg (by omega), b_big (by omega)]
    · rw [if_pos (by omega), hb _ (by omega), decide_eq_true h5, Bool.true_and]
      unfold mbit
      rw [if_neg (by omega), h7, h8, q_pf4 P hw]
  obtain ⟨F0, f0, b0⟩ := q_reg hj (show 0 < 3 by omega) r
  obtain ⟨F1, f1, b1⟩ := q_reg hj (show 1 < 3 by omega) r
  obtain ⟨F2, f2, b2⟩ := q_reg hj (show 2 < 3 by omega) r
  obtain ⟨V, f3, b3⟩ := q_im hj r
  have dq : dcd j r (pf4 (zb j 0 + F0) (zb j 1 + F1) (zb j 2 + F2) (fx j V)) := by
    refine ⟨fun t ht => ?_, f3⟩
    rcases (show t = 0 ∨ t = 1 ∨ t = 2 by omega) with e | e | e <;> subst e
    · exact f0
    · exact f1
    · exact f2
  have eq : ∀ w, w < 4 → zh j w = true → pf4 (zb j 0 + F0) (zb j 1 + F1) (zb j 2 + F2) (fx j V) w = P w := by
    intro w hw hz
    rcases (show w = 0 ∨ w = 1 ∨ w = 2 ∨ w = 3 by omega) with e | e | e | e <;> subst e
    · exact q_regb hj (by omega) hz (g1 0 (by omega) hz) (fun e he => by rw [b0 e he, bits 0 (by omega) e he])
    · exact q_regb hj (by omega) hz (g1 1 (by omega) hz) (fun e he => by rw [b1 e he, bits 1 (by omega) e he])
    · exact q_regb hj (by omega) hz (g1 2 (by omega) hz) (fun e he => by rw [b2 e he, bits 2 (by omega) e he])
    · exact q_imb hj hz (g2 hz) (fun e he => by rw [b3 e he, bits 3 (by omega) e he])
  refine ⟨ow, _, dq, eq, ?_⟩
  unfold f_K_admits
  rw [if_pos ((q_own hj r).mpr ow), show f_K_register j r 1 = some (zb j 0 + F0) from f0, Option.bind_some, show f_K_register j r 2 = some (zb j 1 + F1) from f1, Option.bind_some, show f_K_register j r 4 = some (zb j 2 + F2) from f2, Option.bind_some, f3, Option.bind_some, q_allows hj, Option.bind_some]
  have := q_gdirr (i := j) (P := pf4 (zb j 0 + F0) (zb j 1 + F1) (zb j 2 + F2) (fx j V)) (Q := P) eq
  rw [show gd j (zb j 0 + F0) (zb j 1 + F1) (zb j 2 + F2) (fx j V) = true from this.trans hg, if_neg n_t]
/-! no other kind before it admits it -/
def cfl (i j : Nat) : Bool := (List.range 32).any fun k => bt (k_ownMask i) k && bt (k_ownMask j) k && (bt (k_ownBits i) k != bt (k_ownBits j) k)
def spt (i j t v : Nat) : Bool := zh j t && !(zn j t) && !(rok j t (nI v)) && (List.range 5).all fun e => bt (k_ownMask i) (pz j t e) && (bt (k_ownBits i) (pz j t e) == bt (nI v) e)
def spc (i j : Nat) : Bool := (List.range 3).any fun t => spt i j t 0 || spt i j t 2
set_option maxRecDepth 100000 in
theorem zt_cf1 : ∀ j, j < 75 → 48 ≤ j → ∀ i, i < j → 48 ≤ i → (cfl i j || spc i j) = true := by decide +kernel
set_option maxRecDepth 100000 in
theorem zt_cf2 : ∀ j, j < 37 → (j = 27 ∨ j = 32 ∨ j = 35 ∨ j = 36) → ∀ i, i < j → (cfl i j || spc i j) = true := by decide +kernel
theorem q_ownb {i : Nat} (hi : i < 75) {w : Int32} (h : own i w 0) {k : Nat} (hm : bt (k_ownMask i) k = true) : bt w k = bt (k_ownBits i) k := by
  have e := (q_own hi w).mpr h
  have f : bt (w &&& (k_ownMask i)) k = bt (k_ownBits i) k := by rw [e]
  rw [b_and, hm, Bool.and_true] at f
  exact f
theorem zt_v2 : ∀ e, e < 32 → 5 ≤ e → bt (nI 0) e = false ∧ bt (nI 2) e = false := by decide +kernel
theorem q_spt {i j t v : Nat} (hi : i < 75) (hj : j < 75) (ht : t < 3) (hv : v = 0 ∨ v = 2) (hs : spt i j t v = true) {r : Int32} (oi : own i r 0) {x : Int32} (hx : f_K_register j r (nI (2 ^ t)) = some x) (hk : rok j t x = true) : False := by
  unfold spt at hs
  simp only [Bool.and_eq_true, Bool.not_eq_true', List.all_eq_true, List.mem_range, beq_iff_eq] at hs
  obtain ⟨⟨⟨s1, s2⟩, s3⟩, s4⟩ := hs
  obtain ⟨F, f1, f2⟩ := q_reg hj ht r
  obtain ⟨e1, e2, e3, e4⟩ := zt_reg j hj t ht s1
  have e5 : ∀ e, e < 32 → pz j t e = if e < 5 then pz j t 0 + e else 99 := by rw [s2] at e4; simpa using e4
  have hF : F = nI v := b_ext fun e he => by
    rw [f2 e he]
    rcases Nat.lt_or_ge e 5 with c | c
    · obtain ⟨m1, m2⟩ := s4 e c
      rw [q_ownb hi oi m1, m2]
    · rw [e5 e he, if_neg (by omega), b_big (by omega)]
      rcases hv with z | z <;> subst z
      · exact (zt_v2 e he c).1.symm
      · exact (zt_v2 e he c).2.symm
  have : x = nI v := by
    have := Option.some.inj (hx.symm.trans f1)
    rw [this, hF, show zb j t = 0 from if_neg (fun z => Bool.noConfusion (s2.symm.trans z.2.2)), Int32.zero_add]
  rw [this] at hk
  exact Bool.noConfusion (s3.symm.trans hk)
theorem q_first {j : Nat} (hj : j < 75) (hs : 48 ≤ j ∨ j = 27 ∨ j = 32 ∨ j = 35 ∨ j = 36) {P : Nat → Int32} (hg : gd j (P 0) (P 1) (P 2) (P 3) = true) {r : Int32} (hr : f_K_compose j (P 0) (P 1) (P 2) (P 3) = some r) : ∀ i, i < j → f_K_admits i r = some false := by
  intro i hij
  have hi : i < 75 := by omega
  by_cases c : f_K_admits i r = some false
  · exact c
  exfalso
  obtain ⟨oj, Q, dq, eq, aj⟩ := q_rt hj hg hr
  have oi : own i r 0 := (q_own hi r).mp (q_adm_own c)
  have lj := q_adm_long hj (wd := r) (by rw [aj]; intro z; exact Bool.noConfusion (Option.some.inj z))
  have li := q_adm_long hi c
  have tab : (cfl i j || spc i j) = true := by
    rcases hs with h | h
    · refine zt_cf1 j hj h i hij ?_
      rcases Nat.lt_or_ge i 48 with y | y
      · have := lj.mp (li.mpr y); omega
      · exact y
    · exact zt_cf2 j (by omega) h i hij
  rcases Bool.or_eq_true_iff.mp tab with t | t
  · unfold cfl at t
    obtain ⟨k, _, hk⟩ := List.any_eq_true.mp t
    simp only [Bool.and_eq_true, bne_iff_ne, ne_eq] at hk
    obtain ⟨⟨m1, m2⟩, m3⟩ := hk
    exact m3 (by rw [← q_ownb hi oi m1, ← q_ownb hj oj m2])
  · unfold spc at t
    obtain ⟨t', ht', hk⟩ := List.any_eq_true.mp t
    have ht : t' < 3 := List.mem_range.mp ht'
    obtain ⟨g1, _⟩ := q_gd hg
    have zhj : ∀ v, spt i j t' v = true → zh j t' = true := by
      intro v hv
      unfold spt at hv
      simp only [Bool.and_eq_true] at hv
      exact hv.1.1.1
    rcases Bool.or_eq_true_iff.mp hk with s | s
    · have hz := zhj 0 s
      refine q_spt hi hj ht (Or.inl rfl) s oi (dq.1 t' ht) ?_
      rw [eq t' (by omega) hz]; exact g1 t' ht hz
    · have hz := zhj 2 s
      refine q_spt hi hj ht (Or.inr rfl) s oi (dq.1 t' ht) ?_
      rw [eq t' (by omega) hz]; exact g1 t' ht hz
theorem q_dcd {i : Nat} {w : Int32} {P Q : Nat → Int32} (h1 : dcd i w P) (h2 : dcd i w Q) {t : Nat} (ht : t < 4) : P t = Q t := by
  rcases Nat.lt_or_ge t 3 with c | c
  · exact Option.some.inj ((h1.1 t c).symm.trans (h2.1 t c))
  · have : t = 3 := by omega
    subst this
    exact Option.some.inj (h1.2.symm.trans h2.2)
/-- the word of parts that may be is of that kind -/
theorem q_found {j : Nat} (hj : j < 75) (hs : 48 ≤ j ∨ j = 27 ∨ j = 32 ∨ j = 35 ∨ j = 36) {P : Nat → Int32} (hg : gd j (P 0) (P 1) (P 2) (P 3) = true) {r : Int32} (hr : f_K_compose j (P 0) (P 1) (P 2) (P 3) = some r) (th : Int32) (pf of : Nat → Int32) (sz bg : Int32) : ∃ Q, f_M_find th pf of sz bg r = some (nI j, th, Q, of, sz, bg) ∧ dcd j r Q ∧ (∀ w, w < 4 → zh j w = true → Q w = P w) ∧ f_K_admits j r = some true := by
  obtain ⟨oj, Q, dq, eq, aj⟩ := q_rt hj hg hr
  have fst := q_first hj hs hg hr
  obtain ⟨k, p1, hM, hC, rr⟩ := q_find r th pf of sz bg
  rcases rr with ⟨rfl, h⟩ | ⟨i, hi, rfl, hd, ha, _, hl⟩
  · rw [h j hj] at aj; exact absurd (Option.some.inj aj) (by decide)
  · have : i = j := by
      rcases Nat.lt_trichotomy i j with c | c | c
      · rw [fst i c] at ha; exact absurd (Option.some.inj ha) (by decide)
      · exact c
      · rw [hl j c] at aj; exact absurd (Option.some.inj aj) (by decide)
    subst this
    exact ⟨p1, hM, hd, fun w hw hz => (q_dcd hd dq hw).trans (eq w hw hz), aj⟩
set_option maxRecDepth 100000 in
theorem zt_wide : ∀ i, i < 48 → ∀ t, t < 3 → zh i t = true → zn i t = false := by decide +kernel
theorem q_adg {i : Nat} (hi : i < 75) {w : Int32} {P : Nat → Int32} (ha : f_K_admits i w = some true) (hd : dcd i w P) : own i w 0 ∧ gd i (P 0) (P 1) (P 2) (P 3) = true := by
  have o : own i w 0 := (q_own hi w).mp (q_adm_own (by rw [ha]; intro z; exact Bool.noConfusion (Option.some.inj z)))
  refine ⟨o, ?_⟩
  unfold f_K_admits at ha
  rw [if_pos ((q_own hi w).mpr o), show f_K_register i w 1 = some (P 0) from hd.1 0 (by omega), Option.bind_some, show f_K_register i w 2 = some (P 1) from hd.1 1 (by omega), Option.bind_some, show f_K_register i w 4 = some (P 2) from hd.1 2 (by omega), Option.bind_some, hd.2, Option.bind_some, q_allows hi, Option.bind_some] at ha
  cases g : gd i (P 0) (P 1) (P 2) (P 3) with
  | true => rfl
  | false => rw [g, if_pos n_f] at ha; exact absurd (Option.some.inj ha) (by decide)
/-- the parts of a long word put together again are the word -/
theorem q_back {i : Nat} (hi : i < 48) {w : Int32} {P : Nat → Int32} (ha : f_K_admits i w = some true) (hd : dcd i w P) : f_K_compose i (P 0) (P 1) (P 2) (P 3) = some w := by
  have hi2 : i < 75 := by omega
  obtain ⟨o, _⟩ := q_adg hi2 ha hd
  have hB : zB i = 32 := if_pos hi
  obtain ⟨r, h1, hb⟩ := q_compose hi2 (P 0) (P 1) (P 2) (P 3)
  rw [h1]
  congr 1
  apply b_ext
  intro k hk
  rw [hb k hk, decide_eq_true (by omega), Bool.true_and]
  unfold mbit
  rcases Nat.lt_or_ge (cz i k) 2 with hc | hc
  · rw [if_pos hc]; exact (o k (Nat.zero_le k) (by omega) hc).symm
  · obtain ⟨g1, g2⟩ := q_hasc hi2 hk hc
    have hp := (zt_pos i hi2 k hk hc).2
    have hce := (zt_cod3 i hi2 k hk hc).1
    rw [if_neg (by omega), q_pf4 P g1]
    generalize ce (cz i k) = e at hp hce ⊢
    generalize cw (cz i k) = t at g1 g2 hp ⊢
    rcases Nat.lt_or_ge t 3 with c | c
    · obtain ⟨F, f1, f2⟩ := q_reg hi2 c w
      have : P t = F := by
        rw [Option.some.inj ((hd.1 t c).symm.trans f1), show zb i t = 0 from if_neg (fun z => Bool.noConfusion ((zt_wide i hi t c g2).symm.trans z.2.2)), Int32.zero_add]
      rw [this, f2 e (by omega), hp]
    · have t3 : t = 3 := by omega
      subst t3
      obtain ⟨V, f1, f2⟩ := q_im hi2 w
      obtain ⟨b1, b2, b3⟩ := zt_hb i hi2
      have hle : e ≤ zhb i := by
        rcases Nat.lt_or_ge (zhb i) e with y | y
        · have := b3 e (by omega) y; omega
        · exact y
      have e3 : P 3 = sx i V := by
        rw [Option.some.inj (hd.2.symm.trans f1)]; exact if_neg (by omega)
      rw [e3]
      cases hs : zs i 5 with
      | true =>
        have hsx : sx i V = if bt V (zhb i) = true then V - ((2 : Int32) <<< (nI (zhb i) &&& 31)) else V := by
          unfold sx
          by_cases c : bt V (zhb i) = true
          · rw [if_pos c, if_pos ⟨hs, c⟩]
          · rw [if_neg c, if_neg (fun z => c z.2)]
        rw [hsx, b_sx b2 (fun e he g => by rw [f2 e he, b3 e he g, b_big (show 32 ≤ 99 by omega)]) (by omega), if_pos hle, f2 e (by omega), hp]
      | false =>
        rw [show sx i V = V from if_neg (fun z => Bool.noConfusion (hs.symm.trans z.1)), f2 e (by omega), hp]
/-! the search for a short word -/
theorem q_shl {i : Nat} (hi : i < 48) {w : Int32} {P : Nat → Int32} (ha : f_K_admits i w = some true) (hd : dcd i w P) (hf : ∀ i', i' < i → f_K_admits i' w = some false) (t0 : Int32) (p0 o0 : Nat → Int32) (s0 g0 th : Int32) (of : Nat → Int32) (sz bg : Int32) : ∀ (d j : Nat) (pf : Nat → Int32), j + d = 75 → 48 ≤ j → ∀ n m, ∃ v pf', f_M_shrink_L3 t0 p0 o0 s0 g0 w (n + d + 1) (nI j) th pf of sz bg = some (v, th, pf', of, sz, bg) ∧ f_C_shortOf_L27 (nI i) (P 0) (P 1) (P 2) (P 3) (m + d + 1) w (nI j) = some v := by
  have fnd : ∀ pf : Nat → Int32, ∃ Q, f_M_find th pf of sz bg w = some (nI i, th, Q, of, sz, bg) ∧ dcd i w Q := by
    intro pf
    obtain ⟨k, p1, hM, hC, rr⟩ := q_find w th pf of sz bg
    rcases rr with ⟨rfl, h⟩ | ⟨i2, hi2, rfl, hd2, ha2, _, hl⟩
    · rw [h i (by omega)] at ha; exact absurd (Option.some.inj ha) (by decide)
    · have : i2 = i := by
        rcases Nat.lt_trichotomy i2 i with c | c | c
        · rw [hf i2 c] at ha2; exact absurd (Option.some.inj ha2) (by decide)
        · exact c
        · rw [hl i c] at ha; exact absurd (Option.some.inj ha) (by decide)
      subst this
      exact ⟨p1, hM, hd2⟩
  intro d
  induction d with
  | zero =>
    intro j pf hj h48 n m
    have : j = 75 := by omega
    subst this
    refine ⟨-1, pf, ?_, ?_⟩
    · rw [f_M_shrink_L3, if_pos (show (75 : Int32) ≤ nI 75 by decide)]
    · rw [f_C_shortOf_L27, if_pos (show (75 : Int32) ≤ nI 75 by decide)]
  | succ d ih =>
    intro j pf hj h48 n m
    have hj75 : j < 75 := by omega
    obtain ⟨s1, s2, s3, s4, s5⟩ := zt_slot j hj75 h48
    obtain ⟨Q, q1, q2⟩ := fnd pf
    have QP : ∀ t, t < 4 → Q t = P t := fun t ht => q_dcd q2 hd ht
    show ∃ v pf', f_M_shrink_L3 t0 p0 o0 s0 g0 w ((n + d + 1) + 1) (nI j) th pf of sz bg = some (v, th, pf', of, sz, bg) ∧ f_C_shortOf_L27 (nI i) (P 0) (P 1) (P 2) (P 3) ((m + d + 1) + 1) w (nI j) = some v
    rw [f_M_shrink_L3, if_neg (show ¬ (75 : Int32) ≤ nI j from nI_ge (b := 75) hj75 (by decide)), q1, Option.bind_some, s5, Option.bind_some, f_C_shortOf_L27, if_neg (show ¬ (75 : Int32) ≤ nI j from nI_ge (b := 75) hj75 (by decide)), if_neg (nI_in (N := 75) hj75 (by omega)), nI_clamp (by omega), s2]
    dsimp only
    have go : ∀ pf2 : Nat → Int32, ∃ v pf', f_M_shrink_L3 t0 p0 o0 s0 g0 w (n + d + 1) (nI j + 1) th pf2 of sz bg = some (v, th, pf', of, sz, bg) ∧ f_C_shortOf_L27 (nI i) (P 0) (P 1) (P 2) (P 3) (m + d + 1) w (nI j + 1) = some v := by
      intro pf2
      rw [nI_1]
      exact ih (j + 1) pf2 (by omega) (by omega) n m
    by_cases c : nI i = nI (lgk j)
    · rw [if_pos c, if_pos c.symm, q_good hj75, Option.bind_some, q_allows hj75, Option.bind_some, QP 0 (by omega), QP 1 (by omega), QP 2 (by omega), QP 3 (by omega)]
      cases hg : gd j (P 0) (P 1) (P 2) (P 3) with
      | false =>
        rw [if_pos n_f, if_pos n_f]
        exact go Q
      | true =>
        obtain ⟨r, hr, _⟩ := q_compose hj75 (P 0) (P 1) (P 2) (P 3)
        have hput : f_M_put th Q of sz bg (nI j) = some r := by rw [q_put_eq hj75, QP 0 (by omega), QP 1 (by omega), QP 2 (by omega), QP 3 (by omega)]; exact hr
        obtain ⟨R, r1, r2, r3, r4⟩ := q_found hj75 (Or.inl h48) hg hr th Q of sz bg
        obtain ⟨S, v, e1, e2⟩ := q_stretch hj75 h48 th R of sz bg
        rw [q_lirr hj75 h48 R P r3] at e2
        rw [if_neg n_t, if_neg n_t, hput, Option.bind_some, r1, Option.bind_some, e2, Option.bind_some, hr, Option.bind_some]
        dsimp only
        rw [if_pos rfl, e1, Option.bind_some]
        dsimp only
        by_cases cv : v = w
        · rw [if_pos cv, if_pos cv]
          exact ⟨r, S, rfl, rfl⟩
        · rw [if_neg cv, if_neg cv]
          exact go S
    · rw [if_neg c, if_neg (fun z => c z.symm)]
      exact go Q
theorem q_shn {w : Int32} (hn : ∀ i, i < 75 → f_K_admits i w = some false) (t0 : Int32) (p0 o0 : Nat → Int32) (s0 g0 th : Int32) (of : Nat → Int32) (sz bg : Int32) : ∀ (d j : Nat) (pf : Nat → Int32), j + d = 75 → 48 ≤ j → ∀ n, ∃ pf', f_M_shrink_L3 t0 p0 o0 s0 g0 w (n + d + 1) (nI j) th pf of sz bg = some (-1, th, pf', of, sz, bg) := by
  intro d
  induction d with
  | zero =>
    intro j pf hj h48 n
    have : j = 75 := by omega
    subst this
    exact ⟨pf, by rw [f_M_shrink_L3, if_pos (show (75 : Int32) ≤ nI 75 by decide)]⟩
  | succ d ih =>
    intro j pf hj h48 n
    have hj75 : j < 75 := by omega
    obtain ⟨s1, s2, s3, s4, s5⟩ := zt_slot j hj75 h48
    obtain ⟨k, p1, hM, hC, rr⟩ := q_find w th pf of sz bg
    rcases rr with ⟨rfl, h⟩ | ⟨i2, hi2, rfl, hd2, ha2, _, hl⟩
    · show ∃ pf', f_M_shrink_L3 t0 p0 o0 s0 g0 w ((n + d + 1) + 1) (nI j) th pf of sz bg = some (-1, th, pf', of, sz, bg)
      rw [f_M_shrink_L3, if_neg (show ¬ (75 : Int32) ≤ nI j from nI_ge (b := 75) hj75 (by decide)), hM, Option.bind_some, s5, Option.bind_some]
      dsimp only
      rw [if_neg (fun z => zt_nm1 (lgk j) (by omega) z.symm), nI_1]
      exact ih (j + 1) p1 (by omega) (by omega) n
    · rw [hn i2 hi2] at ha2; exact absurd (Option.some.inj ha2) (by decide)
theorem q_shk {i : Nat} (hi : i < 75) (P : Nat → Int32) (w : Int32) : ∀ (d j : Nat), j + d = 48 → ∀ m, f_C_shortOf_L27 (nI i) (P 0) (P 1) (P 2) (P 3) (m + d) w (nI j) = f_C_shortOf_L27 (nI i) (P 0) (P 1) (P 2) (P 3) m w (nI 48) := by
  intro d
  induction d with
  | zero => intro j h m; rw [← h]; rfl
  | succ d ih =>
    intro j h m
    show f_C_shortOf_L27 (nI i) (P 0) (P 1) (P 2) (P 3) (m + d + 1) w (nI j) = _
    rw [f_C_shortOf_L27, if_neg (show ¬ (75 : Int32) ≤ nI j from nI_ge (b := 75) (by omega) (by decide)), if_neg (nI_in (N := 75) (by omega) (by omega)), nI_clamp (by omega), (zt_nst j (by omega)).1, if_neg (fun z => zt_nm1 i hi z.symm), nI_1]
    exact ih (j + 1) (by omega) m
theorem q_shrink {i : Nat} (hi : i < 48) {w : Int32} {P : Nat → Int32} (ha : f_K_admits i w = some true) (hd : dcd i w P) (hf : ∀ i', i' < i → f_K_admits i' w = some false) (th : Int32) (pf of : Nat → Int32) (sz bg : Int32) : ∃ v pf', f_M_shrink th pf of sz bg w = some (v, th, pf', of, sz, bg) ∧ f_C_shortOf (nI i) (P 0) (P 1) (P 2) (P 3) = some v := by
  obtain ⟨v, pf', e1, e2⟩ := q_shl hi ha hd hf th pf of sz bg th of sz bg 27 48 pf (by omega) (by omega) 52 4
  refine ⟨v, pf', e1, ?_⟩
  have hk : f_C_isKind (nI i) = some true := by
    rcases q_isk (nI i) with ⟨j, hj, _, h1, _⟩ | ⟨h1, h2⟩
    · exact h1
    · exfalso
      unfold f_C_isKind at h1
      rw [if_neg (nI_pos (by omega)), if_neg (show ¬ (75 : Int32) ≤ nI i from nI_ge (b := 75) (by omega) (by decide))] at h1
      exact absurd (Option.some.inj h1) (by decide)
  unfold f_C_shortOf
  rw [hk, Option.bind_some, if_neg n_t, if_neg (nI_in (N := 75) (by omega) (by omega)), nI_clamp (by omega), q_back hi ha hd, Option.bind_some]
  exact (q_shk (by omega) P w 48 0 (by omega) 32).trans e2
set_option maxRecDepth 100000 in
theorem zt_all3 : ∀ j, j < 37 → (j = 27 ∨ j = 32 ∨ j = 35 ∨ j = 36) → zh j 3 = false ∧ ∀ t, t < 3 → zh j t = true := by decide +kernel
theorem q_reg31 {i t : Nat} (hi : i < 48) {x : Int32} (ht : t < 3) (hz : zh i t = true) : rok i t x = decide (0 ≤ x.toInt ∧ x.toInt ≤ 31) := by
  unfold rok
  rw [zt_wide i hi t ht hz, if_neg (by decide)]
  exact decide_eq_decide.mpr (by omega)
theorem q_gd4 {j : Nat} (hj : j = 27 ∨ j = 32 ∨ j = 35 ∨ j = 36) {P : Nat → Int32} (h : ∀ t, t < 3 → 0 ≤ (P t).toInt ∧ (P t).toInt ≤ 31) : gd j (P 0) (P 1) (P 2) (P 3) = true := by
  obtain ⟨z1, z2⟩ := zt_all3 j (by omega) hj
  have e : ∀ t, t < 3 → rk j t (P t) = true := by
    intro t ht
    unfold rk
    rw [if_pos (z2 t ht), q_reg31 (by omega) ht (z2 t ht)]
    exact decide_eq_true (h t ht)
  unfold gd
  rw [e 0 (by omega), e 1 (by omega), e 2 (by omega), z1]; rfl
/-- the word of another order of registers, and its search -/
theorem q_again {j : Nat} (hj : j = 27 ∨ j = 32 ∨ j = 35 ∨ j = 36) {P : Nat → Int32} (h : ∀ t, t < 3 → 0 ≤ (P t).toInt ∧ (P t).toInt ≤ 31) (h3 : P 3 = 0) (th : Int32) (of : Nat → Int32) (sz bg : Int32) : ∃ r v pf', f_M_put th P of sz bg (nI j) = some r ∧ f_M_shrink th P of sz bg r = some (v, th, pf', of, sz, bg) ∧ f_C_shortOf (nI j) (P 0) (P 1) (P 2) 0 = some v := by
  have hj75 : j < 75 := by omega
  obtain ⟨r, hr, _⟩ := q_compose hj75 (P 0) (P 1) (P 2) (P 3)
  have hg := q_gd4 hj h
  obtain ⟨Q, f1, f2, f3, f4⟩ := q_found hj75 (Or.inr hj) hg hr th P of sz bg
  obtain ⟨v, pf', s1, s2⟩ := q_shrink (show j < 48 by omega) f4 f2 (q_first hj75 (Or.inr hj) hg hr) th P of sz bg
  obtain ⟨z1, z2⟩ := zt_all3 j (by omega) hj
  have Q3 : Q 3 = 0 := by
    obtain ⟨V, g1, g2⟩ := q_im hj75 r
    have hk : f_K_immediate j r = some 0 := by
      unfold f_K_immediate
      rw [show f_K_has j 8 = some false from (zt_has j hj75 3 (by omega)).trans (by rw [z1]), Option.bind_some, if_pos n_f]
    exact Option.some.inj (f2.2.symm.trans hk)
  refine ⟨r, v, pf', (q_put_eq hj75 th P of sz bg).trans hr, s1, ?_⟩
  rw [f3 0 (by omega) (z2 0 (by omega)), f3 1 (by omega) (z2 1 (by omega)), f3 2 (by omega) (z2 2 (by omega)), Q3] at s2
  exact s2
theorem q_imm0 {i : Nat} (hi : i < 75) (hz : zh i 3 = false) {w : Int32} {P : Nat → Int32} (hd : dcd i w P) : P 3 = 0 := by
  have hk : f_K_immediate i w = some 0 := by
    unfold f_K_immediate
    rw [show f_K_has i 8 = some false from (zt_has i hi 3 (by omega)).trans (by rw [hz]), Option.bind_some, if_pos n_f]
  exact Option.some.inj (hd.2.symm.trans hk)
set_option maxRecDepth 100000 in
theorem zt_18 : zh 18 0 = true ∧ zh 18 1 = true := by decide +kernel
theorem q_shorter (th : Int32) (pf of : Nat → Int32) (sz bg w : Int32) : ∃ v t pf', f_M_shorter th pf of sz bg w = some (v, t, pf', of, sz, bg) ∧ f_C_shorter w = some v := by
  obtain ⟨k0, p1, hM0, hC, rr⟩ := q_find w 0 pf of sz bg
  unfold f_M_shorter f_C_shorter f_M_isLong f_C_isLong
  rw [hC, Option.bind_some]
  by_cases hl : w &&& 3 = 3
  · rw [if_pos hl, Option.bind_some, if_neg n_t, Option.bind_some, if_neg n_t]
    rcases rr with ⟨rfl, hn⟩ | ⟨i, hi, rfl, hd, ha, h48, hf⟩
    · obtain ⟨pf', e⟩ := q_shn hn 0 pf of sz bg 0 of sz bg 27 48 pf (by omega) (by omega) 52
      have e2 : f_M_shrink 0 pf of sz bg w = some (-1, 0, pf', of, sz, bg) := e
      obtain ⟨k2, p2, hM2, _, r2⟩ := q_find w 0 pf' of sz bg
      rcases r2 with ⟨rfl, _⟩ | ⟨i2, hi2, rfl, _, ha2, _, _⟩
      · rw [e2, Option.bind_some]
        dsimp only
        rw [if_pos rfl, hM2, Option.bind_some, if_neg n_p1]
        dsimp only
        rw [if_pos rfl]
        exact ⟨-1, 0, p2, rfl, rfl⟩
      · rw [hn i2 hi2] at ha2; exact absurd (Option.some.inj ha2) (by decide)
    · have hi48 : i < 48 := h48.mp hl
      obtain ⟨v, q1, s1, s2⟩ := q_shrink hi48 ha hd hf 0 pf of sz bg
      obtain ⟨o, hg⟩ := q_adg hi ha hd
      obtain ⟨g1, g2⟩ := q_gd hg
      have reg : ∀ t, t < 3 → zh i t = true → 0 ≤ (p1 t).toInt ∧ (p1 t).toInt ≤ 31 := by
        intro t ht hz
        have := g1 t ht hz
        rw [q_reg31 hi48 ht hz] at this
        exact of_decide_eq_true this
      obtain ⟨k2, p2, hM2, hC2, r2⟩ := q_find w 0 q1 of sz bg
      have ek : k2 = nI i := Option.some.inj (hC2.symm.trans hC)
      have hp2 : dcd i w p2 := by
        rcases r2 with ⟨z, _⟩ | ⟨i2, hi2, z, hd2, _, _, _⟩
        · exact absurd (ek.symm.trans z) (zt_nm1 i hi)
        · have : i2 = i := (nI_eq (by omega) (by omega)).mp (z.symm.trans ek)
          subst this; exact hd2
      rw [ek] at hM2
      have PP : ∀ t, t < 4 → p2 t = p1 t := fun t ht => q_dcd hp2 hd ht
      rw [if_neg (zt_nm1 i hi), if_neg (nI_in (N := 75) hi (by omega)), nI_clamp (by omega), show f_K_register i w 1 = some (p1 0) from hd.1 0 (by omega), Option.bind_some, show f_K_register i w 2 = some (p1 1) from hd.1 1 (by omega), Option.bind_some, show f_K_register i w 4 = some (p1 2) from hd.1 2 (by omega), Option.bind_some, hd.2, Option.bind_some, s2, Option.bind_some, s1, Option.bind_some]
      dsimp only
      by_cases cv : v = -1
      · subst cv
        rw [if_pos rfl, if_pos rfl, hM2, Option.bind_some, if_neg n_p1, show (1 : Int32).toNatClampNeg = 1 from by decide]
        dsimp only
        by_cases c4 : i = 27 ∨ i = 32 ∨ i = 35 ∨ i = 36
        · have hex : f_C_exchanges (nI i) = some true := by
            rcases c4 with z | z | z | z <;> subst z <;> decide
          obtain ⟨z1, z2⟩ := zt_all3 i (by omega) c4
          rw [hex, Option.bind_some, if_neg n_t]
          have tail : ∃ v t pf', f_M_shorter_L65 th pf of sz bg w (-1) (nI i) (p2 1) 0 p2 of sz bg = some (v, t, pf', of, sz, bg) ∧ (if p1 0 = p1 2 then ((f_C_shortOf (nI i) (p1 0) (p1 2) (p1 1) (p1 3)).bind fun r_30 => f_C_shorter_L104 w (nI i) i (p1 0) (p1 1) (p1 2) (p1 3) r_30) else (f_C_shorter_L104 w (nI i) i (p1 0) (p1 1) (p1 2) (p1 3) (-1))) = some v := by
            unfold f_M_shorter_L65
            rw [if_neg n_p0, if_neg n_p2, if_neg n_p2, if_neg n_p1, if_neg n_p2, show (0 : Int32).toNatClampNeg = 0 from by decide, show (1 : Int32).toNatClampNeg = 1 from by decide, show (2 : Int32).toNatClampNeg = 2 from by decide, PP 0 (by omega), PP 1 (by omega), PP 2 (by omega)]
            have n18 : ¬ nI i = 18 := fun z => by have := (nI_eq (b := 18) (by omega) (by omega)).mp z; omega
            have l104 : ∀ x : Int32, f_C_shorter_L104 w (nI i) i (p1 0) (p1 1) (p1 2) (p1 3) x = some x := by
              intro x
              unfold f_C_shorter_L104
              rw [if_neg n18]
              split <;> rfl
            by_cases cd : p1 0 = p1 2
            · rw [if_pos cd, if_pos cd]
              obtain ⟨r, v2, pf2, a1, a2, a3⟩ := q_again c4 (P := upd (upd p2 1 (p1 2)) 2 (p1 1)) (fun t ht => by
                rcases (show t = 0 ∨ t = 1 ∨ t = 2 by omega) with e | e | e <;> subst e
                · have := reg 0 (by omega) (z2 0 (by omega)); rw [← PP 0 (by omega)] at this; exact this
                · exact reg 2 (by omega) (z2 2 (by omega))
                · exact reg 1 (by omega) (z2 1 (by omega))) (show p2 3 = 0 from q_imm0 hi z1 hp2) 0 of sz bg
              have a3' : f_C_shortOf (nI i) (p1 0) (p1 2) (p1 1) (p1 3) = some v2 := by
                rw [q_imm0 hi z1 hd, ← PP 0 (by omega)]; exact a3
              rw [a1, Option.bind_some, a2, Option.bind_some, a3', Option.bind_some, l104]
              exact ⟨v2, 0, pf2, rfl, rfl⟩
            · rw [if_neg cd, if_neg cd, l104]
              unfold f_M_shorter_L110
              rw [if_neg n18]
              exact ⟨-1, 0, p2, rfl, rfl⟩
          rcases c4 with z | z | z | z <;> subst z <;> exact tail
        · have hex : f_C_exchanges (nI i) = some false := by
            unfold f_C_exchanges
            rw [if_neg (show ¬ nI i = 27 from fun z => c4 (Or.inl ((nI_eq (b := 27) (by omega) (by omega)).mp z))), if_neg (show ¬ nI i = 32 from fun z => c4 (Or.inr (Or.inl ((nI_eq (b := 32) (by omega) (by omega)).mp z)))), if_neg (show ¬ nI i = 35 from fun z => c4 (Or.inr (Or.inr (Or.inl ((nI_eq (b := 35) (by omega) (by omega)).mp z))))), if_neg (show ¬ nI i = 36 from fun z => c4 (Or.inr (Or.inr (Or.inr ((nI_eq (b := 36) (by omega) (by omega)).mp z)))))]
          rw [hex, Option.bind_some, if_pos n_f, if_neg (show ¬ nI i = 27 from fun z => c4 (Or.inl ((nI_eq (b := 27) (by omega) (by omega)).mp z))), if_neg (show ¬ nI i = 32 from fun z => c4 (Or.inr (Or.inl ((nI_eq (b := 32) (by omega) (by omega)).mp z)))), if_neg (show ¬ nI i = 35 from fun z => c4 (Or.inr (Or.inr (Or.inl ((nI_eq (b := 35) (by omega) (by omega)).mp z))))), if_neg (show ¬ nI i = 36 from fun z => c4 (Or.inr (Or.inr (Or.inr ((nI_eq (b := 36) (by omega) (by omega)).mp z)))))]
          unfold f_M_shorter_L110 f_C_shorter_L104
          rw [if_pos rfl]
          by_cases c18 : nI i = 18
          · have i18 : i = 18 := (nI_eq (b := 18) (by omega) (by omega)).mp c18
            rw [if_pos c18, if_pos c18, if_neg n_p3, if_neg n_p0, if_neg n_p1, if_neg n_p2, show (0 : Int32).toNatClampNeg = 0 from by decide, show (1 : Int32).toNatClampNeg = 1 from by decide, show (2 : Int32).toNatClampNeg = 2 from by decide, show (3 : Int32).toNatClampNeg = 3 from by decide, PP 0 (by omega), PP 1 (by omega), PP 3 (by omega)]
            by_cases d3 : p1 3 = 0
            · rw [if_pos d3, if_pos d3]
              by_cases d0 : p1 0 = 0
              · rw [if_pos d0, if_pos d0]; exact ⟨-1, 0, p2, rfl, rfl⟩
              rw [if_neg d0, if_neg d0]
              by_cases d1 : p1 1 = 0
              · rw [if_pos d1, if_pos d1]; exact ⟨-1, 0, p2, rfl, rfl⟩
              rw [if_neg d1, if_neg d1]
              subst i18
              obtain ⟨r, v2, pf2, a1, a2, a3⟩ := q_again (Or.inl rfl) (P := upd (upd p2 1 0) 2 (p1 1)) (fun t ht => by
                rcases (show t = 0 ∨ t = 1 ∨ t = 2 by omega) with e | e | e <;> subst e
                · have := reg 0 (by omega) zt_18.1; rw [← PP 0 (by omega)] at this; exact this
                · exact (by decide : (0 : Int) ≤ (0 : Int32).toInt ∧ (0 : Int32).toInt ≤ 31)
                · exact reg 1 (by omega) zt_18.2) (show p2 3 = 0 from (PP 3 (by omega)).trans d3) 0 of sz bg
              have a1' : f_M_put 0 (upd (upd p2 1 0) 2 (p1 1)) of sz bg 27 = some r := a1
              have a3' : f_C_shortOf 27 (p1 0) 0 (p1 1) 0 = some v2 := by
                rw [← PP 0 (by omega)]; exact a3
              rw [a1', Option.bind_some, a2, Option.bind_some, a3', Option.bind_some]
              exact ⟨v2, 0, pf2, rfl, rfl⟩
            · rw [if_neg d3, if_neg d3]; exact ⟨-1, 0, p2, rfl, rfl⟩
          · rw [if_neg c18, if_neg c18]; exact ⟨-1, 0, p2, rfl, rfl⟩
      · rw [if_neg cv, if_neg cv]
        unfold f_C_shorter_L104
        rw [if_neg cv]
        exact ⟨v, 0, q1, rfl, rfl⟩
  · rw [if_neg hl, Option.bind_some, if_pos n_f, Option.bind_some, if_pos n_f]
    refine ⟨-1, 0, pf, rfl, ?_⟩
    split <;> rfl
