/-! the reference's put and the class's compose: the same word, bit by bit -/
def mbit (pf : Nat → Int32) (c : Nat) : Bool := if c < 2 then decide (c = 1) else bt (pf (cw c)) (ce c)
theorem q_small : ∀ c, c < 2 → ∀ j, j < 32 → bt (nI c) j = (decide (j = 0) && decide (c = 1)) := by decide +kernel
theorem q_zB (i : Nat) : zB i ≤ 32 := by unfold zB; split <;> omega
theorem q_ix {i k : Nat} : (32 * nI i + nI k : Int32) = nI (32 * i + k) := by
  rw [show (32 * nI i : Int32) = nI (32 * i) from pk_mul 32 i]; exact nI_add _ _
theorem q_put_L {i : Nat} (hi : i < 75) (th : Int32) (pf of : Nat → Int32) (sz bg : Int32) : ∀ (n k : Nat) (acc : Int32), k ≤ zB i → zB i < k + n → ∃ r, f_M_put_L4 th pf of sz bg (nI i) n acc (nI k) = some r ∧ ∀ j, j < 32 → bt r j = (bt acc j || (decide (k ≤ j ∧ j < zB i) && mbit pf (cz i j))) := by
  intro n
  have hB := q_zB i
  induction n with
  | zero => intro k acc h1 h2; omega
  | succ n ih =>
    intro k acc h1 h2
    rw [f_M_put_L4, zt_mbits i hi, Option.bind_some]
    by_cases hk : k = zB i
    · subst hk
      refine ⟨acc, if_pos (nI_le (Nat.le_refl _) (by omega)), ?_⟩
      intro j hj
      rw [decide_eq_false (by omega), Bool.false_and, Bool.or_false]
    · have hk2 : k < zB i := by omega
      rw [if_neg (nI_ge hk2 (by omega)), q_ix, if_neg (nI_in (N := 2400) (by omega) (by omega)), nI_clamp (by omega), zt_code i hi k (by omega)]
      have step : ∀ t0 : Int32, (∀ j, j < 32 → bt t0 j = (decide (j = 0) && mbit pf (cz i k))) → ∃ r, f_M_put_L90 th pf of sz bg (nI i) (fun y0 y1 => f_M_put_L4 th pf of sz bg (nI i) n y0 y1) acc (nI k) (nI (cz i k)) t0 = some r ∧ ∀ j, j < 32 → bt r j = (bt acc j || (decide (k ≤ j ∧ j < zB i) && mbit pf (cz i j))) := by
        intro t0 ht0
        obtain ⟨r, hr, hb⟩ := ih (k + 1) (acc ||| (t0 <<< (nI k &&& 31))) (by omega) (by omega)
        refine ⟨r, ?_, ?_⟩
        · unfold f_M_put_L90
          show f_M_put_L4 th pf of sz bg (nI i) n (acc ||| (t0 <<< (nI k &&& 31))) (nI k + 1) = some r
          rw [nI_1]; exact hr
        · intro j hj
          rw [hb j hj, b_or, b_oneL k (by omega) ht0 hj]
          by_cases e : j = k
          · subst e
            rw [decide_eq_true rfl, decide_eq_true (show j ≤ j ∧ j < zB i by omega), decide_eq_false (show ¬ (j + 1 ≤ j ∧ j < zB i) by omega)]; simp
          · rw [decide_eq_false e]
            have : decide (k + 1 ≤ j ∧ j < zB i) = decide (k ≤ j ∧ j < zB i) := decide_eq_decide.mpr (by omega)
            rw [this]; simp
      have hc3 := zt_cod3 i hi k (by omega)
      rcases zt_cod2 i hi k (by omega) with h | h | h
      · rw [if_neg (show ¬ (2 : Int32) ≤ nI (cz i k) from nI_ge (b := 2) h (by decide))]
        refine step _ ?_
        intro j hj
        rw [q_small _ h j hj]; unfold mbit; rw [if_pos h]
      · obtain ⟨e1, e2, e3⟩ := hc3 (by omega)
        have hd : (nI (cz i k) / 100 - 1 : Int32) = nI (cz i k / 100 - 1) := by
          rw [show (nI (cz i k) / 100 : Int32) = nI (cz i k / 100) from pk_div (d := 100) (by omega) (by decide) (by decide)]
          exact pk_sub (b := 1) (by omega)
        have hr : (nI (cz i k) - nI (cz i k) / 100 * 100 : Int32) = nI (cz i k % 100) := pk_rem (d := 100) (by omega) (by decide) (by decide)
        have hw : cw (cz i k) = cz i k / 100 - 1 := by unfold cw; rw [if_pos h.2]
        rw [if_pos (show (2 : Int32) ≤ nI (cz i k) from nI_le (a := 2) (by omega) (by omega)), if_neg (show ¬ (500 : Int32) ≤ nI (cz i k) from nI_ge (b := 500) h.2 (by omega)), hd, if_neg (nI_in (N := 4) (by omega) (by omega)), nI_clamp (by omega), hr]
        refine step _ ?_
        intro j hj
        rw [b_one _ (by unfold ce at e1; omega) _ hj]
        unfold mbit; rw [if_neg (by omega), hw]; rfl
      · obtain ⟨e1, e2, e3⟩ := hc3 (by omega)
        have hd : (nI (cz i k) / 100 - 5 : Int32) = nI (cz i k / 100 - 5) := by
          rw [show (nI (cz i k) / 100 : Int32) = nI (cz i k / 100) from pk_div (d := 100) (by omega) (by decide) (by decide)]
          exact pk_sub (b := 5) (by omega)
        have hr : (nI (cz i k) - nI (cz i k) / 100 * 100 : Int32) = nI (cz i k % 100) := pk_rem (d := 100) (by omega) (by decide) (by decide)
        have hw : cw (cz i k) = cz i k / 100 - 5 := by unfold cw; rw [if_neg (by omega)]
        have h3 := e3 h.1
        rw [if_pos (show (2 : Int32) ≤ nI (cz i k) from nI_le (a := 2) (by omega) (by omega)), if_pos (show (500 : Int32) ≤ nI (cz i k) from nI_le (a := 500) h.1 (by omega)), hd, if_neg (nI_in (N := 4) (by omega) (by omega)), nI_clamp (by omega), hr]
        refine step _ ?_
        intro j hj
        rw [b_one _ (by unfold ce at e1; omega) _ hj, b_m8 _ _ (by unfold ce at h3; exact h3)]
        unfold mbit; rw [if_neg (by omega), hw]; rfl
theorem q_put {i : Nat} (hi : i < 75) (th : Int32) (pf of : Nat → Int32) (sz bg : Int32) : ∃ r, f_M_put th pf of sz bg (nI i) = some r ∧ ∀ j, j < 32 → bt r j = (decide (j < zB i) && mbit pf (cz i j)) := by
  have hB := q_zB i
  obtain ⟨r, hr, hb⟩ := q_put_L hi th pf of sz bg 80 0 0 (by omega) (by omega)
  refine ⟨r, hr, fun j hj => ?_⟩
  rw [hb j hj, b_0, Bool.false_or]
  have : decide (0 ≤ j ∧ j < zB i) = decide (j < zB i) := decide_eq_decide.mpr (by omega)
  rw [this]
theorem q_row0 {i k : Nat} (hi : i < 75) (h : zB i ≤ k) (hk : k < 32) : cz i k < 2 := by
  rcases Nat.lt_or_ge (cz i k) 2 with h2 | h2
  · exact h2
  · have := (zt_pos i hi k hk h2).1; omega
set_option maxRecDepth 100000 in
theorem zt_row0 : ∀ i, i < 75 → ∀ k, k < 32 → zB i ≤ k → cz i k = 0 := by decide +kernel
/-- the class's bits of a register -/
theorem q_rb {i j : Nat} (hi : i < 75) (hj : j < 3) (x : Int32) : ∃ r, f_K_registerBits i (nI (2 ^ j)) x = some r ∧ ∀ k, k < 32 → bt r k = (decide (2 ≤ cz i k ∧ cw (cz i k) = j) && bt x (ce (cz i k))) := by
  unfold f_K_registerBits
  rw [zt_has i hi j (by omega), Option.bind_some]
  have hp := zt_pos i hi
  have hv := zt_inv i hi j (by omega)
  cases hz : zh i j with
  | false =>
    refine ⟨0, if_pos rfl, ?_⟩
    intro k hk
    rw [b_0]
    have hn := zt_nreg i hi j (by omega) hz
    symm
    rw [Bool.and_eq_false_iff]; left
    rw [decide_eq_false_iff_not]
    rintro ⟨h2, hw⟩
    have h3 := (hp k hk h2).2
    have h4 := (zt_cod3 i hi k hk h2).1
    rw [hw, hn _ (by omega)] at h3
    omega
  | true =>
    obtain ⟨e1, e2, e3, e4⟩ := zt_reg i hi j hj hz
    rw [if_neg (show ¬ bI true = 0 by decide), e1, Option.bind_some, e2]
    have key : ∀ (m : Int32) (wd : Nat), wd ≤ 5 → (∀ e, bt m e = decide (e < wd)) → (∀ e, e < 32 → pz i j e = if e < wd then pz i j 0 + e else 99) → ∀ k, k < 32 → bt ((x &&& m) <<< (nI (pz i j 0) &&& 31)) k = (decide (2 ≤ cz i k ∧ cw (cz i k) = j) && bt x (ce (cz i k))) := by
      intro m wd hwd hm hpz k hk
      rw [b_shl _ (by omega) _ hk, b_and, hm]
      by_cases hin : pz i j 0 ≤ k ∧ k - pz i j 0 < wd
      · have h9 := hpz (k - pz i j 0) (by omega)
        rw [if_pos hin.2] at h9
        rcases hv (k - pz i j 0) (by omega) with h5 | ⟨h5, h6, h7, h8⟩
        · omega
        · have h10 : pz i j (k - pz i j 0) = k := by omega
          rw [h10] at h6 h7 h8
          rw [decide_eq_true hin.1, decide_eq_true hin.2, decide_eq_true (show 2 ≤ cz i k ∧ cw (cz i k) = j from ⟨h6, h7⟩), h8]
          simp
      · have : ¬ (2 ≤ cz i k ∧ cw (cz i k) = j) := by
          rintro ⟨h2, hw⟩
          have h3 := (hp k hk h2).2
          have h4 := (zt_cod3 i hi k hk h2).1
          rw [hw, hpz _ (by omega)] at h3
          apply hin
          by_cases h5 : ce (cz i k) < wd
          · rw [if_pos h5] at h3; omega
          · rw [if_neg h5] at h3; omega
        rw [decide_eq_false this]
        by_cases h1 : pz i j 0 ≤ k
        · have h2 : ¬ k - pz i j 0 < wd := fun h => hin ⟨h1, h⟩
          rw [decide_eq_false h2]; simp
        · rw [decide_eq_false h1]; simp
    cases hn : zn i j with
    | false =>
      rw [hn] at e4
      exact ⟨_, rfl, key 31 5 (by omega) b_31 (by simpa using e4)⟩
    | true =>
      rw [hn] at e4
      exact ⟨_, rfl, key 7 3 (by omega) b_7 (by simpa using e4)⟩
set_option maxRecDepth 100000 in
theorem zt_slen : ∀ i, i < 75 → f_S_length (k_layout i) = some (nI (zB i)) := by decide +kernel
theorem q_cw3 {c : Nat} (h : c < 2 ∨ (100 ≤ c ∧ c < 500) ∨ (500 ≤ c ∧ c < 800)) : (2 ≤ c ∧ cw c = 3) ↔ (400 ≤ c ∧ c < 500) := by
  unfold cw; split <;> omega
theorem q_cw4 {c : Nat} (h : c < 2 ∨ (100 ≤ c ∧ c < 500) ∨ (500 ≤ c ∧ c < 800)) : cw c < 4 := by
  unfold cw; split <;> omega
theorem q_ib_L {i : Nat} (hi : i < 75) (hz : zh i 3 = true) (im : Int32) : ∀ (n q : Nat) (acc : Int32), q ≤ zB i → zB i < q + n → ∃ r, f_K_immediateBits_L4 i im n acc (nI q) = some r ∧ ∀ k, k < 32 → bt r k = (bt acc k || (decide (k + q < zB i ∧ 2 ≤ cz i k ∧ cw (cz i k) = 3) && bt im (ce (cz i k)))) := by
  intro n
  have hB := q_zB i
  induction n with
  | zero => intro k acc h1 h2; omega
  | succ n ih =>
    intro q acc h1 h2
    rw [f_K_immediateBits_L4, show f_K_has i 8 = some true from (zt_has i hi 3 (by omega)).trans (by rw [hz]), Option.bind_some, if_neg (show ¬ bI true = 0 by decide), zt_slen i hi, Option.bind_some]
    by_cases hk : q = zB i
    · subst hk
      refine ⟨acc, if_pos (nI_le (Nat.le_refl _) (by omega)), ?_⟩
      intro j hj
      rw [decide_eq_false (by omega), Bool.false_and, Bool.or_false]
    · have hk2 : q < zB i := by omega
      have e1 : zB i - 1 - (zB i - 1 - q) = q := by omega
      have hl := zt_lay i hi (zB i - 1 - q) (by omega)
      rw [e1] at hl
      rw [if_neg (nI_ge hk2 (by omega)), hl, Option.bind_some]
      have hs : ((nI (zB i) - 1) - nI q : Int32) = nI (zB i - 1 - q) := by
        rw [show (nI (zB i) - 1 : Int32) = nI (zB i - 1) from pk_sub (b := 1) (by omega)]
        exact pk_sub (by omega)
      by_cases hc : 400 ≤ cz i (zB i - 1 - q) ∧ cz i (zB i - 1 - q) < 500
      · obtain ⟨l1, l2⟩ := zt_letI i hi (zB i - 1 - q) (by omega) hc
        rw [l1, Option.bind_some, if_pos rfl, Option.bind_some, l2, hs]
        have hce := (zt_cod3 i hi (zB i - 1 - q) (by omega) (by omega)).1
        obtain ⟨r, hr, hb⟩ := ih (q + 1) (acc ||| (((im >>> (nI (ce (cz i (zB i - 1 - q))) &&& 31)) &&& 1) <<< (nI (zB i - 1 - q) &&& 31))) (by omega) (by omega)
        refine ⟨r, by rw [nI_1]; exact hr, ?_⟩
        intro j hj
        rw [hb j hj, b_or, b_oneL (b := bt im (ce (cz i (zB i - 1 - q)))) _ (by omega) (fun e he => b_one _ (by omega) _ he) hj]
        by_cases e : j = zB i - 1 - q
        · subst e
          have h3 := (q_cw3 (zt_cod2 i hi (zB i - 1 - q) (by omega))).mpr hc
          rw [decide_eq_true rfl, decide_eq_true (show zB i - 1 - q + q < zB i ∧ _ from ⟨by omega, h3⟩), decide_eq_false (show ¬ (zB i - 1 - q + (q + 1) < zB i ∧ _) from fun z => by omega)]; simp
        · rw [decide_eq_false e]
          have : decide (j + (q + 1) < zB i ∧ 2 ≤ cz i j ∧ cw (cz i j) = 3) = decide (j + q < zB i ∧ 2 ≤ cz i j ∧ cw (cz i j) = 3) := decide_eq_decide.mpr (by omega)
          rw [this]; simp
      · have hn : ¬ (2 ≤ cz i (zB i - 1 - q) ∧ cw (cz i (zB i - 1 - q)) = 3) := fun z => hc ((q_cw3 (zt_cod2 i hi (zB i - 1 - q) (by omega))).mp z)
        obtain ⟨r, hr, hb⟩ := ih (q + 1) acc (by omega) (by omega)
        have hb2 : ∀ j, j < 32 → bt r j = (bt acc j || (decide (j + q < zB i ∧ 2 ≤ cz i j ∧ cw (cz i j) = 3) && bt im (ce (cz i j)))) := by
          intro j hj
          rw [hb j hj]
          have : decide (j + (q + 1) < zB i ∧ 2 ≤ cz i j ∧ cw (cz i j) = 3) = decide (j + q < zB i ∧ 2 ≤ cz i j ∧ cw (cz i j) = 3) := decide_eq_decide.mpr (by
            constructor
            · intro z; exact ⟨by omega, z.2⟩
            · intro z
              refine ⟨?_, z.2⟩
              rcases Nat.lt_or_ge (j + (q + 1)) (zB i) with g | g
              · exact g
              · have : j = zB i - 1 - q := by omega
                subst this; exact absurd z.2 hn)
          rw [this]
        refine ⟨r, ?_, hb2⟩
        rw [nI_1]
        rcases zt_letN i hi (zB i - 1 - q) (by omega) hc with l | l | l | l <;> (rw [l, Option.bind_some, if_neg (by decide)]; exact hr)
theorem q_ib {i : Nat} (hi : i < 75) (im : Int32) : ∃ r, f_K_immediateBits i im = some r ∧ ∀ k, k < 32 → bt r k = (decide (2 ≤ cz i k ∧ cw (cz i k) = 3) && bt im (ce (cz i k))) := by
  have hB := q_zB i
  unfold f_K_immediateBits
  cases hz : zh i 3 with
  | true =>
    obtain ⟨r, hr, hb⟩ := q_ib_L hi hz im 40 0 0 (by omega) (by omega)
    refine ⟨r, hr, fun k hk => ?_⟩
    rw [hb k hk, b_0, Bool.false_or]
    have : decide (k + 0 < zB i ∧ 2 ≤ cz i k ∧ cw (cz i k) = 3) = decide (2 ≤ cz i k ∧ cw (cz i k) = 3) := decide_eq_decide.mpr ⟨fun z => z.2, fun z => ⟨(zt_pos i hi k hk z.1).1, z⟩⟩
    rw [this]
  | false =>
    refine ⟨0, ?_, fun k hk => ?_⟩
    · rw [f_K_immediateBits_L4, show f_K_has i 8 = some false from (zt_has i hi 3 (by omega)).trans (by rw [hz]), Option.bind_some]; exact if_pos rfl
    · rw [b_0]
      symm
      rw [Bool.and_eq_false_iff]; left
      rw [decide_eq_false_iff_not]
      rintro ⟨h2, hw⟩
      have h3 := (zt_pos i hi k hk h2).2
      have h4 := (zt_cod3 i hi k hk h2).1
      rw [hw, zt_nreg i hi 3 (by omega) hz _ (by omega)] at h3
      omega
def pf4 (d a b im : Int32) : Nat → Int32 := fun j => if j = 0 then d else if j = 1 then a else if j = 2 then b else im
theorem q_compose {i : Nat} (hi : i < 75) (d a b im : Int32) : ∃ r, f_K_compose i d a b im = some r ∧ ∀ k, k < 32 → bt r k = (decide (k < zB i) && mbit (pf4 d a b im) (cz i k)) := by
  obtain ⟨r0, h0, b0⟩ := q_rb hi (show 0 < 3 by omega) d
  obtain ⟨r1, h1, b1⟩ := q_rb hi (show 1 < 3 by omega) a
  obtain ⟨r2, h2, b2⟩ := q_rb hi (show 2 < 3 by omega) b
  obtain ⟨r3, h3, b3⟩ := q_ib hi im
  unfold f_K_compose
  refine ⟨_, by rw [show f_K_registerBits i 1 d = some r0 from h0, Option.bind_some, show f_K_registerBits i 2 a = some r1 from h1, Option.bind_some, show f_K_registerBits i 4 b = some r2 from h2, Option.bind_some, h3, Option.bind_some], ?_⟩
  intro k hk
  rw [b_or, b_or, b_or, b_or, b0 k hk, b1 k hk, b2 k hk, b3 k hk, (zt_own i hi k hk).2]
  have hcc := zt_cod2 i hi k hk
  rcases Nat.lt_or_ge (cz i k) 2 with hc | hc
  · rw [decide_eq_false (show ¬ (2 ≤ cz i k ∧ cw (cz i k) = 0) by omega), decide_eq_false (show ¬ (2 ≤ cz i k ∧ cw (cz i k) = 1) by omega), decide_eq_false (show ¬ (2 ≤ cz i k ∧ cw (cz i k) = 2) by omega), decide_eq_false (show ¬ (2 ≤ cz i k ∧ cw (cz i k) = 3) by omega)]
    unfold mbit; rw [if_pos hc]
    rcases Nat.lt_or_ge k (zB i) with g | g
    · rw [decide_eq_true g]; simp
    · rw [decide_eq_false (show ¬ k < zB i by omega), zt_row0 i hi k hk g]; simp
  · have h4 := q_cw4 hcc
    have g := (zt_pos i hi k hk hc).1
    rw [decide_eq_false (show ¬ cz i k = 1 by omega), decide_eq_true g]
    unfold mbit; rw [if_neg (show ¬ cz i k < 2 by omega)]
    generalize cw (cz i k) = w at h4 ⊢
    rcases (show w = 0 ∨ w = 1 ∨ w = 2 ∨ w = 3 by omega) with e | e | e | e <;> subst e <;> simp [pf4, hc]
theorem q_put_eq {i : Nat} (hi : i < 75) (th : Int32) (pf of : Nat → Int32) (sz bg : Int32) : f_M_put th pf of sz bg (nI i) = f_K_compose i (pf 0) (pf 1) (pf 2) (pf 3) := by
  obtain ⟨r, h, b⟩ := q_put hi th pf of sz bg
  obtain ⟨r', h', b'⟩ := q_compose hi (pf 0) (pf 1) (pf 2) (pf 3)
  rw [h, h']
  congr 1
  apply b_ext
  intro k hk
  rw [b k hk, b' k hk]
  congr 1
  unfold mbit
  rcases Nat.lt_or_ge (cz i k) 2 with hc | hc
  · rw [if_pos hc, if_pos hc]
  · rw [if_neg (by omega), if_neg (by omega)]
    have h4 := q_cw4 (zt_cod2 i hi k hk)
    generalize cw (cz i k) = w at h4 ⊢
    rcases (show w = 0 ∨ w = 1 ∨ w = 2 ∨ w = 3 by omega) with e | e | e | e <;> subst e <;> rfl
