/-! word, part, fit, may, kind, size, about, letter: the class answers as the reference -/
theorem q_isk (x : Int32) : (∃ j, j < 75 ∧ x = nI j ∧ f_C_isKind x = some true ∧ f_M_isKind x = some true) ∨ (f_C_isKind x = some false ∧ f_M_isKind x = some false) := by
  unfold f_C_isKind f_M_isKind
  rcases pk_ix x (n := 75) (by decide) with h | h | ⟨j, hj, rfl⟩
  · right; rw [if_pos h]; exact ⟨rfl, rfl⟩
  · right
    rw [if_pos (show (75 : Int32) ≤ x from h)]
    by_cases c : x < 0
    · rw [if_pos c]; exact ⟨rfl, rfl⟩
    · rw [if_neg c]; exact ⟨rfl, rfl⟩
  · left
    refine ⟨j, hj, rfl, ?_⟩
    rw [if_neg (nI_pos (by omega)), if_neg (show ¬ (75 : Int32) ≤ nI j from nI_ge (b := 75) hj (by decide))]
    exact ⟨rfl, rfl⟩
theorem q_cimm {i : Nat} (hi : i < 75) (v : Int64) : f_K_allowsImmediate i v = some (imk i v) ∧ (zh i 3 = false → imk i v = false) := by
  cases hz : zh i 3 with
  | true => exact ⟨(q_immA hi hz v).2, fun z => Bool.noConfusion z⟩
  | false =>
    have : f_K_allowsImmediate i v = some false := by
      unfold f_K_allowsImmediate
      rw [show f_K_has i 8 = some false from (zt_has i hi 3 (by omega)).trans (by rw [hz]), Option.bind_some, if_pos (show bI false = 0 from rfl)]
    unfold imk
    rw [this]; exact ⟨rfl, fun _ => rfl⟩
theorem n_t : ¬ bI true = 0 := by decide
theorem n_f : bI false = 0 := rfl
theorem n_p0 : ¬ ((0 : Int32) < 0 ∨ 4 ≤ (0 : Int32).toNatClampNeg) := by decide
theorem n_p1 : ¬ ((1 : Int32) < 0 ∨ 4 ≤ (1 : Int32).toNatClampNeg) := by decide
theorem n_p2 : ¬ ((2 : Int32) < 0 ∨ 4 ≤ (2 : Int32).toNatClampNeg) := by decide
theorem n_p3 : ¬ ((3 : Int32) < 0 ∨ 4 ≤ (3 : Int32).toNatClampNeg) := by decide
theorem q_word (th : Int32) (pf of : Nat → Int32) (sz bg k d a b im : Int32) : ∃ v t pf', f_M_word th pf of sz bg k d a b im = some (v, t, pf', of, sz, bg) ∧ ((t = 0 ∧ f_C_word k d a b im = some (.inl v)) ∨ (t = 1 ∧ f_C_word k d a b im = some (.inr "java/lang/IndexOutOfBoundsException")) ∨ (t = 2 ∧ f_C_word k d a b im = some (.inr "java/lang/IllegalArgumentException"))) := by
  unfold f_M_word f_C_word
  rcases q_isk k with ⟨j, hj, rfl, h1, h2⟩ | ⟨h1, h2⟩
  · obtain ⟨r, hr, _⟩ := q_compose hj d a b im
    have hput : f_M_put 0 (upd (upd (upd (upd pf (0 : Int32).toNatClampNeg d) (1 : Int32).toNatClampNeg a) (2 : Int32).toNatClampNeg b) (3 : Int32).toNatClampNeg im) of sz bg (nI j) = some r := (q_put_eq hj 0 _ of sz bg).trans hr
    have hgood : f_M_areGood 0 (upd (upd (upd (upd pf (0 : Int32).toNatClampNeg d) (1 : Int32).toNatClampNeg a) (2 : Int32).toNatClampNeg b) (3 : Int32).toNatClampNeg im) of sz bg (nI j) = some (gd j d a b im) := q_good hj 0 _ of sz bg
    rw [h1, h2, Option.bind_some, Option.bind_some, if_neg n_t, if_neg n_t, if_neg (nI_in (N := 75) hj (by omega)), if_neg (nI_in (N := 75) hj (by omega)), nI_clamp (by omega), q_allows hj, Option.bind_some, hr, Option.bind_some]
    unfold f_M_word_L13
    rw [if_pos rfl, if_neg n_p0, if_neg n_p1, if_neg n_p2, if_neg n_p3, hgood, Option.bind_some]
    cases gd j d a b im with
    | false =>
      rw [if_pos n_f, if_pos n_f]
      exact ⟨0, 2, _, rfl, Or.inr (Or.inr ⟨rfl, rfl⟩)⟩
    | true =>
      rw [if_neg n_t, if_neg n_t]
      unfold f_M_word_L69
      rw [if_pos rfl, hput, Option.bind_some]
      exact ⟨r, 0, _, rfl, Or.inl ⟨rfl, rfl⟩⟩
  · rw [h1, h2, Option.bind_some, Option.bind_some, if_pos n_f, if_pos n_f]
    exact ⟨0, 1, pf, rfl, Or.inr (Or.inl ⟨rfl, rfl⟩)⟩
set_option maxRecDepth 100000 in
theorem zt_nm1 : ∀ i, i < 75 → ¬ nI i = -1 := by decide +kernel
theorem zt_sh1 : ∀ j, j < 4 → ((1 : Int32) <<< (nI j &&& 31)) = nI (2 ^ j) := by decide +kernel
theorem q_part (th : Int32) (pf of : Nat → Int32) (sz bg w x : Int32) : ∃ v t pf', f_M_part th pf of sz bg w x = some (v, t, pf', of, sz, bg) ∧ ((t = 0 ∧ f_C_part w x = some (.inl v)) ∨ (t = 1 ∧ f_C_part w x = some (.inr "java/util/NoSuchElementException"))) := by
  obtain ⟨k, p1, hM, hC, hr⟩ := q_find w th pf of sz bg
  unfold f_M_part f_C_part
  rw [hM, hC, Option.bind_some, Option.bind_some]
  dsimp only
  rcases hr with ⟨rfl, _⟩ | ⟨i, hi, rfl, hd, _, _, _⟩
  · rw [if_pos rfl, if_pos rfl]
    exact ⟨0, 1, p1, rfl, Or.inr ⟨rfl, rfl⟩⟩
  · rw [if_neg (zt_nm1 i hi), if_neg (zt_nm1 i hi)]
    rcases pk_ix x (n := 4) (by decide) with h | h | ⟨j, hj, rfl⟩
    · rw [if_pos h, if_pos h]
      exact ⟨0, 1, p1, rfl, Or.inr ⟨rfl, rfl⟩⟩
    · have h3 : (3 : Int32) < x := by
        have e := Int32.le_iff_toInt_le.mp h
        rw [nI_toInt (by omega)] at e
        rw [Int32.lt_iff_toInt_lt, show (3 : Int32).toInt = 3 from by decide]
        omega
      rw [if_pos (show (4 : Int32) ≤ x from h), if_pos h3]
      by_cases c : x < 0
      · rw [if_pos c, if_pos c]; exact ⟨0, 1, p1, rfl, Or.inr ⟨rfl, rfl⟩⟩
      · rw [if_neg c, if_neg c]; exact ⟨0, 1, p1, rfl, Or.inr ⟨rfl, rfl⟩⟩
    · rw [if_neg (nI_pos (by omega)), if_neg (nI_pos (by omega)), if_neg (show ¬ (4 : Int32) ≤ nI j from nI_ge (b := 4) hj (by decide)), if_neg (show ¬ (3 : Int32) < nI j from nI_nlt (a := 3) (by omega) (by decide)), zt_mhas hi hj, Option.bind_some, if_neg (nI_in (N := 75) hi (by omega)), if_neg (nI_in (N := 75) hi (by omega)), if_neg (nI_in (N := 75) hi (by omega)), nI_clamp (by omega), zt_sh1 j hj, zt_has i hi j hj, Option.bind_some]
      cases zh i j with
      | false =>
        rw [if_pos n_f, if_pos n_f]
        exact ⟨0, 1, p1, rfl, Or.inr ⟨rfl, rfl⟩⟩
      | true =>
        rw [if_neg n_t, if_neg n_t]
        unfold f_M_part_L35
        rw [if_pos rfl, if_neg (nI_in (N := 4) hj (by omega)), nI_clamp (by omega)]
        refine ⟨p1 j, 0, p1, rfl, Or.inl ⟨rfl, ?_⟩⟩
        by_cases c : j = 3
        · subst c
          rw [if_pos (show nI 3 = 3 from rfl), hd.2, Option.bind_some]
        · rw [if_neg (show ¬ nI j = 3 from fun z => c ((nI_eq (b := 3) (by omega) (by omega)).mp z)), hd.1 j (by omega), Option.bind_some]
theorem q_fit (th : Int32) (pf of : Nat → Int32) (sz bg w : Int32) (x : Int64) : ∃ v t pf', f_M_fit th pf of sz bg w x = some (v, t, pf', of, sz, bg) ∧ ((t = 0 ∧ f_C_fit w x = some (.inl v)) ∨ (t = 1 ∧ f_C_fit w x = some (.inr "java/lang/IllegalArgumentException"))) := by
  obtain ⟨k, p1, hM, hC, hr⟩ := q_find w th pf of sz bg
  unfold f_M_fit f_C_fit
  rw [hM, hC, Option.bind_some, Option.bind_some]
  dsimp only
  rcases hr with ⟨rfl, _⟩ | ⟨i, hi, rfl, hd, _, _, _⟩
  · rw [if_pos rfl, if_pos rfl]
    exact ⟨0, 1, p1, rfl, Or.inr ⟨rfl, rfl⟩⟩
  · obtain ⟨c1, c2⟩ := q_cimm hi x
    rw [if_neg (zt_nm1 i hi), if_neg (zt_nm1 i hi), if_neg (nI_in (N := 75) hi (by omega)), nI_clamp (by omega), c1, Option.bind_some, show f_M_has th p1 of sz bg (nI i) 3 = some (zh i 3) from zt_mhas hi (j := 3) (by omega) th p1 of sz bg, Option.bind_some]
    cases hz : zh i 3 with
    | false =>
      rw [c2 hz, if_pos n_f, if_pos n_f]
      exact ⟨0, 1, p1, rfl, Or.inr ⟨rfl, rfl⟩⟩
    | true =>
      rw [if_neg n_t, (q_immA hi hz x).1, Option.bind_some]
      cases imk i x with
      | false =>
        rw [if_pos n_f, if_pos n_f]
        exact ⟨0, 1, p1, rfl, Or.inr ⟨rfl, rfl⟩⟩
      | true =>
        obtain ⟨r, hr, _⟩ := q_compose hi (p1 0) (p1 1) (p1 2) x.toInt32
        have hput : f_M_put 0 (upd p1 (3 : Int32).toNatClampNeg x.toInt32) of sz bg (nI i) = some r := (q_put_eq hi 0 _ of sz bg).trans hr
        rw [if_neg n_t, if_neg n_t, show f_K_register i w 1 = some (p1 0) from hd.1 0 (by omega), Option.bind_some, show f_K_register i w 2 = some (p1 1) from hd.1 1 (by omega), Option.bind_some, show f_K_register i w 4 = some (p1 2) from hd.1 2 (by omega), Option.bind_some, hr, Option.bind_some]
        unfold f_M_fit_L38
        rw [if_pos rfl, if_neg n_p3, hput, Option.bind_some]
        exact ⟨r, 0, _, rfl, Or.inl ⟨rfl, rfl⟩⟩
theorem q_may (th : Int32) (pf of : Nat → Int32) (sz bg k : Int32) (x : Int64) : ∃ v, f_M_may th pf of sz bg k x = some (v, 0, pf, of, sz, bg) ∧ f_C_may k x = some v := by
  unfold f_M_may f_C_may
  rcases q_isk k with ⟨i, hi, rfl, h1, h2⟩ | ⟨h1, h2⟩
  · obtain ⟨c1, c2⟩ := q_cimm hi x
    rw [h1, h2, Option.bind_some, Option.bind_some, if_neg n_t, if_neg n_t, if_neg (nI_in (N := 75) hi (by omega)), nI_clamp (by omega), c1, Option.bind_some, show f_M_has 0 pf of sz bg (nI i) 3 = some (zh i 3) from zt_mhas hi (j := 3) (by omega) 0 pf of sz bg, Option.bind_some]
    cases hz : zh i 3 with
    | false =>
      rw [c2 hz, if_pos n_f, if_pos n_f]
      exact ⟨false, rfl, rfl⟩
    | true =>
      rw [if_neg n_t, (q_immA hi hz x).1, Option.bind_some]
      cases imk i x with
      | false => exact ⟨false, rfl, rfl⟩
      | true => exact ⟨true, rfl, rfl⟩
  · rw [h1, h2, Option.bind_some, Option.bind_some, if_pos n_f, if_pos n_f]
    exact ⟨false, rfl, rfl⟩
theorem q_kind (th : Int32) (pf of : Nat → Int32) (sz bg w : Int32) : ∃ v t pf', f_M_kind th pf of sz bg w = some (v, t, pf', of, sz, bg) ∧ f_C_kind w = some v := by
  obtain ⟨k, p1, hM, hC, hr⟩ := q_find w 0 pf of sz bg
  unfold f_M_kind f_C_kind
  rw [hM, hC, Option.bind_some, Option.bind_some]
  exact ⟨k, 0, p1, rfl, rfl⟩
theorem q_size (th : Int32) (pf of : Nat → Int32) (sz bg w : Int32) : ∃ v, f_M_size th pf of sz bg w = some (v, 0, pf, of, sz, bg) ∧ f_C_size w = some v := by
  unfold f_M_size f_C_size f_M_isLong f_C_isLong
  by_cases c : w &&& 3 = 3
  · rw [if_pos c, Option.bind_some, if_neg n_t, Option.bind_some, if_neg n_t]; exact ⟨4, rfl, rfl⟩
  · rw [if_neg c, Option.bind_some, if_pos n_f, Option.bind_some, if_pos n_f]; exact ⟨2, rfl, rfl⟩
theorem q_letter {N : Nat} (hN : N ≤ 48) (f : Nat → Int32) (th : Int32) (pf of : Nat → Int32) (bg x : Int32) (h : ∀ j, j < N → f j = of j) : ∃ v, f_M_letter th pf of (nI N) bg x = some (v, 0, pf, of, nI N, bg) ∧ f_C_letter f (nI N) x = some v := by
  unfold f_M_letter f_C_letter
  rcases pk_ix x (n := N) (by omega) with g | g | ⟨j, hj, rfl⟩
  · rw [if_pos g, if_pos g]; exact ⟨-1, rfl, rfl⟩
  · by_cases c : x < 0
    · rw [if_pos c, if_pos c]; exact ⟨-1, rfl, rfl⟩
    · rw [if_neg c, if_neg c, if_pos g, if_pos g]; exact ⟨-1, rfl, rfl⟩
  · rw [if_neg (nI_pos (by omega)), if_neg (nI_pos (by omega)), if_neg (nI_ge hj (by omega)), if_neg (nI_ge hj (by omega)), if_neg (show ¬ (48 : Int32) ≤ nI j from nI_ge (b := 48) (by omega) (by decide)), if_neg (nI_in (N := 80) (by omega) (by omega)), if_neg (nI_in (N := 48) (by omega) (by omega)), nI_clamp (by omega)]
    exact ⟨of j, rfl, by rw [h j hj]⟩
theorem q_ab_s {i j : Nat} (hi : i < 75) (hj : j < 4) (t0 : Int32) (p0 o0 : Nat → Int32) (s0 g0 wh x3 th : Int32) (pf of : Nat → Int32) (sz bg : Int32) (n : Nat) : f_M_about_L19 t0 p0 o0 s0 g0 (nI i) wh (n + 1) x3 (nI j) th pf of sz bg = f_M_about_L19 t0 p0 o0 s0 g0 (nI i) wh n (x3 + (if zh i j = true then nI (2 ^ j) else 0)) (nI (j + 1)) th pf of sz bg := by
  rw [f_M_about_L19, if_neg (show ¬ (4 : Int32) ≤ nI j from nI_ge (b := 4) hj (by decide)), zt_mhas hi hj, Option.bind_some, nI_1, zt_sh1 j hj]
  cases zh i j with
  | false => rw [if_pos n_f, if_neg (by decide)]
  | true => rw [if_neg n_t, if_pos rfl]
def nm (i : Nat) : Int64 := (f_M_nameOf (nI i)).getD 0
set_option maxRecDepth 100000 in
theorem zt_ab1 : ∀ i, i < 75 → f_M_patternOf (nI i) = some (k_pattern i) ∧ ((((0 + (if zh i 0 = true then nI (2 ^ 0) else 0)) + (if zh i 1 = true then nI (2 ^ 1) else 0)) + (if zh i 2 = true then nI (2 ^ 2) else 0)) + (if zh i 3 = true then nI (2 ^ 3) else 0) : Int32) = k_parts i := by decide +kernel
set_option maxRecDepth 100000 in
theorem zt_ab2 : ∀ i, i < 75 → f_M_nameOf (nI i) = some (nm i) ∧ f_M_lettersOf (nm i) = some (nI (sL (k_title i))) ∧ f_S_length (k_title i) = some (nI (sL (k_title i))) := by decide +kernel
set_option maxRecDepth 100000 in
theorem zt_ab3 : ∀ i, i < 75 → (nI (zB i) / 8 : Int32) = if (48 : Int32) ≤ nI i then 2 else 4 := by decide +kernel
theorem q_about (th : Int32) (pf of : Nat → Int32) (sz bg k x : Int32) : ∃ v, f_M_about th pf of sz bg k x = some (v, 0, pf, of, sz, bg) ∧ f_C_about k x = some v := by
  unfold f_M_about f_C_about
  rcases q_isk k with ⟨i, hi, rfl, h1, h2⟩ | ⟨h1, h2⟩
  · obtain ⟨a1, a2⟩ := zt_ab1 i hi
    obtain ⟨a3, a4, a5⟩ := zt_ab2 i hi
    have a6 := zt_ab3 i hi
    have u0 : f_M_about_L19 th pf of sz bg (nI i) x 80 0 0 0 pf of sz bg = f_M_about_L19 th pf of sz bg (nI i) x 79 (0 + (if zh i 0 = true then nI (2 ^ 0) else 0)) (nI 1) 0 pf of sz bg := q_ab_s hi (j := 0) (by omega) th pf of sz bg x 0 0 pf of sz bg 79
    have u1 := q_ab_s hi (j := 1) (by omega) th pf of sz bg x (0 + (if zh i 0 = true then nI (2 ^ 0) else 0)) 0 pf of sz bg 78
    have u2 := q_ab_s hi (j := 2) (by omega) th pf of sz bg x ((0 + (if zh i 0 = true then nI (2 ^ 0) else 0)) + (if zh i 1 = true then nI (2 ^ 1) else 0)) 0 pf of sz bg 77
    have u3 := q_ab_s hi (j := 3) (by omega) th pf of sz bg x (((0 + (if zh i 0 = true then nI (2 ^ 0) else 0)) + (if zh i 1 = true then nI (2 ^ 1) else 0)) + (if zh i 2 = true then nI (2 ^ 2) else 0)) 0 pf of sz bg 76
    have u4 := u0.trans (u1.trans (u2.trans u3))
    rw [a2] at u4
    rw [h1, h2, Option.bind_some, Option.bind_some, if_neg n_t, if_neg n_t, u4, show f_M_about_L19 th pf of sz bg (nI i) x 76 (k_parts i) (nI (3 + 1)) 0 pf of sz bg = f_M_about_L19 th pf of sz bg (nI i) x (75 + 1) (k_parts i) (nI 4) 0 pf of sz bg from rfl, f_M_about_L19, if_pos (show (4 : Int32) ≤ nI 4 by decide), a1, Option.bind_some, a3, Option.bind_some, a4, Option.bind_some, if_neg (nI_in (N := 75) hi (by omega)), if_neg (nI_in (N := 75) hi (by omega)), if_neg (nI_in (N := 75) hi (by omega)), if_neg (nI_in (N := 75) hi (by omega)), nI_clamp (by omega), zt_slen i hi, Option.bind_some, a5, Option.bind_some, a6]
    by_cases c0 : x = 0
    · rw [if_pos c0, if_pos c0]; exact ⟨_, rfl, rfl⟩
    rw [if_neg c0, if_neg c0]
    by_cases c1 : x = 1
    · rw [if_pos c1, if_pos c1]; exact ⟨_, rfl, rfl⟩
    rw [if_neg c1, if_neg c1]
    by_cases c2 : x = 2
    · rw [if_pos c2, if_pos c2]
      by_cases c : (48 : Int32) ≤ nI i
      · rw [if_pos c, if_pos c]; exact ⟨_, rfl, rfl⟩
      · rw [if_neg c, if_neg c]; exact ⟨_, rfl, rfl⟩
    rw [if_neg c2, if_neg c2]
    by_cases c3 : x = 3
    · rw [if_pos c3, if_pos c3]; exact ⟨_, rfl, rfl⟩
    rw [if_neg c3, if_neg c3]; exact ⟨_, rfl, rfl⟩
  · rw [h1, h2, Option.bind_some, Option.bind_some, if_pos n_f, if_pos n_f]
    exact ⟨-1, rfl, rfl⟩
