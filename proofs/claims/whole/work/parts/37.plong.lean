/-! a short word told as a long one -/
theorem q_pf4 (P : Nat → Int32) {w : Nat} (hw : w < 4) : pf4 (P 0) (P 1) (P 2) (P 3) w = P w := by
  rcases (show w = 0 ∨ w = 1 ∨ w = 2 ∨ w = 3 by omega) with e | e | e | e <;> subst e <;> rfl
theorem q_hasc {i k : Nat} (hi : i < 75) (hk : k < 32) (hc : 2 ≤ cz i k) : cw (cz i k) < 4 ∧ zh i (cw (cz i k)) = true := by
  have h4 := q_cw4 (zt_cod2 i hi k hk)
  refine ⟨h4, ?_⟩
  cases hz : zh i (cw (cz i k)) with
  | true => rfl
  | false =>
    exfalso
    have h1 := (zt_pos i hi k hk hc).2
    have h2 := (zt_cod3 i hi k hk hc).1
    rw [zt_nreg i hi _ h4 hz _ (by omega)] at h1
    omega
/-- only the parts that a kind has count in its word -/
theorem q_cirr {i : Nat} (hi : i < 75) (P Q : Nat → Int32) (h : ∀ w, w < 4 → zh i w = true → P w = Q w) : f_K_compose i (P 0) (P 1) (P 2) (P 3) = f_K_compose i (Q 0) (Q 1) (Q 2) (Q 3) := by
  obtain ⟨r, h1, b1⟩ := q_compose hi (P 0) (P 1) (P 2) (P 3)
  obtain ⟨r', h2, b2⟩ := q_compose hi (Q 0) (Q 1) (Q 2) (Q 3)
  rw [h1, h2]
  congr 1
  apply b_ext
  intro k hk
  rw [b1 k hk, b2 k hk]
  congr 1
  unfold mbit
  rcases Nat.lt_or_ge (cz i k) 2 with hc | hc
  · rw [if_pos hc, if_pos hc]
  · obtain ⟨g1, g2⟩ := q_hasc hi hk hc
    rw [if_neg (by omega), if_neg (by omega), q_pf4 P g1, q_pf4 Q g1, h _ g1 g2]
def sll : List (List Int32) := [[100, 50, 45], [100, 97, 45], [45, 97, 98], [48, 48, 45], [100, 100, 45], [49, 45, 45], [100, 48, 45], [50, 50, 45], [100, 45, 45], [100, 100, 45], [100, 100, 45], [100, 100, 45], [100, 100, 98], [100, 100, 98], [100, 100, 98], [100, 100, 98], [48, 45, 45], [45, 97, 48], [45, 97, 48], [100, 100, 45], [100, 50, 45], [48, 97, 45], [100, 48, 98], [45, 45, 45], [49, 97, 45], [100, 100, 98], [45, 50, 98]]
def lkl : List Nat := [18, 12, 17, 18, 18, 2, 18, 18, 0, 25, 26, 23, 28, 32, 35, 36, 2, 4, 5, 24, 12, 3, 27, 47, 3, 27, 17]
def ssl (j t : Nat) : Int32 := (sll.getD (j - 48) []).getD t 0
def lk (j : Nat) : Nat := lkl.getD (j - 48) 0
set_option maxRecDepth 100000 in
theorem zt_slot : ∀ j, j < 75 → 48 ≤ j → f_S_length (k_slots j) = some (nI 3) ∧ k_stands j = nI (lk j) ∧ lk j < 48 ∧ f_C_isKind (k_stands j) = some true ∧ f_M_longKind (nI j) = some (nI (lk j)) := by decide +kernel
set_option maxRecDepth 100000 in
theorem zt_slo2 : ∀ j, j < 75 → 48 ≤ j → ∀ t, t < 3 → f_S_charAt (k_slots j) (nI t) = some (ssl j t) := by decide +kernel
set_option maxRecDepth 100000 in
theorem zt_slo3 : ∀ j, j < 75 → 48 ≤ j → ∀ t, t < 3 → (ssl j t = 100 → zh j 0 = true) ∧ (ssl j t = 97 → zh j 1 = true) ∧ (ssl j t = 98 → zh j 2 = true) := by decide +kernel
set_option maxRecDepth 100000 in
theorem zt_nst : ∀ j, j < 48 → k_stands j = -1 ∧ f_C_isKind (k_stands j) = some false := by decide +kernel
def slv (j t : Nat) (d a b : Int32) : Int32 := if ssl j t = 100 then d else if ssl j t = 97 then a else if ssl j t = 98 then b else if ssl j t < 48 then 0 else if 57 < ssl j t then 0 else ssl j t - 48
theorem q_slot {j t : Nat} (hj : j < 75) (h : 48 ≤ j) (ht : t < 3) (d a b : Int32) : f_C_slotRegister (k_slots j) (nI t) d a b = some (slv j t d a b) := by
  unfold f_C_slotRegister slv
  rw [if_neg (nI_pos (by omega)), (zt_slot j hj h).1, Option.bind_some, if_pos (nI_lt ht (by omega)), zt_slo2 j hj h t ht, Option.bind_some]
  repeat' split
  all_goals rfl
theorem q_longOf {j : Nat} (hj : j < 75) (h : 48 ≤ j) (d a b im : Int32) : f_C_longOf j d a b im = f_K_compose (lk j) (slv j 0 d a b) (slv j 1 d a b) (slv j 2 d a b) (if zh j 3 = true then im else 0) := by
  obtain ⟨s1, s2, s3, s4, s5⟩ := zt_slot j hj h
  unfold f_C_longOf
  rw [s4, Option.bind_some, if_neg n_t, show f_C_slotRegister (k_slots j) 0 d a b = some (slv j 0 d a b) from q_slot hj h (by omega) d a b, Option.bind_some, show f_C_slotRegister (k_slots j) 1 d a b = some (slv j 1 d a b) from q_slot hj h (t := 1) (by omega) d a b, Option.bind_some, show f_C_slotRegister (k_slots j) 2 d a b = some (slv j 2 d a b) from q_slot hj h (t := 2) (by omega) d a b, Option.bind_some, s2, if_neg (nI_in (N := 75) (by omega) (by omega)), nI_clamp (by omega), show f_K_has j 8 = some (zh j 3) from zt_has j hj 3 (by omega), Option.bind_some]
  obtain ⟨r1, h1, _⟩ := q_compose (show lk j < 75 by omega) (slv j 0 d a b) (slv j 1 d a b) (slv j 2 d a b) im
  obtain ⟨r2, h2, _⟩ := q_compose (show lk j < 75 by omega) (slv j 0 d a b) (slv j 1 d a b) (slv j 2 d a b) 0
  cases zh j 3 with
  | false => rw [if_pos n_f, if_neg (show ¬ (false = true) by decide), h2]; rfl
  | true => rw [if_neg n_t, if_pos rfl, h1]; rfl
theorem q_lirr {j : Nat} (hj : j < 75) (h : 48 ≤ j) (P Q : Nat → Int32) (g : ∀ w, w < 4 → zh j w = true → P w = Q w) : f_C_longOf j (P 0) (P 1) (P 2) (P 3) = f_C_longOf j (Q 0) (Q 1) (Q 2) (Q 3) := by
  rw [q_longOf hj h, q_longOf hj h]
  have e : ∀ t, t < 3 → slv j t (P 0) (P 1) (P 2) = slv j t (Q 0) (Q 1) (Q 2) := by
    intro t ht
    obtain ⟨z1, z2, z3⟩ := zt_slo3 j hj h t ht
    unfold slv
    by_cases c1 : ssl j t = 100
    · rw [if_pos c1, if_pos c1]; exact g 0 (by omega) (z1 c1)
    rw [if_neg c1, if_neg c1]
    by_cases c2 : ssl j t = 97
    · rw [if_pos c2, if_pos c2]; exact g 1 (by omega) (z2 c2)
    rw [if_neg c2, if_neg c2]
    by_cases c3 : ssl j t = 98
    · rw [if_pos c3, if_pos c3]; exact g 2 (by omega) (z3 c3)
    rw [if_neg c3, if_neg c3]
  rw [e 0 (by omega), e 1 (by omega), e 2 (by omega)]
  cases hz : zh j 3 with
  | false => rw [if_neg (by decide), if_neg (by decide)]
  | true => rw [if_pos rfl, if_pos rfl, g 3 (by omega) hz]
theorem q_stj {j L : Nat} (hj : j < 75) (h : 48 ≤ j) (hL : L = lk j) {th : Int32} {pf of : Nat → Int32} {sz bg : Int32} {P : Nat → Int32} (e : f_M_stretch th pf of sz bg (nI j) = (f_K_compose L (P 0) (P 1) (P 2) (P 3)).bind fun r => some (r, th, P, of, sz, bg)) (g : ∀ w, w < 4 → zh L w = true → P w = pf4 (slv j 0 (pf 0) (pf 1) (pf 2)) (slv j 1 (pf 0) (pf 1) (pf 2)) (slv j 2 (pf 0) (pf 1) (pf 2)) (if zh j 3 = true then pf 3 else 0) w) : ∃ P r, f_M_stretch th pf of sz bg (nI j) = some (r, th, P, of, sz, bg) ∧ f_C_longOf j (pf 0) (pf 1) (pf 2) (pf 3) = some r := by
  have hl := (zt_slot j hj h).2.2.1
  have q := q_cirr (show L < 75 by omega) P (pf4 (slv j 0 (pf 0) (pf 1) (pf 2)) (slv j 1 (pf 0) (pf 1) (pf 2)) (slv j 2 (pf 0) (pf 1) (pf 2)) (if zh j 3 = true then pf 3 else 0)) g
  obtain ⟨r, hr, _⟩ := q_compose (show L < 75 by omega) (P 0) (P 1) (P 2) (P 3)
  refine ⟨P, r, ?_, ?_⟩
  · rw [e, hr]; rfl
  · rw [q_longOf hj h, ← hL]
    exact q.symm.trans hr
theorem q_str_48 (th : Int32) (pf of : Nat → Int32) (sz bg : Int32) : f_M_stretch th pf of sz bg (nI 48) = (f_K_compose 18 ((upd pf 1 2) 0) ((upd pf 1 2) 1) ((upd pf 1 2) 2) ((upd pf 1 2) 3)).bind fun r => some (r, th, (upd pf 1 2), of, sz, bg) := by
  rw [← q_put_eq (i := 18) (by omega) th (upd pf 1 2) of sz bg]
  rfl
theorem q_st_48 (th : Int32) (pf of : Nat → Int32) (sz bg : Int32) : ∃ P r, f_M_stretch th pf of sz bg (nI 48) = some (r, th, P, of, sz, bg) ∧ f_C_longOf 48 (pf 0) (pf 1) (pf 2) (pf 3) = some r :=
  q_stj (j := 48) (L := 18) (by omega) (by omega) rfl (q_str_48 th pf of sz bg) (fun w hw hz => match w, hw, hz with
    | 0, _, _ => rfl
    | 1, _, _ => rfl
    | 2, _, hz => absurd hz (show ¬ zh 18 2 = true by decide +kernel)
    | 3, _, _ => (if_pos (show zh 48 3 = true by decide +kernel)).symm
    | n + 4, hw, _ => absurd hw (by omega))
theorem q_str_49 (th : Int32) (pf of : Nat → Int32) (sz bg : Int32) : f_M_stretch th pf of sz bg (nI 49) = (f_K_compose 12 (pf 0) (pf 1) (pf 2) (pf 3)).bind fun r => some (r, th, pf, of, sz, bg) := by
  rw [← q_put_eq (i := 12) (by omega) th pf of sz bg]
  rfl
theorem q_st_49 (th : Int32) (pf of : Nat → Int32) (sz bg : Int32) : ∃ P r, f_M_stretch th pf of sz bg (nI 49) = some (r, th, P, of, sz, bg) ∧ f_C_longOf 49 (pf 0) (pf 1) (pf 2) (pf 3) = some r :=
  q_stj (j := 49) (L := 12) (by omega) (by omega) rfl (q_str_49 th pf of sz bg) (fun w hw hz => match w, hw, hz with
    | 0, _, _ => rfl
    | 1, _, _ => rfl
    | 2, _, hz => absurd hz (show ¬ zh 12 2 = true by decide +kernel)
    | 3, _, _ => (if_pos (show zh 49 3 = true by decide +kernel)).symm
    | n + 4, hw, _ => absurd hw (by omega))
theorem q_str_50 (th : Int32) (pf of : Nat → Int32) (sz bg : Int32) : f_M_stretch th pf of sz bg (nI 50) = (f_K_compose 17 (pf 0) (pf 1) (pf 2) (pf 3)).bind fun r => some (r, th, pf, of, sz, bg) := by
  rw [← q_put_eq (i := 17) (by omega) th pf of sz bg]
  rfl
theorem q_st_50 (th : Int32) (pf of : Nat → Int32) (sz bg : Int32) : ∃ P r, f_M_stretch th pf of sz bg (nI 50) = some (r, th, P, of, sz, bg) ∧ f_C_longOf 50 (pf 0) (pf 1) (pf 2) (pf 3) = some r :=
  q_stj (j := 50) (L := 17) (by omega) (by omega) rfl (q_str_50 th pf of sz bg) (fun w hw hz => match w, hw, hz with
    | 0, _, hz => absurd hz (show ¬ zh 17 0 = true by decide +kernel)
    | 1, _, _ => rfl
    | 2, _, _ => rfl
    | 3, _, _ => (if_pos (show zh 50 3 = true by decide +kernel)).symm
    | n + 4, hw, _ => absurd hw (by omega))
theorem q_str_51 (th : Int32) (pf of : Nat → Int32) (sz bg : Int32) : f_M_stretch th pf of sz bg (nI 51) = (f_K_compose 18 ((upd (upd (upd pf 1 0) 0 0) 3 0) 0) ((upd (upd (upd pf 1 0) 0 0) 3 0) 1) ((upd (upd (upd pf 1 0) 0 0) 3 0) 2) ((upd (upd (upd pf 1 0) 0 0) 3 0) 3)).bind fun r => some (r, th, (upd (upd (upd pf 1 0) 0 0) 3 0), of, sz, bg) := by
  rw [← q_put_eq (i := 18) (by omega) th (upd (upd (upd pf 1 0) 0 0) 3 0) of sz bg]
  rfl
theorem q_st_51 (th : Int32) (pf of : Nat → Int32) (sz bg : Int32) : ∃ P r, f_M_stretch th pf of sz bg (nI 51) = some (r, th, P, of, sz, bg) ∧ f_C_longOf 51 (pf 0) (pf 1) (pf 2) (pf 3) = some r :=
  q_stj (j := 51) (L := 18) (by omega) (by omega) rfl (q_str_51 th pf of sz bg) (fun w hw hz => match w, hw, hz with
    | 0, _, _ => rfl
    | 1, _, _ => rfl
    | 2, _, hz => absurd hz (show ¬ zh 18 2 = true by decide +kernel)
    | 3, _, _ => (if_neg (show ¬ zh 51 3 = true by decide +kernel)).symm
    | n + 4, hw, _ => absurd hw (by omega))
theorem q_str_52 (th : Int32) (pf of : Nat → Int32) (sz bg : Int32) : f_M_stretch th pf of sz bg (nI 52) = (f_K_compose 18 ((upd pf 1 (pf 0)) 0) ((upd pf 1 (pf 0)) 1) ((upd pf 1 (pf 0)) 2) ((upd pf 1 (pf 0)) 3)).bind fun r => some (r, th, (upd pf 1 (pf 0)), of, sz, bg) := by
  rw [← q_put_eq (i := 18) (by omega) th (upd pf 1 (pf 0)) of sz bg]
  rfl
theorem q_st_52 (th : Int32) (pf of : Nat → Int32) (sz bg : Int32) : ∃ P r, f_M_stretch th pf of sz bg (nI 52) = some (r, th, P, of, sz, bg) ∧ f_C_longOf 52 (pf 0) (pf 1) (pf 2) (pf 3) = some r :=
  q_stj (j := 52) (L := 18) (by omega) (by omega) rfl (q_str_52 th pf of sz bg) (fun w hw hz => match w, hw, hz with
    | 0, _, _ => rfl
    | 1, _, _ => rfl
    | 2, _, hz => absurd hz (show ¬ zh 18 2 = true by decide +kernel)
    | 3, _, _ => (if_pos (show zh 52 3 = true by decide +kernel)).symm
    | n + 4, hw, _ => absurd hw (by omega))
theorem q_str_53 (th : Int32) (pf of : Nat → Int32) (sz bg : Int32) : f_M_stretch th pf of sz bg (nI 53) = (f_K_compose 2 ((upd pf 0 1) 0) ((upd pf 0 1) 1) ((upd pf 0 1) 2) ((upd pf 0 1) 3)).bind fun r => some (r, th, (upd pf 0 1), of, sz, bg) := by
  rw [← q_put_eq (i := 2) (by omega) th (upd pf 0 1) of sz bg]
  rfl
theorem q_st_53 (th : Int32) (pf of : Nat → Int32) (sz bg : Int32) : ∃ P r, f_M_stretch th pf of sz bg (nI 53) = some (r, th, P, of, sz, bg) ∧ f_C_longOf 53 (pf 0) (pf 1) (pf 2) (pf 3) = some r :=
  q_stj (j := 53) (L := 2) (by omega) (by omega) rfl (q_str_53 th pf of sz bg) (fun w hw hz => match w, hw, hz with
    | 0, _, _ => rfl
    | 1, _, hz => absurd hz (show ¬ zh 2 1 = true by decide +kernel)
    | 2, _, hz => absurd hz (show ¬ zh 2 2 = true by decide +kernel)
    | 3, _, _ => (if_pos (show zh 53 3 = true by decide +kernel)).symm
    | n + 4, hw, _ => absurd hw (by omega))
theorem q_str_54 (th : Int32) (pf of : Nat → Int32) (sz bg : Int32) : f_M_stretch th pf of sz bg (nI 54) = (f_K_compose 18 ((upd pf 1 0) 0) ((upd pf 1 0) 1) ((upd pf 1 0) 2) ((upd pf 1 0) 3)).bind fun r => some (r, th, (upd pf 1 0), of, sz, bg) := by
  rw [← q_put_eq (i := 18) (by omega) th (upd pf 1 0) of sz bg]
  rfl
theorem q_st_54 (th : Int32) (pf of : Nat → Int32) (sz bg : Int32) : ∃ P r, f_M_stretch th pf of sz bg (nI 54) = some (r, th, P, of, sz, bg) ∧ f_C_longOf 54 (pf 0) (pf 1) (pf 2) (pf 3) = some r :=
  q_stj (j := 54) (L := 18) (by omega) (by omega) rfl (q_str_54 th pf of sz bg) (fun w hw hz => match w, hw, hz with
    | 0, _, _ => rfl
    | 1, _, _ => rfl
    | 2, _, hz => absurd hz (show ¬ zh 18 2 = true by decide +kernel)
    | 3, _, _ => (if_pos (show zh 54 3 = true by decide +kernel)).symm
    | n + 4, hw, _ => absurd hw (by omega))
theorem q_str_55 (th : Int32) (pf of : Nat → Int32) (sz bg : Int32) : f_M_stretch th pf of sz bg (nI 55) = (f_K_compose 18 ((upd (upd pf 1 2) 0 2) 0) ((upd (upd pf 1 2) 0 2) 1) ((upd (upd pf 1 2) 0 2) 2) ((upd (upd pf 1 2) 0 2) 3)).bind fun r => some (r, th, (upd (upd pf 1 2) 0 2), of, sz, bg) := by
  rw [← q_put_eq (i := 18) (by omega) th (upd (upd pf 1 2) 0 2) of sz bg]
  rfl
theorem q_st_55 (th : Int32) (pf of : Nat → Int32) (sz bg : Int32) : ∃ P r, f_M_stretch th pf of sz bg (nI 55) = some (r, th, P, of, sz, bg) ∧ f_C_longOf 55 (pf 0) (pf 1) (pf 2) (pf 3) = some r :=
  q_stj (j := 55) (L := 18) (by omega) (by omega) rfl (q_str_55 th pf of sz bg) (fun w hw hz => match w, hw, hz with
    | 0, _, _ => rfl
    | 1, _, _ => rfl
    | 2, _, hz => absurd hz (show ¬ zh 18 2 = true by decide +kernel)
    | 3, _, _ => (if_pos (show zh 55 3 = true by decide +kernel)).symm
    | n + 4, hw, _ => absurd hw (by omega))
theorem q_str_56 (th : Int32) (pf of : Nat → Int32) (sz bg : Int32) : f_M_stretch th pf of sz bg (nI 56) = (f_K_compose 0 (pf 0) (pf 1) (pf 2) (pf 3)).bind fun r => some (r, th, pf, of, sz, bg) := by
  rw [← q_put_eq (i := 0) (by omega) th pf of sz bg]
  rfl
theorem q_st_56 (th : Int32) (pf of : Nat → Int32) (sz bg : Int32) : ∃ P r, f_M_stretch th pf of sz bg (nI 56) = some (r, th, P, of, sz, bg) ∧ f_C_longOf 56 (pf 0) (pf 1) (pf 2) (pf 3) = some r :=
  q_stj (j := 56) (L := 0) (by omega) (by omega) rfl (q_str_56 th pf of sz bg) (fun w hw hz => match w, hw, hz with
    | 0, _, _ => rfl
    | 1, _, hz => absurd hz (show ¬ zh 0 1 = true by decide +kernel)
    | 2, _, hz => absurd hz (show ¬ zh 0 2 = true by decide +kernel)
    | 3, _, _ => (if_pos (show zh 56 3 = true by decide +kernel)).symm
    | n + 4, hw, _ => absurd hw (by omega))
theorem q_str_57 (th : Int32) (pf of : Nat → Int32) (sz bg : Int32) : f_M_stretch th pf of sz bg (nI 57) = (f_K_compose 25 ((upd pf 1 (pf 0)) 0) ((upd pf 1 (pf 0)) 1) ((upd pf 1 (pf 0)) 2) ((upd pf 1 (pf 0)) 3)).bind fun r => some (r, th, (upd pf 1 (pf 0)), of, sz, bg) := by
  rw [← q_put_eq (i := 25) (by omega) th (upd pf 1 (pf 0)) of sz bg]
  rfl
theorem q_st_57 (th : Int32) (pf of : Nat → Int32) (sz bg : Int32) : ∃ P r, f_M_stretch th pf of sz bg (nI 57) = some (r, th, P, of, sz, bg) ∧ f_C_longOf 57 (pf 0) (pf 1) (pf 2) (pf 3) = some r :=
  q_stj (j := 57) (L := 25) (by omega) (by omega) rfl (q_str_57 th pf of sz bg) (fun w hw hz => match w, hw, hz with
    | 0, _, _ => rfl
    | 1, _, _ => rfl
    | 2, _, hz => absurd hz (show ¬ zh 25 2 = true by decide +kernel)
    | 3, _, _ => (if_pos (show zh 57 3 = true by decide +kernel)).symm
    | n + 4, hw, _ => absurd hw (by omega))
theorem q_str_58 (th : Int32) (pf of : Nat → Int32) (sz bg : Int32) : f_M_stretch th pf of sz bg (nI 58) = (f_K_compose 26 ((upd pf 1 (pf 0)) 0) ((upd pf 1 (pf 0)) 1) ((upd pf 1 (pf 0)) 2) ((upd pf 1 (pf 0)) 3)).bind fun r => some (r, th, (upd pf 1 (pf 0)), of, sz, bg) := by
  rw [← q_put_eq (i := 26) (by omega) th (upd pf 1 (pf 0)) of sz bg]
  rfl
theorem q_st_58 (th : Int32) (pf of : Nat → Int32) (sz bg : Int32) : ∃ P r, f_M_stretch th pf of sz bg (nI 58) = some (r, th, P, of, sz, bg) ∧ f_C_longOf 58 (pf 0) (pf 1) (pf 2) (pf 3) = some r :=
  q_stj (j := 58) (L := 26) (by omega) (by omega) rfl (q_str_58 th pf of sz bg) (fun w hw hz => match w, hw, hz with
    | 0, _, _ => rfl
    | 1, _, _ => rfl
    | 2, _, hz => absurd hz (show ¬ zh 26 2 = true by decide +kernel)
    | 3, _, _ => (if_pos (show zh 58 3 = true by decide +kernel)).symm
    | n + 4, hw, _ => absurd hw (by omega))
theorem q_str_59 (th : Int32) (pf of : Nat → Int32) (sz bg : Int32) : f_M_stretch th pf of sz bg (nI 59) = (f_K_compose 23 ((upd pf 1 (pf 0)) 0) ((upd pf 1 (pf 0)) 1) ((upd pf 1 (pf 0)) 2) ((upd pf 1 (pf 0)) 3)).bind fun r => some (r, th, (upd pf 1 (pf 0)), of, sz, bg) := by
  rw [← q_put_eq (i := 23) (by omega) th (upd pf 1 (pf 0)) of sz bg]
  rfl
theorem q_st_59 (th : Int32) (pf of : Nat → Int32) (sz bg : Int32) : ∃ P r, f_M_stretch th pf of sz bg (nI 59) = some (r, th, P, of, sz, bg) ∧ f_C_longOf 59 (pf 0) (pf 1) (pf 2) (pf 3) = some r :=
  q_stj (j := 59) (L := 23) (by omega) (by omega) rfl (q_str_59 th pf of sz bg) (fun w hw hz => match w, hw, hz with
    | 0, _, _ => rfl
    | 1, _, _ => rfl
    | 2, _, hz => absurd hz (show ¬ zh 23 2 = true by decide +kernel)
    | 3, _, _ => (if_pos (show zh 59 3 = true by decide +kernel)).symm
    | n + 4, hw, _ => absurd hw (by omega))
theorem q_str_60 (th : Int32) (pf of : Nat → Int32) (sz bg : Int32) : f_M_stretch th pf of sz bg (nI 60) = (f_K_compose 28 ((upd pf 1 (pf 0)) 0) ((upd pf 1 (pf 0)) 1) ((upd pf 1 (pf 0)) 2) ((upd pf 1 (pf 0)) 3)).bind fun r => some (r, th, (upd pf 1 (pf 0)), of, sz, bg) := by
  rw [← q_put_eq (i := 28) (by omega) th (upd pf 1 (pf 0)) of sz bg]
  rfl
theorem q_st_60 (th : Int32) (pf of : Nat → Int32) (sz bg : Int32) : ∃ P r, f_M_stretch th pf of sz bg (nI 60) = some (r, th, P, of, sz, bg) ∧ f_C_longOf 60 (pf 0) (pf 1) (pf 2) (pf 3) = some r :=
  q_stj (j := 60) (L := 28) (by omega) (by omega) rfl (q_str_60 th pf of sz bg) (fun w hw hz => match w, hw, hz with
    | 0, _, _ => rfl
    | 1, _, _ => rfl
    | 2, _, _ => rfl
    | 3, _, hz => absurd hz (show ¬ zh 28 3 = true by decide +kernel)
    | n + 4, hw, _ => absurd hw (by omega))
theorem q_str_61 (th : Int32) (pf of : Nat → Int32) (sz bg : Int32) : f_M_stretch th pf of sz bg (nI 61) = (f_K_compose 32 ((upd pf 1 (pf 0)) 0) ((upd pf 1 (pf 0)) 1) ((upd pf 1 (pf 0)) 2) ((upd pf 1 (pf 0)) 3)).bind fun r => some (r, th, (upd pf 1 (pf 0)), of, sz, bg) := by
  rw [← q_put_eq (i := 32) (by omega) th (upd pf 1 (pf 0)) of sz bg]
  rfl
theorem q_st_61 (th : Int32) (pf of : Nat → Int32) (sz bg : Int32) : ∃ P r, f_M_stretch th pf of sz bg (nI 61) = some (r, th, P, of, sz, bg) ∧ f_C_longOf 61 (pf 0) (pf 1) (pf 2) (pf 3) = some r :=
  q_stj (j := 61) (L := 32) (by omega) (by omega) rfl (q_str_61 th pf of sz bg) (fun w hw hz => match w, hw, hz with
    | 0, _, _ => rfl
    | 1, _, _ => rfl
    | 2, _, _ => rfl
    | 3, _, hz => absurd hz (show ¬ zh 32 3 = true by decide +kernel)
    | n + 4, hw, _ => absurd hw (by omega))
theorem q_str_62 (th : Int32) (pf of : Nat → Int32) (sz bg : Int32) : f_M_stretch th pf of sz bg (nI 62) = (f_K_compose 35 ((upd pf 1 (pf 0)) 0) ((upd pf 1 (pf 0)) 1) ((upd pf 1 (pf 0)) 2) ((upd pf 1 (pf 0)) 3)).bind fun r => some (r, th, (upd pf 1 (pf 0)), of, sz, bg) := by
  rw [← q_put_eq (i := 35) (by omega) th (upd pf 1 (pf 0)) of sz bg]
  rfl
theorem q_st_62 (th : Int32) (pf of : Nat → Int32) (sz bg : Int32) : ∃ P r, f_M_stretch th pf of sz bg (nI 62) = some (r, th, P, of, sz, bg) ∧ f_C_longOf 62 (pf 0) (pf 1) (pf 2) (pf 3) = some r :=
  q_stj (j := 62) (L := 35) (by omega) (by omega) rfl (q_str_62 th pf of sz bg) (fun w hw hz => match w, hw, hz with
    | 0, _, _ => rfl
    | 1, _, _ => rfl
    | 2, _, _ => rfl
    | 3, _, hz => absurd hz (show ¬ zh 35 3 = true by decide +kernel)
    | n + 4, hw, _ => absurd hw (by omega))
theorem q_str_63 (th : Int32) (pf of : Nat → Int32) (sz bg : Int32) : f_M_stretch th pf of sz bg (nI 63) = (f_K_compose 36 ((upd pf 1 (pf 0)) 0) ((upd pf 1 (pf 0)) 1) ((upd pf 1 (pf 0)) 2) ((upd pf 1 (pf 0)) 3)).bind fun r => some (r, th, (upd pf 1 (pf 0)), of, sz, bg) := by
  rw [← q_put_eq (i := 36) (by omega) th (upd pf 1 (pf 0)) of sz bg]
  rfl
theorem q_st_63 (th : Int32) (pf of : Nat → Int32) (sz bg : Int32) : ∃ P r, f_M_stretch th pf of sz bg (nI 63) = some (r, th, P, of, sz, bg) ∧ f_C_longOf 63 (pf 0) (pf 1) (pf 2) (pf 3) = some r :=
  q_stj (j := 63) (L := 36) (by omega) (by omega) rfl (q_str_63 th pf of sz bg) (fun w hw hz => match w, hw, hz with
    | 0, _, _ => rfl
    | 1, _, _ => rfl
    | 2, _, _ => rfl
    | 3, _, hz => absurd hz (show ¬ zh 36 3 = true by decide +kernel)
    | n + 4, hw, _ => absurd hw (by omega))
theorem q_str_64 (th : Int32) (pf of : Nat → Int32) (sz bg : Int32) : f_M_stretch th pf of sz bg (nI 64) = (f_K_compose 2 ((upd pf 0 0) 0) ((upd pf 0 0) 1) ((upd pf 0 0) 2) ((upd pf 0 0) 3)).bind fun r => some (r, th, (upd pf 0 0), of, sz, bg) := by
  rw [← q_put_eq (i := 2) (by omega) th (upd pf 0 0) of sz bg]
  rfl
theorem q_st_64 (th : Int32) (pf of : Nat → Int32) (sz bg : Int32) : ∃ P r, f_M_stretch th pf of sz bg (nI 64) = some (r, th, P, of, sz, bg) ∧ f_C_longOf 64 (pf 0) (pf 1) (pf 2) (pf 3) = some r :=
  q_stj (j := 64) (L := 2) (by omega) (by omega) rfl (q_str_64 th pf of sz bg) (fun w hw hz => match w, hw, hz with
    | 0, _, _ => rfl
    | 1, _, hz => absurd hz (show ¬ zh 2 1 = true by decide +kernel)
    | 2, _, hz => absurd hz (show ¬ zh 2 2 = true by decide +kernel)
    | 3, _, _ => (if_pos (show zh 64 3 = true by decide +kernel)).symm
    | n + 4, hw, _ => absurd hw (by omega))
theorem q_str_65 (th : Int32) (pf of : Nat → Int32) (sz bg : Int32) : f_M_stretch th pf of sz bg (nI 65) = (f_K_compose 4 ((upd pf 2 0) 0) ((upd pf 2 0) 1) ((upd pf 2 0) 2) ((upd pf 2 0) 3)).bind fun r => some (r, th, (upd pf 2 0), of, sz, bg) := by
  rw [← q_put_eq (i := 4) (by omega) th (upd pf 2 0) of sz bg]
  rfl
theorem q_st_65 (th : Int32) (pf of : Nat → Int32) (sz bg : Int32) : ∃ P r, f_M_stretch th pf of sz bg (nI 65) = some (r, th, P, of, sz, bg) ∧ f_C_longOf 65 (pf 0) (pf 1) (pf 2) (pf 3) = some r :=
  q_stj (j := 65) (L := 4) (by omega) (by omega) rfl (q_str_65 th pf of sz bg) (fun w hw hz => match w, hw, hz with
    | 0, _, hz => absurd hz (show ¬ zh 4 0 = true by decide +kernel)
    | 1, _, _ => rfl
    | 2, _, _ => rfl
    | 3, _, _ => (if_pos (show zh 65 3 = true by decide +kernel)).symm
    | n + 4, hw, _ => absurd hw (by omega))
theorem q_str_66 (th : Int32) (pf of : Nat → Int32) (sz bg : Int32) : f_M_stretch th pf of sz bg (nI 66) = (f_K_compose 5 ((upd pf 2 0) 0) ((upd pf 2 0) 1) ((upd pf 2 0) 2) ((upd pf 2 0) 3)).bind fun r => some (r, th, (upd pf 2 0), of, sz, bg) := by
  rw [← q_put_eq (i := 5) (by omega) th (upd pf 2 0) of sz bg]
  rfl
theorem q_st_66 (th : Int32) (pf of : Nat → Int32) (sz bg : Int32) : ∃ P r, f_M_stretch th pf of sz bg (nI 66) = some (r, th, P, of, sz, bg) ∧ f_C_longOf 66 (pf 0) (pf 1) (pf 2) (pf 3) = some r :=
  q_stj (j := 66) (L := 5) (by omega) (by omega) rfl (q_str_66 th pf of sz bg) (fun w hw hz => match w, hw, hz with
    | 0, _, hz => absurd hz (show ¬ zh 5 0 = true by decide +kernel)
    | 1, _, _ => rfl
    | 2, _, _ => rfl
    | 3, _, _ => (if_pos (show zh 66 3 = true by decide +kernel)).symm
    | n + 4, hw, _ => absurd hw (by omega))
theorem q_str_67 (th : Int32) (pf of : Nat → Int32) (sz bg : Int32) : f_M_stretch th pf of sz bg (nI 67) = (f_K_compose 24 ((upd pf 1 (pf 0)) 0) ((upd pf 1 (pf 0)) 1) ((upd pf 1 (pf 0)) 2) ((upd pf 1 (pf 0)) 3)).bind fun r => some (r, th, (upd pf 1 (pf 0)), of, sz, bg) := by
  rw [← q_put_eq (i := 24) (by omega) th (upd pf 1 (pf 0)) of sz bg]
  rfl
theorem q_st_67 (th : Int32) (pf of : Nat → Int32) (sz bg : Int32) : ∃ P r, f_M_stretch th pf of sz bg (nI 67) = some (r, th, P, of, sz, bg) ∧ f_C_longOf 67 (pf 0) (pf 1) (pf 2) (pf 3) = some r :=
  q_stj (j := 67) (L := 24) (by omega) (by omega) rfl (q_str_67 th pf of sz bg) (fun w hw hz => match w, hw, hz with
    | 0, _, _ => rfl
    | 1, _, _ => rfl
    | 2, _, hz => absurd hz (show ¬ zh 24 2 = true by decide +kernel)
    | 3, _, _ => (if_pos (show zh 67 3 = true by decide +kernel)).symm
    | n + 4, hw, _ => absurd hw (by omega))
theorem q_str_68 (th : Int32) (pf of : Nat → Int32) (sz bg : Int32) : f_M_stretch th pf of sz bg (nI 68) = (f_K_compose 12 ((upd pf 1 2) 0) ((upd pf 1 2) 1) ((upd pf 1 2) 2) ((upd pf 1 2) 3)).bind fun r => some (r, th, (upd pf 1 2), of, sz, bg) := by
  rw [← q_put_eq (i := 12) (by omega) th (upd pf 1 2) of sz bg]
  rfl
theorem q_st_68 (th : Int32) (pf of : Nat → Int32) (sz bg : Int32) : ∃ P r, f_M_stretch th pf of sz bg (nI 68) = some (r, th, P, of, sz, bg) ∧ f_C_longOf 68 (pf 0) (pf 1) (pf 2) (pf 3) = some r :=
  q_stj (j := 68) (L := 12) (by omega) (by omega) rfl (q_str_68 th pf of sz bg) (fun w hw hz => match w, hw, hz with
    | 0, _, _ => rfl
    | 1, _, _ => rfl
    | 2, _, hz => absurd hz (show ¬ zh 12 2 = true by decide +kernel)
    | 3, _, _ => (if_pos (show zh 68 3 = true by decide +kernel)).symm
    | n + 4, hw, _ => absurd hw (by omega))
theorem q_str_69 (th : Int32) (pf of : Nat → Int32) (sz bg : Int32) : f_M_stretch th pf of sz bg (nI 69) = (f_K_compose 3 ((upd (upd pf 0 0) 3 0) 0) ((upd (upd pf 0 0) 3 0) 1) ((upd (upd pf 0 0) 3 0) 2) ((upd (upd pf 0 0) 3 0) 3)).bind fun r => some (r, th, (upd (upd pf 0 0) 3 0), of, sz, bg) := by
  rw [← q_put_eq (i := 3) (by omega) th (upd (upd pf 0 0) 3 0) of sz bg]
  rfl
theorem q_st_69 (th : Int32) (pf of : Nat → Int32) (sz bg : Int32) : ∃ P r, f_M_stretch th pf of sz bg (nI 69) = some (r, th, P, of, sz, bg) ∧ f_C_longOf 69 (pf 0) (pf 1) (pf 2) (pf 3) = some r :=
  q_stj (j := 69) (L := 3) (by omega) (by omega) rfl (q_str_69 th pf of sz bg) (fun w hw hz => match w, hw, hz with
    | 0, _, _ => rfl
    | 1, _, _ => rfl
    | 2, _, hz => absurd hz (show ¬ zh 3 2 = true by decide +kernel)
    | 3, _, _ => (if_neg (show ¬ zh 69 3 = true by decide +kernel)).symm
    | n + 4, hw, _ => absurd hw (by omega))
theorem q_str_70 (th : Int32) (pf of : Nat → Int32) (sz bg : Int32) : f_M_stretch th pf of sz bg (nI 70) = (f_K_compose 27 ((upd pf 1 0) 0) ((upd pf 1 0) 1) ((upd pf 1 0) 2) ((upd pf 1 0) 3)).bind fun r => some (r, th, (upd pf 1 0), of, sz, bg) := by
  rw [← q_put_eq (i := 27) (by omega) th (upd pf 1 0) of sz bg]
  rfl
theorem q_st_70 (th : Int32) (pf of : Nat → Int32) (sz bg : Int32) : ∃ P r, f_M_stretch th pf of sz bg (nI 70) = some (r, th, P, of, sz, bg) ∧ f_C_longOf 70 (pf 0) (pf 1) (pf 2) (pf 3) = some r :=
  q_stj (j := 70) (L := 27) (by omega) (by omega) rfl (q_str_70 th pf of sz bg) (fun w hw hz => match w, hw, hz with
    | 0, _, _ => rfl
    | 1, _, _ => rfl
    | 2, _, _ => rfl
    | 3, _, hz => absurd hz (show ¬ zh 27 3 = true by decide +kernel)
    | n + 4, hw, _ => absurd hw (by omega))
theorem q_str_71 (th : Int32) (pf of : Nat → Int32) (sz bg : Int32) : f_M_stretch th pf of sz bg (nI 71) = (f_K_compose 47 (pf 0) (pf 1) (pf 2) (pf 3)).bind fun r => some (r, th, pf, of, sz, bg) := by
  rw [← q_put_eq (i := 47) (by omega) th pf of sz bg]
  rfl
theorem q_st_71 (th : Int32) (pf of : Nat → Int32) (sz bg : Int32) : ∃ P r, f_M_stretch th pf of sz bg (nI 71) = some (r, th, P, of, sz, bg) ∧ f_C_longOf 71 (pf 0) (pf 1) (pf 2) (pf 3) = some r :=
  q_stj (j := 71) (L := 47) (by omega) (by omega) rfl (q_str_71 th pf of sz bg) (fun w hw hz => match w, hw, hz with
    | 0, _, hz => absurd hz (show ¬ zh 47 0 = true by decide +kernel)
    | 1, _, hz => absurd hz (show ¬ zh 47 1 = true by decide +kernel)
    | 2, _, hz => absurd hz (show ¬ zh 47 2 = true by decide +kernel)
    | 3, _, hz => absurd hz (show ¬ zh 47 3 = true by decide +kernel)
    | n + 4, hw, _ => absurd hw (by omega))
theorem q_str_72 (th : Int32) (pf of : Nat → Int32) (sz bg : Int32) : f_M_stretch th pf of sz bg (nI 72) = (f_K_compose 3 ((upd (upd pf 0 1) 3 0) 0) ((upd (upd pf 0 1) 3 0) 1) ((upd (upd pf 0 1) 3 0) 2) ((upd (upd pf 0 1) 3 0) 3)).bind fun r => some (r, th, (upd (upd pf 0 1) 3 0), of, sz, bg) := by
  rw [← q_put_eq (i := 3) (by omega) th (upd (upd pf 0 1) 3 0) of sz bg]
  rfl
theorem q_st_72 (th : Int32) (pf of : Nat → Int32) (sz bg : Int32) : ∃ P r, f_M_stretch th pf of sz bg (nI 72) = some (r, th, P, of, sz, bg) ∧ f_C_longOf 72 (pf 0) (pf 1) (pf 2) (pf 3) = some r :=
  q_stj (j := 72) (L := 3) (by omega) (by omega) rfl (q_str_72 th pf of sz bg) (fun w hw hz => match w, hw, hz with
    | 0, _, _ => rfl
    | 1, _, _ => rfl
    | 2, _, hz => absurd hz (show ¬ zh 3 2 = true by decide +kernel)
    | 3, _, _ => (if_neg (show ¬ zh 72 3 = true by decide +kernel)).symm
    | n + 4, hw, _ => absurd hw (by omega))
theorem q_str_73 (th : Int32) (pf of : Nat → Int32) (sz bg : Int32) : f_M_stretch th pf of sz bg (nI 73) = (f_K_compose 27 ((upd pf 1 (pf 0)) 0) ((upd pf 1 (pf 0)) 1) ((upd pf 1 (pf 0)) 2) ((upd pf 1 (pf 0)) 3)).bind fun r => some (r, th, (upd pf 1 (pf 0)), of, sz, bg) := by
  rw [← q_put_eq (i := 27) (by omega) th (upd pf 1 (pf 0)) of sz bg]
  rfl
theorem q_st_73 (th : Int32) (pf of : Nat → Int32) (sz bg : Int32) : ∃ P r, f_M_stretch th pf of sz bg (nI 73) = some (r, th, P, of, sz, bg) ∧ f_C_longOf 73 (pf 0) (pf 1) (pf 2) (pf 3) = some r :=
  q_stj (j := 73) (L := 27) (by omega) (by omega) rfl (q_str_73 th pf of sz bg) (fun w hw hz => match w, hw, hz with
    | 0, _, _ => rfl
    | 1, _, _ => rfl
    | 2, _, _ => rfl
    | 3, _, hz => absurd hz (show ¬ zh 27 3 = true by decide +kernel)
    | n + 4, hw, _ => absurd hw (by omega))
theorem q_str_74 (th : Int32) (pf of : Nat → Int32) (sz bg : Int32) : f_M_stretch th pf of sz bg (nI 74) = (f_K_compose 17 ((upd pf 1 2) 0) ((upd pf 1 2) 1) ((upd pf 1 2) 2) ((upd pf 1 2) 3)).bind fun r => some (r, th, (upd pf 1 2), of, sz, bg) := by
  rw [← q_put_eq (i := 17) (by omega) th (upd pf 1 2) of sz bg]
  rfl
theorem q_st_74 (th : Int32) (pf of : Nat → Int32) (sz bg : Int32) : ∃ P r, f_M_stretch th pf of sz bg (nI 74) = some (r, th, P, of, sz, bg) ∧ f_C_longOf 74 (pf 0) (pf 1) (pf 2) (pf 3) = some r :=
  q_stj (j := 74) (L := 17) (by omega) (by omega) rfl (q_str_74 th pf of sz bg) (fun w hw hz => match w, hw, hz with
    | 0, _, hz => absurd hz (show ¬ zh 17 0 = true by decide +kernel)
    | 1, _, _ => rfl
    | 2, _, _ => rfl
    | 3, _, _ => (if_pos (show zh 74 3 = true by decide +kernel)).symm
    | n + 4, hw, _ => absurd hw (by omega))
theorem q_stretch {j : Nat} (hj : j < 75) (h : 48 ≤ j) (th : Int32) (pf of : Nat → Int32) (sz bg : Int32) : ∃ P r, f_M_stretch th pf of sz bg (nI j) = some (r, th, P, of, sz, bg) ∧ f_C_longOf j (pf 0) (pf 1) (pf 2) (pf 3) = some r := by
  obtain ⟨t, rfl⟩ := Nat.exists_eq_add_of_le h
  have ht : t < 27 := by omega
  clear hj h
  match t, ht with
  | 0, _ => exact q_st_48 th pf of sz bg
  | 1, _ => exact q_st_49 th pf of sz bg
  | 2, _ => exact q_st_50 th pf of sz bg
  | 3, _ => exact q_st_51 th pf of sz bg
  | 4, _ => exact q_st_52 th pf of sz bg
  | 5, _ => exact q_st_53 th pf of sz bg
  | 6, _ => exact q_st_54 th pf of sz bg
  | 7, _ => exact q_st_55 th pf of sz bg
  | 8, _ => exact q_st_56 th pf of sz bg
  | 9, _ => exact q_st_57 th pf of sz bg
  | 10, _ => exact q_st_58 th pf of sz bg
  | 11, _ => exact q_st_59 th pf of sz bg
  | 12, _ => exact q_st_60 th pf of sz bg
  | 13, _ => exact q_st_61 th pf of sz bg
  | 14, _ => exact q_st_62 th pf of sz bg
  | 15, _ => exact q_st_63 th pf of sz bg
  | 16, _ => exact q_st_64 th pf of sz bg
  | 17, _ => exact q_st_65 th pf of sz bg
  | 18, _ => exact q_st_66 th pf of sz bg
  | 19, _ => exact q_st_67 th pf of sz bg
  | 20, _ => exact q_st_68 th pf of sz bg
  | 21, _ => exact q_st_69 th pf of sz bg
  | 22, _ => exact q_st_70 th pf of sz bg
  | 23, _ => exact q_st_71 th pf of sz bg
  | 24, _ => exact q_st_72 th pf of sz bg
  | 25, _ => exact q_st_73 th pf of sz bg
  | 26, _ => exact q_st_74 th pf of sz bg
  | n + 27, h => exact absurd h (by omega)
theorem q_longer (th : Int32) (pf of : Nat → Int32) (sz bg w : Int32) : ∃ v t pf', f_M_longer th pf of sz bg w = some (v, t, pf', of, sz, bg) ∧ ((t = 0 ∧ f_C_longer w = some (.inl v)) ∨ (t = 1 ∧ f_C_longer w = some (.inr "java/util/NoSuchElementException"))) := by
  obtain ⟨k, p1, hM, hC, hr⟩ := q_find w th pf of sz bg
  unfold f_M_longer f_C_longer f_M_isLong
  rw [hC, Option.bind_some]
  by_cases hl : w &&& 3 = 3
  · rw [if_pos hl, Option.bind_some, if_neg n_t]
    refine ⟨0, 1, pf, rfl, Or.inr ⟨rfl, ?_⟩⟩
    rcases hr with ⟨rfl, _⟩ | ⟨i, hi, rfl, hd, _, h48, _⟩
    · rw [if_pos rfl]
    · rw [if_neg (zt_nm1 i hi), if_neg (nI_in (N := 75) hi (by omega)), nI_clamp (by omega), (zt_nst i (h48.mp hl)).2, Option.bind_some, if_pos n_f]
  · rw [if_neg hl, Option.bind_some, if_pos n_f, hM, Option.bind_some]
    dsimp only
    rcases hr with ⟨rfl, _⟩ | ⟨i, hi, rfl, hd, _, h48, _⟩
    · rw [if_pos rfl]
      exact ⟨0, 1, p1, rfl, Or.inr ⟨rfl, rfl⟩⟩
    · have h48' : 48 ≤ i := by
        rcases Nat.lt_or_ge i 48 with y | y
        · exact absurd (h48.mpr y) hl
        · exact y
      obtain ⟨P, r, e1, e2⟩ := q_stretch hi h48' 0 p1 of sz bg
      unfold f_M_longer_L16 f_M_longer_L28
      rw [if_neg (zt_nm1 i hi), if_neg (zt_nm1 i hi), if_pos rfl, e1, Option.bind_some, if_neg (nI_in (N := 75) hi (by omega)), if_neg (nI_in (N := 75) hi (by omega)), nI_clamp (by omega), (zt_slot i hi h48').2.2.2.1, Option.bind_some, if_neg n_t, show f_K_register i w 1 = some (p1 0) from hd.1 0 (by omega), Option.bind_some, show f_K_register i w 2 = some (p1 1) from hd.1 1 (by omega), Option.bind_some, show f_K_register i w 4 = some (p1 2) from hd.1 2 (by omega), Option.bind_some, hd.2, Option.bind_some, e2, Option.bind_some]
      exact ⟨r, 0, P, rfl, Or.inl ⟨rfl, rfl⟩⟩
