/-! a short word told as a long one -/
theorem q_pf4 (P : Nat → Int32) {w : Nat} (hw : w < 4) : pf4 (P 0) (P 1) (P 2) (P 3) w = P w := by
  rcases (show w = 0 ∨ w = 1 ∨ w = 2 ∨ w = 3 by omega) with e | e | e | e <;> subst e <;> rfl
theorem q_hasc {i k : Nat} (hi : i < 75) (hk : k < 32) (hc : 2 ≤ cz i k) : cw (cz i k) < 4 ∧ zh i (cw (cz i k)) = true := by
  have h4 := q_cw4 (zt_cod2 i hi k hk)
  refine ⟨h4, ?_⟩
  cases hz : zh i (cw (cz i k)) with
  | true => rfl
  | false =>
    exfalso
    have h1 := (zt_pos i hi k hk hc).2
    have h2 := (zt_cod3 i hi k hk hc).1
    rw [zt_nreg i hi _ h4 hz _ (by omega)] at h1
    omega
/-- only the parts that a kind has count in its word -/
theorem q_cirr {i : Nat} (hi : i < 75) (P Q : Nat → Int32) (h : ∀ w, w < 4 → zh i w = true → P w = Q w) : f_K_compose i (P 0) (P 1) (P 2) (P 3) = f_K_compose i (Q 0) (Q 1) (Q 2) (Q 3) := by
  obtain ⟨r, h1, b1⟩ := q_compose hi (P 0) (P 1) (P 2) (P 3)
  obtain ⟨r', h2, b2⟩ := q_compose hi (Q 0) (Q 1) (Q 2) (Q 3)
  rw [h1, h2]
  congr 1
  apply b_ext
  intro k hk
  rw [b1 k hk, b2 k hk]
  congr 1
  unfold mbit
  rcases Nat.lt_or_ge (cz i k) 2 with hc | hc
  · rw [if_pos hc, if_pos hc]
  · obtain ⟨g1, g2⟩ := q_hasc hi hk hc
    rw [if_neg (by omega), if_neg (by omega), q_pf4 P g1, q_pf4 Q g1, h _ g1 g2]
def sll : List (List Int32) := [[100, 50, 45], [100, 97, 45], [45, 97, 98], [48, 48, 45], [100, 100, 45], [49, 45, 45], [100, 48, 45], [50, 50, 45], [100, 45, 45], [100, 100, 45], [100, 100, 45], [100, 100, 45], [100, 100, 98], [100, 100, 98], [100, 100, 98], [100, 100, 98], [48, 45, 45], [45, 97, 48], [45, 97, 48], [100, 100, 45], [100, 50, 45], [48, 97, 45], [100, 48, 98], [45, 45, 45], [49, 97, 45], [100, 100, 98], [45, 50, 98]]
def lkl : List Nat := [18, 12, 17, 18, 18, 2, 18, 18, 0, 25, 26, 23, 28, 32, 35, 36, 2, 4, 5, 24, 12, 3, 27, 47, 3, 27, 17]
def ssl (j t : Nat) : Int32 := (sll.getD (j - 48) []).getD t 0
def lgk (j : Nat) : Nat := lkl.getD (j - 48) 0
set_option maxRecDepth 100000 in
theorem zt_slot : ∀ j, j < 75 → 48 ≤ j → f_S_length (k_slots j) = some (nI 3) ∧ k_stands j = nI (lgk j) ∧ lgk j < 48 ∧ f_C_isKind (k_stands j) = some true ∧ f_M_longKind (nI j) = some (nI (lgk j)) := by decide +kernel
set_option maxRecDepth 100000 in
theorem zt_slo2 : ∀ j, j < 75 → 48 ≤ j → ∀ t, t < 3 → f_S_charAt (k_slots j) (nI t) = some (ssl j t) := by decide +kernel
set_option maxRecDepth 100000 in
theorem zt_slo3 : ∀ j, j < 75 → 48 ≤ j → ∀ t, t < 3 → (ssl j t = 100 → zh j 0 = true) ∧ (ssl j t = 97 → zh j 1 = true) ∧ (ssl j t = 98 → zh j 2 = true) := by decide +kernel
set_option maxRecDepth 100000 in
theorem zt_nst : ∀ j, j < 48 → k_stands j = -1 ∧ f_C_isKind (k_stands j) = some false := by decide +kernel
def slv (j t : Nat) (d a b : Int32) : Int32 := if ssl j t = 100 then d else if ssl j t = 97 then a else if ssl j t = 98 then b else if ssl j t < 48 then 0 else if 57 < ssl j t then 0 else ssl j t - 48
theorem q_slot {j t : Nat} (hj : j < 75) (h : 48 ≤ j) (ht : t < 3) (d a b : Int32) : f_C_slotRegister (k_slots j) (nI t) d a b = some (slv j t d a b) := by
  unfold f_C_slotRegister slv
  rw [if_neg (nI_pos (by omega)), (zt_slot j hj h).1, Option.bind_some, if_pos (nI_lt ht (by omega)), zt_slo2 j hj h t ht, Option.bind_some]
  repeat' split
  all_goals rfl
theorem q_longOf {j : Nat} (hj : j < 75) (h : 48 ≤ j) (d a b im : Int32) : f_C_longOf j d a b im = f_K_compose (lgk j) (slv j 0 d a b) (slv j 1 d a b) (slv j 2 d a b) (if zh j 3 = true then im else 0) := by
  obtain ⟨s1, s2, s3, s4, s5⟩ := zt_slot j hj h
  unfold f_C_longOf
  rw [s4, Option.bind_some, if_neg n_t, show f_C_slotRegister (k_slots j) 0 d a b = some (slv j 0 d a b) from q_slot hj h (t := 0) (by omega) d a b, Option.bind_some, show f_C_slotRegister (k_slots j) 1 d a b = some (slv j 1 d a b) from q_slot hj h (t := 1) (by omega) d a b, Option.bind_some, show f_C_slotRegister (k_slots j) 2 d a b = some (slv j 2 d a b) from q_slot hj h (t := 2) (by omega) d a b, Option.bind_some, s2, if_neg (nI_in (N := 75) (by omega) (by omega)), nI_clamp (by omega), show f_K_has j 8 = some (zh j 3) from zt_has j hj 3 (by omega), Option.bind_some]
  obtain ⟨r1, h1, _⟩ := q_compose (show lgk j < 75 by omega) (slv j 0 d a b) (slv j 1 d a b) (slv j 2 d a b) im
  obtain ⟨r2, h2, _⟩ := q_compose (show lgk j < 75 by omega) (slv j 0 d a b) (slv j 1 d a b) (slv j 2 d a b) 0
  cases zh j 3 with
  | false => rw [if_pos n_f, if_neg (show ¬ (false = true) by decide), h2]; rfl
  | true => rw [if_neg n_t, if_pos rfl, h1]; rfl
theorem q_lirr {j : Nat} (hj : j < 75) (h : 48 ≤ j) (P Q : Nat → Int32) (g : ∀ w, w < 4 → zh j w = true → P w = Q w) : f_C_longOf j (P 0) (P 1) (P 2) (P 3) = f_C_longOf j (Q 0) (Q 1) (Q 2) (Q 3) := by
  rw [q_longOf hj h, q_longOf hj h]
  have e : ∀ t, t < 3 → slv j t (P 0) (P 1) (P 2) = slv j t (Q 0) (Q 1) (Q 2) := by
    intro t ht
    obtain ⟨z1, z2, z3⟩ := zt_slo3 j hj h t ht
    unfold slv
    by_cases c1 : ssl j t = 100
    · rw [if_pos c1, if_pos c1]; exact g 0 (by omega) (z1 c1)
    rw [if_neg c1, if_neg c1]
    by_cases c2 : ssl j t = 97
    · rw [if_pos c2, if_pos c2]; exact g 1 (by omega) (z2 c2)
    rw [if_neg c2, if_neg c2]
    by_cases c3 : ssl j t = 98
    · rw [if_pos c3, if_pos c3]; exact g 2 (by omega) (z3 c3)
    rw [if_neg c3, if_neg c3]
  rw [e 0 (by omega), e 1 (by omega), e 2 (by omega)]
  cases hz : zh j 3 with
  | false => rw [if_neg (by decide), if_neg (by decide)]
  | true => rw [if_pos rfl, if_pos rfl, g 3 (by omega) hz]
theorem cl0 : (0 : Int32).toNatClampNeg = 0 := by decide
theorem cl1 : (1 : Int32).toNatClampNeg = 1 := by decide
theorem cl2 : (2 : Int32).toNatClampNeg = 2 := by decide
theorem cl3 : (3 : Int32).toNatClampNeg = 3 := by decide
theorem nq0 : ((0 : Int32) < 0 ∨ 4 ≤ 0) = False := eq_false (by decide)
theorem nq1 : ((1 : Int32) < 0 ∨ 4 ≤ 1) = False := eq_false (by decide)
theorem nq2 : ((2 : Int32) < 0 ∨ 4 ≤ 2) = False := eq_false (by decide)
theorem nq3 : ((3 : Int32) < 0 ∨ 4 ≤ 3) = False := eq_false (by decide)
theorem slv_d {j t : Nat} (h : ssl j t = 100) (d a b : Int32) : slv j t d a b = d := if_pos h
theorem slv_a {j t : Nat} (h : ¬ ssl j t = 100 ∧ ssl j t = 97) (d a b : Int32) : slv j t d a b = a := (if_neg h.1).trans (if_pos h.2)
theorem slv_b {j t : Nat} (h : ¬ ssl j t = 100 ∧ ¬ ssl j t = 97 ∧ ssl j t = 98) (d a b : Int32) : slv j t d a b = b := (if_neg h.1).trans ((if_neg h.2.1).trans (if_pos h.2.2))
theorem slv_c {j t : Nat} {c : Int32} (h : ¬ ssl j t = 100 ∧ ¬ ssl j t = 97 ∧ ¬ ssl j t = 98 ∧ ¬ ssl j t < 48 ∧ ¬ 57 < ssl j t ∧ ssl j t - 48 = c) (d a b : Int32) : slv j t d a b = c := (if_neg h.1).trans ((if_neg h.2.1).trans ((if_neg h.2.2.1).trans ((if_neg h.2.2.2.1).trans ((if_neg h.2.2.2.2.1).trans h.2.2.2.2.2))))
theorem i10 : ((1 : Int32) = 0) = False := eq_false (by decide)
theorem i00 : ((0 : Int32) = 0) = True := eq_true rfl
theorem q_stj {j L : Nat} (hj : j < 75) (h : 48 ≤ j) (hL : L = lgk j) {th : Int32} {pf of : Nat → Int32} {sz bg : Int32} {P : Nat → Int32} (e : f_M_stretch th pf of sz bg (nI j) = (f_K_compose L (P 0) (P 1) (P 2) (P 3)).bind fun r => some (r, th, P, of, sz, bg)) (g0 : zh L 0 = true → P 0 = slv j 0 (pf 0) (pf 1) (pf 2)) (g1 : zh L 1 = true → P 1 = slv j 1 (pf 0) (pf 1) (pf 2)) (g2 : zh L 2 = true → P 2 = slv j 2 (pf 0) (pf 1) (pf 2)) (g3 : zh L 3 = true → P 3 = (if zh j 3 = true then pf 3 else 0)) : ∃ P r, f_M_stretch th pf of sz bg (nI j) = some (r, th, P, of, sz, bg) ∧ f_C_longOf j (pf 0) (pf 1) (pf 2) (pf 3) = some r := by
  have hl := (zt_slot j hj h).2.2.1
  have q := q_cirr (show L < 75 by omega) P (pf4 (slv j 0 (pf 0) (pf 1) (pf 2)) (slv j 1 (pf 0) (pf 1) (pf 2)) (slv j 2 (pf 0) (pf 1) (pf 2)) (if zh j 3 = true then pf 3 else 0)) (fun w hw hz => by
    rcases (show w = 0 ∨ w = 1 ∨ w = 2 ∨ w = 3 by omega) with e | e | e | e <;> subst e
    · exact g0 hz
    · exact g1 hz
    · exact g2 hz
    · exact g3 hz)
  obtain ⟨r, hr, _⟩ := q_compose (show L < 75 by omega) (P 0) (P 1) (P 2) (P 3)
  refine ⟨P, r, ?_, ?_⟩
  · rw [e, hr]; rfl
  · rw [q_longOf hj h, ← hL]
    exact q.symm.trans hr
theorem q_str_48 (th : Int32) (pf of : Nat → Int32) (sz bg : Int32) : f_M_stretch th pf of sz bg (nI 48) = (f_K_compose 18 ((upd pf 1 2) 0) ((upd pf 1 2) 1) ((upd pf 1 2) 2) ((upd pf 1 2) 3)).bind fun r => some (r, th, (upd pf 1 2), of, sz, bg) := by
  have e48 : (nI 48 = 48) = True := eq_true rfl
  have e51 : (nI 48 = 51) = False := eq_false (by decide)
  have e52 : (nI 48 = 52) = False := eq_false (by decide)
  have e53 : (nI 48 = 53) = False := eq_false (by decide)
  have e54 : (nI 48 = 54) = False := eq_false (by decide)
  have e55 : (nI 48 = 55) = False := eq_false (by decide)
  have e57 : (nI 48 = 57) = False := eq_false (by decide)
  have e58 : (nI 48 = 58) = False := eq_false (by decide)
  have e59 : (nI 48 = 59) = False := eq_false (by decide)
  have e64 : (nI 48 = 64) = False := eq_false (by decide)
  have e65 : (nI 48 = 65) = False := eq_false (by decide)
  have e66 : (nI 48 = 66) = False := eq_false (by decide)
  have e67 : (nI 48 = 67) = False := eq_false (by decide)
  have e68 : (nI 48 = 68) = False := eq_false (by decide)
  have e69 : (nI 48 = 69) = False := eq_false (by decide)
  have e70 : (nI 48 = 70) = False := eq_false (by decide)
  have e72 : (nI 48 = 72) = False := eq_false (by decide)
  have e73 : (nI 48 = 73) = False := eq_false (by decide)
  have e74 : (nI 48 = 74) = False := eq_false (by decide)
  have l59 : (nI 48 ≤ 59) = True := eq_true (by decide)
  have l64 : (nI 48 < 64) = True := eq_true (by decide)
  have lk : f_M_longKind (nI 48) = some (nI 18) := by decide +kernel
  rw [← q_put_eq (i := 18) (by omega) th (upd pf 1 2) of sz bg]
  simp only [f_M_stretch, f_M_stretch_L43, f_M_stretch_L55, f_M_stretch_L60, f_M_stretch_L85, f_M_stretch_L90, f_M_stretch_L103, f_M_stretch_L115, f_M_stretch_L133, f_M_stretch_L140, f_M_stretch_L158, f_M_stretch_L165, f_M_stretch_L177, f_M_stretch_L184, f_M_stretch_L197, f_M_stretch_L209, f_M_stretch_L216, f_M_stretch_L234, e48, e51, e52, e53, e54, e55, e57, e58, e59, e64, e65, e66, e67, e68, e69, e70, e72, e73, e74, l59, l64, lk, eq_false n_p0, eq_false n_p1, eq_false n_p2, eq_false n_p3, cl0, cl1, cl2, cl3, nq0, nq1, nq2, nq3, i10, i00, ↓reduceIte, Option.bind_some]
theorem q_st_48 (th : Int32) (pf of : Nat → Int32) (sz bg : Int32) : ∃ P r, f_M_stretch th pf of sz bg (nI 48) = some (r, th, P, of, sz, bg) ∧ f_C_longOf 48 (pf 0) (pf 1) (pf 2) (pf 3) = some r :=
  q_stj (j := 48) (L := 18) (by omega) (by omega) rfl (q_str_48 th pf of sz bg) (fun _ => (slv_d (j := 48) (t := 0) (by decide +kernel) _ _ _).symm) (fun _ => (slv_c (j := 48) (t := 1) (c := 2) (by decide +kernel) _ _ _).symm) (fun hz => absurd hz (show ¬ zh 18 2 = true by decide +kernel)) (fun _ => (if_pos (show zh 48 3 = true by decide +kernel)).symm)
theorem q_str_49 (th : Int32) (pf of : Nat → Int32) (sz bg : Int32) : f_M_stretch th pf of sz bg (nI 49) = (f_K_compose 12 (pf 0) (pf 1) (pf 2) (pf 3)).bind fun r => some (r, th, pf, of, sz, bg) := by
  have e48 : (nI 49 = 48) = False := eq_false (by decide)
  have e51 : (nI 49 = 51) = False := eq_false (by decide)
  have e52 : (nI 49 = 52) = False := eq_false (by decide)
  have e53 : (nI 49 = 53) = False := eq_false (by decide)
  have e54 : (nI 49 = 54) = False := eq_false (by decide)
  have e55 : (nI 49 = 55) = False := eq_false (by decide)
  have e57 : (nI 49 = 57) = False := eq_false (by decide)
  have e58 : (nI 49 = 58) = False := eq_false (by decide)
  have e59 : (nI 49 = 59) = False := eq_false (by decide)
  have e64 : (nI 49 = 64) = False := eq_false (by decide)
  have e65 : (nI 49 = 65) = False := eq_false (by decide)
  have e66 : (nI 49 = 66) = False := eq_false (by decide)
  have e67 : (nI 49 = 67) = False := eq_false (by decide)
  have e68 : (nI 49 = 68) = False := eq_false (by decide)
  have e69 : (nI 49 = 69) = False := eq_false (by decide)
  have e70 : (nI 49 = 70) = False := eq_false (by decide)
  have e72 : (nI 49 = 72) = False := eq_false (by decide)
  have e73 : (nI 49 = 73) = False := eq_false (by decide)
  have e74 : (nI 49 = 74) = False := eq_false (by decide)
  have l59 : (nI 49 ≤ 59) = True := eq_true (by decide)
  have l64 : (nI 49 < 64) = True := eq_true (by decide)
  have lk : f_M_longKind (nI 49) = some (nI 12) := by decide +kernel
  rw [← q_put_eq (i := 12) (by omega) th pf of sz bg]
  simp only [f_M_stretch, f_M_stretch_L43, f_M_stretch_L55, f_M_stretch_L60, f_M_stretch_L85, f_M_stretch_L90, f_M_stretch_L103, f_M_stretch_L115, f_M_stretch_L133, f_M_stretch_L140, f_M_stretch_L158, f_M_stretch_L165, f_M_stretch_L177, f_M_stretch_L184, f_M_stretch_L197, f_M_stretch_L209, f_M_stretch_L216, f_M_stretch_L234, e48, e51, e52, e53, e54, e55, e57, e58, e59, e64, e65, e66, e67, e68, e69, e70, e72, e73, e74, l59, l64, lk, eq_false n_p0, eq_false n_p1, eq_false n_p2, eq_false n_p3, cl0, cl1, cl2, cl3, nq0, nq1, nq2, nq3, i10, i00, ↓reduceIte, Option.bind_some]
theorem q_st_49 (th : Int32) (pf of : Nat → Int32) (sz bg : Int32) : ∃ P r, f_M_stretch th pf of sz bg (nI 49) = some (r, th, P, of, sz, bg) ∧ f_C_longOf 49 (pf 0) (pf 1) (pf 2) (pf 3) = some r :=
  q_stj (j := 49) (L := 12) (by omega) (by omega) rfl (q_str_49 th pf of sz bg) (fun _ => (slv_d (j := 49) (t := 0) (by decide +kernel) _ _ _).symm) (fun _ => (slv_a (j := 49) (t := 1) (by decide +kernel) _ _ _).symm) (fun hz => absurd hz (show ¬ zh 12 2 = true by decide +kernel)) (fun _ => (if_pos (show zh 49 3 = true by decide +kernel)).symm)
theorem q_str_50 (th : Int32) (pf of : Nat → Int32) (sz bg : Int32) : f_M_stretch th pf of sz bg (nI 50) = (f_K_compose 17 (pf 0) (pf 1) (pf 2) (pf 3)).bind fun r => some (r, th, pf, of, sz, bg) := by
  have e48 : (nI 50 = 48) = False := eq_false (by decide)
  have e51 : (nI 50 = 51) = False := eq_false (by decide)
  have e52 : (nI 50 = 52) = False := eq_false (by decide)
  have e53 : (nI 50 = 53) = False := eq_false (by decide)
  have e54 : (nI 50 = 54) = False := eq_false (by decide)
  have e55 : (nI 50 = 55) = False := eq_false (by decide)
  have e57 : (nI 50 = 57) = False := eq_false (by decide)
  have e58 : (nI 50 = 58) = False := eq_false (by decide)
  have e59 : (nI 50 = 59) = False := eq_false (by decide)
  have e64 : (nI 50 = 64) = False := eq_false (by decide)
  have e65 : (nI 50 = 65) = False := eq_false (by decide)
  have e66 : (nI 50 = 66) = False := eq_false (by decide)
  have e67 : (nI 50 = 67) = False := eq_false (by decide)
  have e68 : (nI 50 = 68) = False := eq_false (by decide)
  have e69 : (nI 50 = 69) = False := eq_false (by decide)
  have e70 : (nI 50 = 70) = False := eq_false (by decide)
  have e72 : (nI 50 = 72) = False := eq_false (by decide)
  have e73 : (nI 50 = 73) = False := eq_false (by decide)
  have e74 : (nI 50 = 74) = False := eq_false (by decide)
  have l59 : (nI 50 ≤ 59) = True := eq_true (by decide)
  have l64 : (nI 50 < 64) = True := eq_true (by decide)
  have lk : f_M_longKind (nI 50) = some (nI 17) := by decide +kernel
  rw [← q_put_eq (i := 17) (by omega) th pf of sz bg]
  simp only [f_M_stretch, f_M_stretch_L43, f_M_stretch_L55, f_M_stretch_L60, f_M_stretch_L85, f_M_stretch_L90, f_M_stretch_L103, f_M_stretch_L115, f_M_stretch_L133, f_M_stretch_L140, f_M_stretch_L158, f_M_stretch_L165, f_M_stretch_L177, f_M_stretch_L184, f_M_stretch_L197, f_M_stretch_L209, f_M_stretch_L216, f_M_stretch_L234, e48, e51, e52, e53, e54, e55, e57, e58, e59, e64, e65, e66, e67, e68, e69, e70, e72, e73, e74, l59, l64, lk, eq_false n_p0, eq_false n_p1, eq_false n_p2, eq_false n_p3, cl0, cl1, cl2, cl3, nq0, nq1, nq2, nq3, i10, i00, ↓reduceIte, Option.bind_some]
theorem q_st_50 (th : Int32) (pf of : Nat → Int32) (sz bg : Int32) : ∃ P r, f_M_stretch th pf of sz bg (nI 50) = some (r, th, P, of, sz, bg) ∧ f_C_longOf 50 (pf 0) (pf 1) (pf 2) (pf 3) = some r :=
  q_stj (j := 50) (L := 17) (by omega) (by omega) rfl (q_str_50 th pf of sz bg) (fun hz => absurd hz (show ¬ zh 17 0 = true by decide +kernel)) (fun _ => (slv_a (j := 50) (t := 1) (by decide +kernel) _ _ _).symm) (fun _ => (slv_b (j := 50) (t := 2) (by decide +kernel) _ _ _).symm) (fun _ => (if_pos (show zh 50 3 = true by decide +kernel)).symm)
theorem q_str_51 (th : Int32) (pf of : Nat → Int32) (sz bg : Int32) : f_M_stretch th pf of sz bg (nI 51) = (f_K_compose 18 ((upd (upd (upd pf 1 0) 0 0) 3 0) 0) ((upd (upd (upd pf 1 0) 0 0) 3 0) 1) ((upd (upd (upd pf 1 0) 0 0) 3 0) 2) ((upd (upd (upd pf 1 0) 0 0) 3 0) 3)).bind fun r => some (r, th, (upd (upd (upd pf 1 0) 0 0) 3 0), of, sz, bg) := by
  have e48 : (nI 51 = 48) = False := eq_false (by decide)
  have e51 : (nI 51 = 51) = True := eq_true rfl
  have e52 : (nI 51 = 52) = False := eq_false (by decide)
  have e53 : (nI 51 = 53) = False := eq_false (by decide)
  have e54 : (nI 51 = 54) = False := eq_false (by decide)
  have e55 : (nI 51 = 55) = False := eq_false (by decide)
  have e57 : (nI 51 = 57) = False := eq_false (by decide)
  have e58 : (nI 51 = 58) = False := eq_false (by decide)
  have e59 : (nI 51 = 59) = False := eq_false (by decide)
  have e64 : (nI 51 = 64) = False := eq_false (by decide)
  have e65 : (nI 51 = 65) = False := eq_false (by decide)
  have e66 : (nI 51 = 66) = False := eq_false (by decide)
  have e67 : (nI 51 = 67) = False := eq_false (by decide)
  have e68 : (nI 51 = 68) = False := eq_false (by decide)
  have e69 : (nI 51 = 69) = False := eq_false (by decide)
  have e70 : (nI 51 = 70) = False := eq_false (by decide)
  have e72 : (nI 51 = 72) = False := eq_false (by decide)
  have e73 : (nI 51 = 73) = False := eq_false (by decide)
  have e74 : (nI 51 = 74) = False := eq_false (by decide)
  have l59 : (nI 51 ≤ 59) = True := eq_true (by decide)
  have l64 : (nI 51 < 64) = True := eq_true (by decide)
  have lk : f_M_longKind (nI 51) = some (nI 18) := by decide +kernel
  rw [← q_put_eq (i := 18) (by omega) th (upd (upd (upd pf 1 0) 0 0) 3 0) of sz bg]
  simp only [f_M_stretch, f_M_stretch_L43, f_M_stretch_L55, f_M_stretch_L60, f_M_stretch_L85, f_M_stretch_L90, f_M_stretch_L103, f_M_stretch_L115, f_M_stretch_L133, f_M_stretch_L140, f_M_stretch_L158, f_M_stretch_L165, f_M_stretch_L177, f_M_stretch_L184, f_M_stretch_L197, f_M_stretch_L209, f_M_stretch_L216, f_M_stretch_L234, e48, e51, e52, e53, e54, e55, e57, e58, e59, e64, e65, e66, e67, e68, e69, e70, e72, e73, e74, l59, l64, lk, eq_false n_p0, eq_false n_p1, eq_false n_p2, eq_false n_p3, cl0, cl1, cl2, cl3, nq0, nq1, nq2, nq3, i10, i00, ↓reduceIte, Option.bind_some]
theorem q_st_51 (th : Int32) (pf of : Nat → Int32) (sz bg : Int32) : ∃ P r, f_M_stretch th pf of sz bg (nI 51) = some (r, th, P, of, sz, bg) ∧ f_C_longOf 51 (pf 0) (pf 1) (pf 2) (pf 3) = some r :=
  q_stj (j := 51) (L := 18) (by omega) (by omega) rfl (q_str_51 th pf of sz bg) (fun _ => (slv_c (j := 51) (t := 0) (c := 0) (by decide +kernel) _ _ _).symm) (fun _ => (slv_c (j := 51) (t := 1) (c := 0) (by decide +kernel) _ _ _).symm) (fun hz => absurd hz (show ¬ zh 18 2 = true by decide +kernel)) (fun _ => (if_neg (show ¬ zh 51 3 = true by decide +kernel)).symm)
theorem q_str_52 (th : Int32) (pf of : Nat → Int32) (sz bg : Int32) : f_M_stretch th pf of sz bg (nI 52) = (f_K_compose 18 ((upd pf 1 (pf 0)) 0) ((upd pf 1 (pf 0)) 1) ((upd pf 1 (pf 0)) 2) ((upd pf 1 (pf 0)) 3)).bind fun r => some (r, th, (upd pf 1 (pf 0)), of, sz, bg) := by
  have e48 : (nI 52 = 48) = False := eq_false (by decide)
  have e51 : (nI 52 = 51) = False := eq_false (by decide)
  have e52 : (nI 52 = 52) = True := eq_true rfl
  have e53 : (nI 52 = 53) = False := eq_false (by decide)
  have e54 : (nI 52 = 54) = False := eq_false (by decide)
  have e55 : (nI 52 = 55) = False := eq_false (by decide)
  have e57 : (nI 52 = 57) = False := eq_false (by decide)
  have e58 : (nI 52 = 58) = False := eq_false (by decide)
  have e59 : (nI 52 = 59) = False := eq_false (by decide)
  have e64 : (nI 52 = 64) = False := eq_false (by decide)
  have e65 : (nI 52 = 65) = False := eq_false (by decide)
  have e66 : (nI 52 = 66) = False := eq_false (by decide)
  have e67 : (nI 52 = 67) = False := eq_false (by decide)
  have e68 : (nI 52 = 68) = False := eq_false (by decide)
  have e69 : (nI 52 = 69) = False := eq_false (by decide)
  have e70 : (nI 52 = 70) = False := eq_false (by decide)
  have e72 : (nI 52 = 72) = False := eq_false (by decide)
  have e73 : (nI 52 = 73) = False := eq_false (by decide)
  have e74 : (nI 52 = 74) = False := eq_false (by decide)
  have l59 : (nI 52 ≤ 59) = True := eq_true (by decide)
  have l64 : (nI 52 < 64) = True := eq_true (by decide)
  have lk : f_M_longKind (nI 52) = some (nI 18) := by decide +kernel
  rw [← q_put_eq (i := 18) (by omega) th (upd pf 1 (pf 0)) of sz bg]
  simp only [f_M_stretch, f_M_stretch_L43, f_M_stretch_L55, f_M_stretch_L60, f_M_stretch_L85, f_M_stretch_L90, f_M_stretch_L103, f_M_stretch_L115, f_M_stretch_L133, f_M_stretch_L140, f_M_stretch_L158, f_M_stretch_L165, f_M_stretch_L177, f_M_stretch_L184, f_M_stretch_L197, f_M_stretch_L209, f_M_stretch_L216, f_M_stretch_L234, e48, e51, e52, e53, e54, e55, e57, e58, e59, e64, e65, e66, e67, e68, e69, e70, e72, e73, e74, l59, l64, lk, eq_false n_p0, eq_false n_p1, eq_false n_p2, eq_false n_p3, cl0, cl1, cl2, cl3, nq0, nq1, nq2, nq3, i10, i00, ↓reduceIte, Option.bind_some]
theorem q_st_52 (th : Int32) (pf of : Nat → Int32) (sz bg : Int32) : ∃ P r, f_M_stretch th pf of sz bg (nI 52) = some (r, th, P, of, sz, bg) ∧ f_C_longOf 52 (pf 0) (pf 1) (pf 2) (pf 3) = some r :=
  q_stj (j := 52) (L := 18) (by omega) (by omega) rfl (q_str_52 th pf of sz bg) (fun _ => (slv_d (j := 52) (t := 0) (by decide +kernel) _ _ _).symm) (fun _ => (slv_d (j := 52) (t := 1) (by decide +kernel) _ _ _).symm) (fun hz => absurd hz (show ¬ zh 18 2 = true by decide +kernel)) (fun _ => (if_pos (show zh 52 3 = true by decide +kernel)).symm)
theorem q_str_53 (th : Int32) (pf of : Nat → Int32) (sz bg : Int32) : f_M_stretch th pf of sz bg (nI 53) = (f_K_compose 2 ((upd pf 0 1) 0) ((upd pf 0 1) 1) ((upd pf 0 1) 2) ((upd pf 0 1) 3)).bind fun r => some (r, th, (upd pf 0 1), of, sz, bg) := by
  have e48 : (nI 53 = 48) = False := eq_false (by decide)
  have e51 : (nI 53 = 51) = False := eq_false (by decide)
  have e52 : (nI 53 = 52) = False := eq_false (by decide)
  have e53 : (nI 53 = 53) = True := eq_true rfl
  have e54 : (nI 53 = 54) = False := eq_false (by decide)
  have e55 : (nI 53 = 55) = False := eq_false (by decide)
  have e57 : (nI 53 = 57) = False := eq_false (by decide)
  have e58 : (nI 53 = 58) = False := eq_false (by decide)
  have e59 : (nI 53 = 59) = False := eq_false (by decide)
  have e64 : (nI 53 = 64) = False := eq_false (by decide)
  have e65 : (nI 53 = 65) = False := eq_false (by decide)
  have e66 : (nI 53 = 66) = False := eq_false (by decide)
  have e67 : (nI 53 = 67) = False := eq_false (by decide)
  have e68 : (nI 53 = 68) = False := eq_false (by decide)
  have e69 : (nI 53 = 69) = False := eq_false (by decide)
  have e70 : (nI 53 = 70) = False := eq_false (by decide)
  have e72 : (nI 53 = 72) = False := eq_false (by decide)
  have e73 : (nI 53 = 73) = False := eq_false (by decide)
  have e74 : (nI 53 = 74) = False := eq_false (by decide)
  have l59 : (nI 53 ≤ 59) = True := eq_true (by decide)
  have l64 : (nI 53 < 64) = True := eq_true (by decide)
  have lk : f_M_longKind (nI 53) = some (nI 2) := by decide +kernel
  rw [← q_put_eq (i := 2) (by omega) th (upd pf 0 1) of sz bg]
  simp only [f_M_stretch, f_M_stretch_L43, f_M_stretch_L55, f_M_stretch_L60, f_M_stretch_L85, f_M_stretch_L90, f_M_stretch_L103, f_M_stretch_L115, f_M_stretch_L133, f_M_stretch_L140, f_M_stretch_L158, f_M_stretch_L165, f_M_stretch_L177, f_M_stretch_L184, f_M_stretch_L197, f_M_stretch_L209, f_M_stretch_L216, f_M_stretch_L234, e48, e51, e52, e53, e54, e55, e57, e58, e59, e64, e65, e66, e67, e68, e69, e70, e72, e73, e74, l59, l64, lk, eq_false n_p0, eq_false n_p1, eq_false n_p2, eq_false n_p3, cl0, cl1, cl2, cl3, nq0, nq1, nq2, nq3, i10, i00, ↓reduceIte, Option.bind_some]
theorem q_st_53 (th : Int32) (pf of : Nat → Int32) (sz bg : Int32) : ∃ P r, f_M_stretch th pf of sz bg (nI 53) = some (r, th, P, of, sz, bg) ∧ f_C_longOf 53 (pf 0) (pf 1) (pf 2) (pf 3) = some r :=
  q_stj (j := 53) (L := 2) (by omega) (by omega) rfl (q_str_53 th pf of sz bg) (fun _ => (slv_c (j := 53) (t := 0) (c := 1) (by decide +kernel) _ _ _).symm) (fun hz => absurd hz (show ¬ zh 2 1 = true by decide +kernel)) (fun hz => absurd hz (show ¬ zh 2 2 = true by decide +kernel)) (fun _ => (if_pos (show zh 53 3 = true by decide +kernel)).symm)
theorem q_str_54 (th : Int32) (pf of : Nat → Int32) (sz bg : Int32) : f_M_stretch th pf of sz bg (nI 54) = (f_K_compose 18 ((upd pf 1 0) 0) ((upd pf 1 0) 1) ((upd pf 1 0) 2) ((upd pf 1 0) 3)).bind fun r => some (r, th, (upd pf 1 0), of, sz, bg) := by
  have e48 : (nI 54 = 48) = False := eq_false (by decide)
  have e51 : (nI 54 = 51) = False := eq_false (by decide)
  have e52 : (nI 54 = 52) = False := eq_false (by decide)
  have e53 : (nI 54 = 53) = False := eq_false (by decide)
  have e54 : (nI 54 = 54) = True := eq_true rfl
  have e55 : (nI 54 = 55) = False := eq_false (by decide)
  have e57 : (nI 54 = 57) = False := eq_false (by decide)
  have e58 : (nI 54 = 58) = False := eq_false (by decide)
  have e59 : (nI 54 = 59) = False := eq_false (by decide)
  have e64 : (nI 54 = 64) = False := eq_false (by decide)
  have e65 : (nI 54 = 65) = False := eq_false (by decide)
  have e66 : (nI 54 = 66) = False := eq_false (by decide)
  have e67 : (nI 54 = 67) = False := eq_false (by decide)
  have e68 : (nI 54 = 68) = False := eq_false (by decide)
  have e69 : (nI 54 = 69) = False := eq_false (by decide)
  have e70 : (nI 54 = 70) = False := eq_false (by decide)
  have e72 : (nI 54 = 72) = False := eq_false (by decide)
  have e73 : (nI 54 = 73) = False := eq_false (by decide)
  have e74 : (nI 54 = 74) = False := eq_false (by decide)
  have l59 : (nI 54 ≤ 59) = True := eq_true (by decide)
  have l64 : (nI 54 < 64) = True := eq_true (by decide)
  have lk : f_M_longKind (nI 54) = some (nI 18) := by decide +kernel
  rw [← q_put_eq (i := 18) (by omega) th (upd pf 1 0) of sz bg]
  simp only [f_M_stretch, f_M_stretch_L43, f_M_stretch_L55, f_M_stretch_L60, f_M_stretch_L85, f_M_stretch_L90, f_M_stretch_L103, f_M_stretch_L115, f_M_stretch_L133, f_M_stretch_L140, f_M_stretch_L158, f_M_stretch_L165, f_M_stretch_L177, f_M_stretch_L184, f_M_stretch_L197, f_M_stretch_L209, f_M_stretch_L216, f_M_stretch_L234, e48, e51, e52, e53, e54, e55, e57, e58, e59, e64, e65, e66, e67, e68, e69, e70, e72, e73, e74, l59, l64, lk, eq_false n_p0, eq_false n_p1, eq_false n_p2, eq_false n_p3, cl0, cl1, cl2, cl3, nq0, nq1, nq2, nq3, i10, i00, ↓reduceIte, Option.bind_some]
theorem q_st_54 (th : Int32) (pf of : Nat → Int32) (sz bg : Int32) : ∃ P r, f_M_stretch th pf of sz bg (nI 54) = some (r, th, P, of, sz, bg) ∧ f_C_longOf 54 (pf 0) (pf 1) (pf 2) (pf 3) = some r :=
  q_stj (j := 54) (L := 18) (by omega) (by omega) rfl (q_str_54 th pf of sz bg) (fun _ => (slv_d (j := 54) (t := 0) (by decide +kernel) _ _ _).symm) (fun _ => (slv_c (j := 54) (t := 1) (c := 0) (by decide +kernel) _ _ _).symm) (fun hz => absurd hz (show ¬ zh 18 2 = true by decide +kernel)) (fun _ => (if_pos (show zh 54 3 = true by decide +kernel)).symm)
theorem q_str_55 (th : Int32) (pf of : Nat → Int32) (sz bg : Int32) : f_M_stretch th pf of sz bg (nI 55) = (f_K_compose 18 ((upd (upd pf 1 2) 0 2) 0) ((upd (upd pf 1 2) 0 2) 1) ((upd (upd pf 1 2) 0 2) 2) ((upd (upd pf 1 2) 0 2) 3)).bind fun r => some (r, th, (upd (upd pf 1 2) 0 2), of, sz, bg) := by
  have e48 : (nI 55 = 48) = False := eq_false (by decide)
  have e51 : (nI 55 = 51) = False := eq_false (by decide)
  have e52 : (nI 55 = 52) = False := eq_false (by decide)
  have e53 : (nI 55 = 53) = False := eq_false (by decide)
  have e54 : (nI 55 = 54) = False := eq_false (by decide)
  have e55 : (nI 55 = 55) = True := eq_true rfl
  have e57 : (nI 55 = 57) = False := eq_false (by decide)
  have e58 : (nI 55 = 58) = False := eq_false (by decide)
  have e59 : (nI 55 = 59) = False := eq_false (by decide)
  have e64 : (nI 55 = 64) = False := eq_false (by decide)
  have e65 : (nI 55 = 65) = False := eq_false (by decide)
  have e66 : (nI 55 = 66) = False := eq_false (by decide)
  have e67 : (nI 55 = 67) = False := eq_false (by decide)
  have e68 : (nI 55 = 68) = False := eq_false (by decide)
  have e69 : (nI 55 = 69) = False := eq_false (by decide)
  have e70 : (nI 55 = 70) = False := eq_false (by decide)
  have e72 : (nI 55 = 72) = False := eq_false (by decide)
  have e73 : (nI 55 = 73) = False := eq_false (by decide)
  have e74 : (nI 55 = 74) = False := eq_false (by decide)
  have l59 : (nI 55 ≤ 59) = True := eq_true (by decide)
  have l64 : (nI 55 < 64) = True := eq_true (by decide)
  have lk : f_M_longKind (nI 55) = some (nI 18) := by decide +kernel
  rw [← q_put_eq (i := 18) (by omega) th (upd (upd pf 1 2) 0 2) of sz bg]
  simp only [f_M_stretch, f_M_stretch_L43, f_M_stretch_L55, f_M_stretch_L60, f_M_stretch_L85, f_M_stretch_L90, f_M_stretch_L103, f_M_stretch_L115, f_M_stretch_L133, f_M_stretch_L140, f_M_stretch_L158, f_M_stretch_L165, f_M_stretch_L177, f_M_stretch_L184, f_M_stretch_L197, f_M_stretch_L209, f_M_stretch_L216, f_M_stretch_L234, e48, e51, e52, e53, e54, e55, e57, e58, e59, e64, e65, e66, e67, e68, e69, e70, e72, e73, e74, l59, l64, lk, eq_false n_p0, eq_false n_p1, eq_false n_p2, eq_false n_p3, cl0, cl1, cl2, cl3, nq0, nq1, nq2, nq3, i10, i00, ↓reduceIte, Option.bind_some]
theorem q_st_55 (th : Int32) (pf of : Nat → Int32) (sz bg : Int32) : ∃ P r, f_M_stretch th pf of sz bg (nI 55) = some (r, th, P, of, sz, bg) ∧ f_C_longOf 55 (pf 0) (pf 1) (pf 2) (pf 3) = some r :=
  q_stj (j := 55) (L := 18) (by omega) (by omega) rfl (q_str_55 th pf of sz bg) (fun _ => (slv_c (j := 55) (t := 0) (c := 2) (by decide +kernel) _ _ _).symm) (fun _ => (slv_c (j := 55) (t := 1) (c := 2) (by decide +kernel) _ _ _).symm) (fun hz => absurd hz (show ¬ zh 18 2 = true by decide +kernel)) (fun _ => (if_pos (show zh 55 3 = true by decide +kernel)).symm)
theorem q_str_56 (th : Int32) (pf of : Nat → Int32) (sz bg : Int32) : f_M_stretch th pf of sz bg (nI 56) = (f_K_compose 0 (pf 0) (pf 1) (pf 2) (pf 3)).bind fun r => some (r, th, pf, of, sz, bg) := by
  have e48 : (nI 56 = 48) = False := eq_false (by decide)
  have e51 : (nI 56 = 51) = False := eq_false (by decide)
  have e52 : (nI 56 = 52) = False := eq_false (by decide)
  have e53 : (nI 56 = 53) = False := eq_false (by decide)
  have e54 : (nI 56 = 54) = False := eq_false (by decide)
  have e55 : (nI 56 = 55) = False := eq_false (by decide)
  have e57 : (nI 56 = 57) = False := eq_false (by decide)
  have e58 : (nI 56 = 58) = False := eq_false (by decide)
  have e59 : (nI 56 = 59) = False := eq_false (by decide)
  have e64 : (nI 56 = 64) = False := eq_false (by decide)
  have e65 : (nI 56 = 65) = False := eq_false (by decide)
  have e66 : (nI 56 = 66) = False := eq_false (by decide)
  have e67 : (nI 56 = 67) = False := eq_false (by decide)
  have e68 : (nI 56 = 68) = False := eq_false (by decide)
  have e69 : (nI 56 = 69) = False := eq_false (by decide)
  have e70 : (nI 56 = 70) = False := eq_false (by decide)
  have e72 : (nI 56 = 72) = False := eq_false (by decide)
  have e73 : (nI 56 = 73) = False := eq_false (by decide)
  have e74 : (nI 56 = 74) = False := eq_false (by decide)
  have l59 : (nI 56 ≤ 59) = True := eq_true (by decide)
  have l64 : (nI 56 < 64) = True := eq_true (by decide)
  have lk : f_M_longKind (nI 56) = some (nI 0) := by decide +kernel
  rw [← q_put_eq (i := 0) (by omega) th pf of sz bg]
  simp only [f_M_stretch, f_M_stretch_L43, f_M_stretch_L55, f_M_stretch_L60, f_M_stretch_L85, f_M_stretch_L90, f_M_stretch_L103, f_M_stretch_L115, f_M_stretch_L133, f_M_stretch_L140, f_M_stretch_L158, f_M_stretch_L165, f_M_stretch_L177, f_M_stretch_L184, f_M_stretch_L197, f_M_stretch_L209, f_M_stretch_L216, f_M_stretch_L234, e48, e51, e52, e53, e54, e55, e57, e58, e59, e64, e65, e66, e67, e68, e69, e70, e72, e73, e74, l59, l64, lk, eq_false n_p0, eq_false n_p1, eq_false n_p2, eq_false n_p3, cl0, cl1, cl2, cl3, nq0, nq1, nq2, nq3, i10, i00, ↓reduceIte, Option.bind_some]
theorem q_st_56 (th : Int32) (pf of : Nat → Int32) (sz bg : Int32) : ∃ P r, f_M_stretch th pf of sz bg (nI 56) = some (r, th, P, of, sz, bg) ∧ f_C_longOf 56 (pf 0) (pf 1) (pf 2) (pf 3) = some r :=
  q_stj (j := 56) (L := 0) (by omega) (by omega) rfl (q_str_56 th pf of sz bg) (fun _ => (slv_d (j := 56) (t := 0) (by decide +kernel) _ _ _).symm) (fun hz => absurd hz (show ¬ zh 0 1 = true by decide +kernel)) (fun hz => absurd hz (show ¬ zh 0 2 = true by decide +kernel)) (fun _ => (if_pos (show zh 56 3 = true by decide +kernel)).symm)
theorem q_str_57 (th : Int32) (pf of : Nat → Int32) (sz bg : Int32) : f_M_stretch th pf of sz bg (nI 57) = (f_K_compose 25 ((upd pf 1 (pf 0)) 0) ((upd pf 1 (pf 0)) 1) ((upd pf 1 (pf 0)) 2) ((upd pf 1 (pf 0)) 3)).bind fun r => some (r, th, (upd pf 1 (pf 0)), of, sz, bg) := by
  have e48 : (nI 57 = 48) = False := eq_false (by decide)
  have e51 : (nI 57 = 51) = False := eq_false (by decide)
  have e52 : (nI 57 = 52) = False := eq_false (by decide)
  have e53 : (nI 57 = 53) = False := eq_false (by decide)
  have e54 : (nI 57 = 54) = False := eq_false (by decide)
  have e55 : (nI 57 = 55) = False := eq_false (by decide)
  have e57 : (nI 57 = 57) = True := eq_true rfl
  have e58 : (nI 57 = 58) = False := eq_false (by decide)
  have e59 : (nI 57 = 59) = False := eq_false (by decide)
  have e64 : (nI 57 = 64) = False := eq_false (by decide)
  have e65 : (nI 57 = 65) = False := eq_false (by decide)
  have e66 : (nI 57 = 66) = False := eq_false (by decide)
  have e67 : (nI 57 = 67) = False := eq_false (by decide)
  have e68 : (nI 57 = 68) = False := eq_false (by decide)
  have e69 : (nI 57 = 69) = False := eq_false (by decide)
  have e70 : (nI 57 = 70) = False := eq_false (by decide)
  have e72 : (nI 57 = 72) = False := eq_false (by decide)
  have e73 : (nI 57 = 73) = False := eq_false (by decide)
  have e74 : (nI 57 = 74) = False := eq_false (by decide)
  have l59 : (nI 57 ≤ 59) = True := eq_true (by decide)
  have l64 : (nI 57 < 64) = True := eq_true (by decide)
  have lk : f_M_longKind (nI 57) = some (nI 25) := by decide +kernel
  rw [← q_put_eq (i := 25) (by omega) th (upd pf 1 (pf 0)) of sz bg]
  simp only [f_M_stretch, f_M_stretch_L43, f_M_stretch_L55, f_M_stretch_L60, f_M_stretch_L85, f_M_stretch_L90, f_M_stretch_L103, f_M_stretch_L115, f_M_stretch_L133, f_M_stretch_L140, f_M_stretch_L158, f_M_stretch_L165, f_M_stretch_L177, f_M_stretch_L184, f_M_stretch_L197, f_M_stretch_L209, f_M_stretch_L216, f_M_stretch_L234, e48, e51, e52, e53, e54, e55, e57, e58, e59, e64, e65, e66, e67, e68, e69, e70, e72, e73, e74, l59, l64, lk, eq_false n_p0, eq_false n_p1, eq_false n_p2, eq_false n_p3, cl0, cl1, cl2, cl3, nq0, nq1, nq2, nq3, i10, i00, ↓reduceIte, Option.bind_some]
theorem q_st_57 (th : Int32) (pf of : Nat → Int32) (sz bg : Int32) : ∃ P r, f_M_stretch th pf of sz bg (nI 57) = some (r, th, P, of, sz, bg) ∧ f_C_longOf 57 (pf 0) (pf 1) (pf 2) (pf 3) = some r :=
  q_stj (j := 57) (L := 25) (by omega) (by omega) rfl (q_str_57 th pf of sz bg) (fun _ => (slv_d (j := 57) (t := 0) (by decide +kernel) _ _ _).symm) (fun _ => (slv_d (j := 57) (t := 1) (by decide +kernel) _ _ _).symm) (fun hz => absurd hz (show ¬ zh 25 2 = true by decide +kernel)) (fun _ => (if_pos (show zh 57 3 = true by decide +kernel)).symm)
theorem q_str_58 (th : Int32) (pf of : Nat → Int32) (sz bg : Int32) : f_M_stretch th pf of sz bg (nI 58) = (f_K_compose 26 ((upd pf 1 (pf 0)) 0) ((upd pf 1 (pf 0)) 1) ((upd pf 1 (pf 0)) 2) ((upd pf 1 (pf 0)) 3)).bind fun r => some (r, th, (upd pf 1 (pf 0)), of, sz, bg) := by
  have e48 : (nI 58 = 48) = False := eq_false (by decide)
  have e51 : (nI 58 = 51) = False := eq_false (by decide)
  have e52 : (nI 58 = 52) = False := eq_false (by decide)
  have e53 : (nI 58 = 53) = False := eq_false (by decide)
  have e54 : (nI 58 = 54) = False := eq_false (by decide)
  have e55 : (nI 58 = 55) = False := eq_false (by decide)
  have e57 : (nI 58 = 57) = False := eq_false (by decide)
  have e58 : (nI 58 = 58) = True := eq_true rfl
  have e59 : (nI 58 = 59) = False := eq_false (by decide)
  have e64 : (nI 58 = 64) = False := eq_false (by decide)
  have e65 : (nI 58 = 65) = False := eq_false (by decide)
  have e66 : (nI 58 = 66) = False := eq_false (by decide)
  have e67 : (nI 58 = 67) = False := eq_false (by decide)
  have e68 : (nI 58 = 68) = False := eq_false (by decide)
  have e69 : (nI 58 = 69) = False := eq_false (by decide)
  have e70 : (nI 58 = 70) = False := eq_false (by decide)
  have e72 : (nI 58 = 72) = False := eq_false (by decide)
  have e73 : (nI 58 = 73) = False := eq_false (by decide)
  have e74 : (nI 58 = 74) = False := eq_false (by decide)
  have l59 : (nI 58 ≤ 59) = True := eq_true (by decide)
  have l64 : (nI 58 < 64) = True := eq_true (by decide)
  have lk : f_M_longKind (nI 58) = some (nI 26) := by decide +kernel
  rw [← q_put_eq (i := 26) (by omega) th (upd pf 1 (pf 0)) of sz bg]
  simp only [f_M_stretch, f_M_stretch_L43, f_M_stretch_L55, f_M_stretch_L60, f_M_stretch_L85, f_M_stretch_L90, f_M_stretch_L103, f_M_stretch_L115, f_M_stretch_L133, f_M_stretch_L140, f_M_stretch_L158, f_M_stretch_L165, f_M_stretch_L177, f_M_stretch_L184, f_M_stretch_L197, f_M_stretch_L209, f_M_stretch_L216, f_M_stretch_L234, e48, e51, e52, e53, e54, e55, e57, e58, e59, e64, e65, e66, e67, e68, e69, e70, e72, e73, e74, l59, l64, lk, eq_false n_p0, eq_false n_p1, eq_false n_p2, eq_false n_p3, cl0, cl1, cl2, cl3, nq0, nq1, nq2, nq3, i10, i00, ↓reduceIte, Option.bind_some]
theorem q_st_58 (th : Int32) (pf of : Nat → Int32) (sz bg : Int32) : ∃ P r, f_M_stretch th pf of sz bg (nI 58) = some (r, th, P, of, sz, bg) ∧ f_C_longOf 58 (pf 0) (pf 1) (pf 2) (pf 3) = some r :=
  q_stj (j := 58) (L := 26) (by omega) (by omega) rfl (q_str_58 th pf of sz bg) (fun _ => (slv_d (j := 58) (t := 0) (by decide +kernel) _ _ _).symm) (fun _ => (slv_d (j := 58) (t := 1) (by decide +kernel) _ _ _).symm) (fun hz => absurd hz (show ¬ zh 26 2 = true by decide +kernel)) (fun _ => (if_pos (show zh 58 3 = true by decide +kernel)).symm)
theorem q_str_59 (th : Int32) (pf of : Nat → Int32) (sz bg : Int32) : f_M_stretch th pf of sz bg (nI 59) = (f_K_compose 23 ((upd pf 1 (pf 0)) 0) ((upd pf 1 (pf 0)) 1) ((upd pf 1 (pf 0)) 2) ((upd pf 1 (pf 0)) 3)).bind fun r => some (r, th, (upd pf 1 (pf 0)), of, sz, bg) := by
  have e48 : (nI 59 = 48) = False := eq_false (by decide)
  have e51 : (nI 59 = 51) = False := eq_false (by decide)
  have e52 : (nI 59 = 52) = False := eq_false (by decide)
  have e53 : (nI 59 = 53) = False := eq_false (by decide)
  have e54 : (nI 59 = 54) = False := eq_false (by decide)
  have e55 : (nI 59 = 55) = False := eq_false (by decide)
  have e57 : (nI 59 = 57) = False := eq_false (by decide)
  have e58 : (nI 59 = 58) = False := eq_false (by decide)
  have e59 : (nI 59 = 59) = True := eq_true rfl
  have e64 : (nI 59 = 64) = False := eq_false (by decide)
  have e65 : (nI 59 = 65) = False := eq_false (by decide)
  have e66 : (nI 59 = 66) = False := eq_false (by decide)
  have e67 : (nI 59 = 67) = False := eq_false (by decide)
  have e68 : (nI 59 = 68) = False := eq_false (by decide)
  have e69 : (nI 59 = 69) = False := eq_false (by decide)
  have e70 : (nI 59 = 70) = False := eq_false (by decide)
  have e72 : (nI 59 = 72) = False := eq_false (by decide)
  have e73 : (nI 59 = 73) = False := eq_false (by decide)
  have e74 : (nI 59 = 74) = False := eq_false (by decide)
  have l59 : (nI 59 ≤ 59) = True := eq_true (by decide)
  have l64 : (nI 59 < 64) = True := eq_true (by decide)
  have lk : f_M_longKind (nI 59) = some (nI 23) := by decide +kernel
  rw [← q_put_eq (i := 23) (by omega) th (upd pf 1 (pf 0)) of sz bg]
  simp only [f_M_stretch, f_M_stretch_L43, f_M_stretch_L55, f_M_stretch_L60, f_M_stretch_L85, f_M_stretch_L90, f_M_stretch_L103, f_M_stretch_L115, f_M_stretch_L133, f_M_stretch_L140, f_M_stretch_L158, f_M_stretch_L165, f_M_stretch_L177, f_M_stretch_L184, f_M_stretch_L197, f_M_stretch_L209, f_M_stretch_L216, f_M_stretch_L234, e48, e51, e52, e53, e54, e55, e57, e58, e59, e64, e65, e66, e67, e68, e69, e70, e72, e73, e74, l59, l64, lk, eq_false n_p0, eq_false n_p1, eq_false n_p2, eq_false n_p3, cl0, cl1, cl2, cl3, nq0, nq1, nq2, nq3, i10, i00, ↓reduceIte, Option.bind_some]
theorem q_st_59 (th : Int32) (pf of : Nat → Int32) (sz bg : Int32) : ∃ P r, f_M_stretch th pf of sz bg (nI 59) = some (r, th, P, of, sz, bg) ∧ f_C_longOf 59 (pf 0) (pf 1) (pf 2) (pf 3) = some r :=
  q_stj (j := 59) (L := 23) (by omega) (by omega) rfl (q_str_59 th pf of sz bg) (fun _ => (slv_d (j := 59) (t := 0) (by decide +kernel) _ _ _).symm) (fun _ => (slv_d (j := 59) (t := 1) (by decide +kernel) _ _ _).symm) (fun hz => absurd hz (show ¬ zh 23 2 = true by decide +kernel)) (fun _ => (if_pos (show zh 59 3 = true by decide +kernel)).symm)
theorem q_str_60 (th : Int32) (pf of : Nat → Int32) (sz bg : Int32) : f_M_stretch th pf of sz bg (nI 60) = (f_K_compose 28 ((upd pf 1 (pf 0)) 0) ((upd pf 1 (pf 0)) 1) ((upd pf 1 (pf 0)) 2) ((upd pf 1 (pf 0)) 3)).bind fun r => some (r, th, (upd pf 1 (pf 0)), of, sz, bg) := by
  have e48 : (nI 60 = 48) = False := eq_false (by decide)
  have e51 : (nI 60 = 51) = False := eq_false (by decide)
  have e52 : (nI 60 = 52) = False := eq_false (by decide)
  have e53 : (nI 60 = 53) = False := eq_false (by decide)
  have e54 : (nI 60 = 54) = False := eq_false (by decide)
  have e55 : (nI 60 = 55) = False := eq_false (by decide)
  have e57 : (nI 60 = 57) = False := eq_false (by decide)
  have e58 : (nI 60 = 58) = False := eq_false (by decide)
  have e59 : (nI 60 = 59) = False := eq_false (by decide)
  have e64 : (nI 60 = 64) = False := eq_false (by decide)
  have e65 : (nI 60 = 65) = False := eq_false (by decide)
  have e66 : (nI 60 = 66) = False := eq_false (by decide)
  have e67 : (nI 60 = 67) = False := eq_false (by decide)
  have e68 : (nI 60 = 68) = False := eq_false (by decide)
  have e69 : (nI 60 = 69) = False := eq_false (by decide)
  have e70 : (nI 60 = 70) = False := eq_false (by decide)
  have e72 : (nI 60 = 72) = False := eq_false (by decide)
  have e73 : (nI 60 = 73) = False := eq_false (by decide)
  have e74 : (nI 60 = 74) = False := eq_false (by decide)
  have l59 : (nI 60 ≤ 59) = False := eq_false (by decide)
  have l64 : (nI 60 < 64) = True := eq_true (by decide)
  have lk : f_M_longKind (nI 60) = some (nI 28) := by decide +kernel
  rw [← q_put_eq (i := 28) (by omega) th (upd pf 1 (pf 0)) of sz bg]
  simp only [f_M_stretch, f_M_stretch_L43, f_M_stretch_L55, f_M_stretch_L60, f_M_stretch_L85, f_M_stretch_L90, f_M_stretch_L103, f_M_stretch_L115, f_M_stretch_L133, f_M_stretch_L140, f_M_stretch_L158, f_M_stretch_L165, f_M_stretch_L177, f_M_stretch_L184, f_M_stretch_L197, f_M_stretch_L209, f_M_stretch_L216, f_M_stretch_L234, e48, e51, e52, e53, e54, e55, e57, e58, e59, e64, e65, e66, e67, e68, e69, e70, e72, e73, e74, l59, l64, lk, eq_false n_p0, eq_false n_p1, eq_false n_p2, eq_false n_p3, cl0, cl1, cl2, cl3, nq0, nq1, nq2, nq3, i10, i00, ↓reduceIte, Option.bind_some]
theorem q_st_60 (th : Int32) (pf of : Nat → Int32) (sz bg : Int32) : ∃ P r, f_M_stretch th pf of sz bg (nI 60) = some (r, th, P, of, sz, bg) ∧ f_C_longOf 60 (pf 0) (pf 1) (pf 2) (pf 3) = some r :=
  q_stj (j := 60) (L := 28) (by omega) (by omega) rfl (q_str_60 th pf of sz bg) (fun _ => (slv_d (j := 60) (t := 0) (by decide +kernel) _ _ _).symm) (fun _ => (slv_d (j := 60) (t := 1) (by decide +kernel) _ _ _).symm) (fun _ => (slv_b (j := 60) (t := 2) (by decide +kernel) _ _ _).symm) (fun hz => absurd hz (show ¬ zh 28 3 = true by decide +kernel))
theorem q_str_61 (th : Int32) (pf of : Nat → Int32) (sz bg : Int32) : f_M_stretch th pf of sz bg (nI 61) = (f_K_compose 32 ((upd pf 1 (pf 0)) 0) ((upd pf 1 (pf 0)) 1) ((upd pf 1 (pf 0)) 2) ((upd pf 1 (pf 0)) 3)).bind fun r => some (r, th, (upd pf 1 (pf 0)), of, sz, bg) := by
  have e48 : (nI 61 = 48) = False := eq_false (by decide)
  have e51 : (nI 61 = 51) = False := eq_false (by decide)
  have e52 : (nI 61 = 52) = False := eq_false (by decide)
  have e53 : (nI 61 = 53) = False := eq_false (by decide)
  have e54 : (nI 61 = 54) = False := eq_false (by decide)
  have e55 : (nI 61 = 55) = False := eq_false (by decide)
  have e57 : (nI 61 = 57) = False := eq_false (by decide)
  have e58 : (nI 61 = 58) = False := eq_false (by decide)
  have e59 : (nI 61 = 59) = False := eq_false (by decide)
  have e64 : (nI 61 = 64) = False := eq_false (by decide)
  have e65 : (nI 61 = 65) = False := eq_false (by decide)
  have e66 : (nI 61 = 66) = False := eq_false (by decide)
  have e67 : (nI 61 = 67) = False := eq_false (by decide)
  have e68 : (nI 61 = 68) = False := eq_false (by decide)
  have e69 : (nI 61 = 69) = False := eq_false (by decide)
  have e70 : (nI 61 = 70) = False := eq_false (by decide)
  have e72 : (nI 61 = 72) = False := eq_false (by decide)
  have e73 : (nI 61 = 73) = False := eq_false (by decide)
  have e74 : (nI 61 = 74) = False := eq_false (by decide)
  have l59 : (nI 61 ≤ 59) = False := eq_false (by decide)
  have l64 : (nI 61 < 64) = True := eq_true (by decide)
  have lk : f_M_longKind (nI 61) = some (nI 32) := by decide +kernel
  rw [← q_put_eq (i := 32) (by omega) th (upd pf 1 (pf 0)) of sz bg]
  simp only [f_M_stretch, f_M_stretch_L43, f_M_stretch_L55, f_M_stretch_L60, f_M_stretch_L85, f_M_stretch_L90, f_M_stretch_L103, f_M_stretch_L115, f_M_stretch_L133, f_M_stretch_L140, f_M_stretch_L158, f_M_stretch_L165, f_M_stretch_L177, f_M_stretch_L184, f_M_stretch_L197, f_M_stretch_L209, f_M_stretch_L216, f_M_stretch_L234, e48, e51, e52, e53, e54, e55, e57, e58, e59, e64, e65, e66, e67, e68, e69, e70, e72, e73, e74, l59, l64, lk, eq_false n_p0, eq_false n_p1, eq_false n_p2, eq_false n_p3, cl0, cl1, cl2, cl3, nq0, nq1, nq2, nq3, i10, i00, ↓reduceIte, Option.bind_some]
theorem q_st_61 (th : Int32) (pf of : Nat → Int32) (sz bg : Int32) : ∃ P r, f_M_stretch th pf of sz bg (nI 61) = some (r, th, P, of, sz, bg) ∧ f_C_longOf 61 (pf 0) (pf 1) (pf 2) (pf 3) = some r :=
  q_stj (j := 61) (L := 32) (by omega) (by omega) rfl (q_str_61 th pf of sz bg) (fun _ => (slv_d (j := 61) (t := 0) (by decide +kernel) _ _ _).symm) (fun _ => (slv_d (j := 61) (t := 1) (by decide +kernel) _ _ _).symm) (fun _ => (slv_b (j := 61) (t := 2) (by decide +kernel) _ _ _).symm) (fun hz => absurd hz (show ¬ zh 32 3 = true by decide +kernel))
theorem q_str_62 (th : Int32) (pf of : Nat → Int32) (sz bg : Int32) : f_M_stretch th pf of sz bg (nI 62) = (f_K_compose 35 ((upd pf 1 (pf 0)) 0) ((upd pf 1 (pf 0)) 1) ((upd pf 1 (pf 0)) 2) ((upd pf 1 (pf 0)) 3)).bind fun r => some (r, th, (upd pf 1 (pf 0)), of, sz, bg) := by
  have e48 : (nI 62 = 48) = False := eq_false (by decide)
  have e51 : (nI 62 = 51) = False := eq_false (by decide)
  have e52 : (nI 62 = 52) = False := eq_false (by decide)
  have e53 : (nI 62 = 53) = False := eq_false (by decide)
  have e54 : (nI 62 = 54) = False := eq_false (by decide)
  have e55 : (nI 62 = 55) = False := eq_false (by decide)
  have e57 : (nI 62 = 57) = False := eq_false (by decide)
  have e58 : (nI 62 = 58) = False := eq_false (by decide)
  have e59 : (nI 62 = 59) = False := eq_false (by decide)
  have e64 : (nI 62 = 64) = False := eq_false (by decide)
  have e65 : (nI 62 = 65) = False := eq_false (by decide)
  have e66 : (nI 62 = 66) = False := eq_false (by decide)
  have e67 : (nI 62 = 67) = False := eq_false (by decide)
  have e68 : (nI 62 = 68) = False := eq_false (by decide)
  have e69 : (nI 62 = 69) = False := eq_false (by decide)
  have e70 : (nI 62 = 70) = False := eq_false (by decide)
  have e72 : (nI 62 = 72) = False := eq_false (by decide)
  have e73 : (nI 62 = 73) = False := eq_false (by decide)
  have e74 : (nI 62 = 74) = False := eq_false (by decide)
  have l59 : (nI 62 ≤ 59) = False := eq_false (by decide)
  have l64 : (nI 62 < 64) = True := eq_true (by decide)
  have lk : f_M_longKind (nI 62) = some (nI 35) := by decide +kernel
  rw [← q_put_eq (i := 35) (by omega) th (upd pf 1 (pf 0)) of sz bg]
  simp only [f_M_stretch, f_M_stretch_L43, f_M_stretch_L55, f_M_stretch_L60, f_M_stretch_L85, f_M_stretch_L90, f_M_stretch_L103, f_M_stretch_L115, f_M_stretch_L133, f_M_stretch_L140, f_M_stretch_L158, f_M_stretch_L165, f_M_stretch_L177, f_M_stretch_L184, f_M_stretch_L197, f_M_stretch_L209, f_M_stretch_L216, f_M_stretch_L234, e48, e51, e52, e53, e54, e55, e57, e58, e59, e64, e65, e66, e67, e68, e69, e70, e72, e73, e74, l59, l64, lk, eq_false n_p0, eq_false n_p1, eq_false n_p2, eq_false n_p3, cl0, cl1, cl2, cl3, nq0, nq1, nq2, nq3, i10, i00, ↓reduceIte, Option.bind_some]
theorem q_st_62 (th : Int32) (pf of : Nat → Int32) (sz bg : Int32) : ∃ P r, f_M_stretch th pf of sz bg (nI 62) = some (r, th, P, of, sz, bg) ∧ f_C_longOf 62 (pf 0) (pf 1) (pf 2) (pf 3) = some r :=
  q_stj (j := 62) (L := 35) (by omega) (by omega) rfl (q_str_62 th pf of sz bg) (fun _ => (slv_d (j := 62) (t := 0) (by decide +kernel) _ _ _).symm) (fun _ => (slv_d (j := 62) (t := 1) (by decide +kernel) _ _ _).symm) (fun _ => (slv_b (j := 62) (t := 2) (by decide +kernel) _ _ _).symm) (fun hz => absurd hz (show ¬ zh 35 3 = true by decide +kernel))
theorem q_str_63 (th : Int32) (pf of : Nat → Int32) (sz bg : Int32) : f_M_stretch th pf of sz bg (nI 63) = (f_K_compose 36 ((upd pf 1 (pf 0)) 0) ((upd pf 1 (pf 0)) 1) ((upd pf 1 (pf 0)) 2) ((upd pf 1 (pf 0)) 3)).bind fun r => some (r, th, (upd pf 1 (pf 0)), of, sz, bg) := by
  have e48 : (nI 63 = 48) = False := eq_false (by decide)
  have e51 : (nI 63 = 51) = False := eq_false (by decide)
  have e52 : (nI 63 = 52) = False := eq_false (by decide)
  have e53 : (nI 63 = 53) = False := eq_false (by decide)
  have e54 : (nI 63 = 54) = False := eq_false (by decide)
  have e55 : (nI 63 = 55) = False := eq_false (by decide)
  have e57 : (nI 63 = 57) = False := eq_false (by decide)
  have e58 : (nI 63 = 58) = False := eq_false (by decide)
  have e59 : (nI 63 = 59) = False := eq_false (by decide)
  have e64 : (nI 63 = 64) = False := eq_false (by decide)
  have e65 : (nI 63 = 65) = False := eq_false (by decide)
  have e66 : (nI 63 = 66) = False := eq_false (by decide)
  have e67 : (nI 63 = 67) = False := eq_false (by decide)
  have e68 : (nI 63 = 68) = False := eq_false (by decide)
  have e69 : (nI 63 = 69) = False := eq_false (by decide)
  have e70 : (nI 63 = 70) = False := eq_false (by decide)
  have e72 : (nI 63 = 72) = False := eq_false (by decide)
  have e73 : (nI 63 = 73) = False := eq_false (by decide)
  have e74 : (nI 63 = 74) = False := eq_false (by decide)
  have l59 : (nI 63 ≤ 59) = False := eq_false (by decide)
  have l64 : (nI 63 < 64) = True := eq_true (by decide)
  have lk : f_M_longKind (nI 63) = some (nI 36) := by decide +kernel
  rw [← q_put_eq (i := 36) (by omega) th (upd pf 1 (pf 0)) of sz bg]
  simp only [f_M_stretch, f_M_stretch_L43, f_M_stretch_L55, f_M_stretch_L60, f_M_stretch_L85, f_M_stretch_L90, f_M_stretch_L103, f_M_stretch_L115, f_M_stretch_L133, f_M_stretch_L140, f_M_stretch_L158, f_M_stretch_L165, f_M_stretch_L177, f_M_stretch_L184, f_M_stretch_L197, f_M_stretch_L209, f_M_stretch_L216, f_M_stretch_L234, e48, e51, e52, e53, e54, e55, e57, e58, e59, e64, e65, e66, e67, e68, e69, e70, e72, e73, e74, l59, l64, lk, eq_false n_p0, eq_false n_p1, eq_false n_p2, eq_false n_p3, cl0, cl1, cl2, cl3, nq0, nq1, nq2, nq3, i10, i00, ↓reduceIte, Option.bind_some]
theorem q_st_63 (th : Int32) (pf of : Nat → Int32) (sz bg : Int32) : ∃ P r, f_M_stretch th pf of sz bg (nI 63) = some (r, th, P, of, sz, bg) ∧ f_C_longOf 63 (pf 0) (pf 1) (pf 2) (pf 3) = some r :=
  q_stj (j := 63) (L := 36) (by omega) (by omega) rfl (q_str_63 th pf of sz bg) (fun _ => (slv_d (j := 63) (t := 0) (by decide +kernel) _ _ _).symm) (fun _ => (slv_d (j := 63) (t := 1) (by decide +kernel) _ _ _).symm) (fun _ => (slv_b (j := 63) (t := 2) (by decide +kernel) _ _ _).symm) (fun hz => absurd hz (show ¬ zh 36 3 = true by decide +kernel))
theorem q_str_64 (th : Int32) (pf of : Nat → Int32) (sz bg : Int32) : f_M_stretch th pf of sz bg (nI 64) = (f_K_compose 2 ((upd pf 0 0) 0) ((upd pf 0 0) 1) ((upd pf 0 0) 2) ((upd pf 0 0) 3)).bind fun r => some (r, th, (upd pf 0 0), of, sz, bg) := by
  have e48 : (nI 64 = 48) = False := eq_false (by decide)
  have e51 : (nI 64 = 51) = False := eq_false (by decide)
  have e52 : (nI 64 = 52) = False := eq_false (by decide)
  have e53 : (nI 64 = 53) = False := eq_false (by decide)
  have e54 : (nI 64 = 54) = False := eq_false (by decide)
  have e55 : (nI 64 = 55) = False := eq_false (by decide)
  have e57 : (nI 64 = 57) = False := eq_false (by decide)
  have e58 : (nI 64 = 58) = False := eq_false (by decide)
  have e59 : (nI 64 = 59) = False := eq_false (by decide)
  have e64 : (nI 64 = 64) = True := eq_true rfl
  have e65 : (nI 64 = 65) = False := eq_false (by decide)
  have e66 : (nI 64 = 66) = False := eq_false (by decide)
  have e67 : (nI 64 = 67) = False := eq_false (by decide)
  have e68 : (nI 64 = 68) = False := eq_false (by decide)
  have e69 : (nI 64 = 69) = False := eq_false (by decide)
  have e70 : (nI 64 = 70) = False := eq_false (by decide)
  have e72 : (nI 64 = 72) = False := eq_false (by decide)
  have e73 : (nI 64 = 73) = False := eq_false (by decide)
  have e74 : (nI 64 = 74) = False := eq_false (by decide)
  have l59 : (nI 64 ≤ 59) = False := eq_false (by decide)
  have l64 : (nI 64 < 64) = False := eq_false (by decide)
  have lk : f_M_longKind (nI 64) = some (nI 2) := by decide +kernel
  rw [← q_put_eq (i := 2) (by omega) th (upd pf 0 0) of sz bg]
  simp only [f_M_stretch, f_M_stretch_L43, f_M_stretch_L55, f_M_stretch_L60, f_M_stretch_L85, f_M_stretch_L90, f_M_stretch_L103, f_M_stretch_L115, f_M_stretch_L133, f_M_stretch_L140, f_M_stretch_L158, f_M_stretch_L165, f_M_stretch_L177, f_M_stretch_L184, f_M_stretch_L197, f_M_stretch_L209, f_M_stretch_L216, f_M_stretch_L234, e48, e51, e52, e53, e54, e55, e57, e58, e59, e64, e65, e66, e67, e68, e69, e70, e72, e73, e74, l59, l64, lk, eq_false n_p0, eq_false n_p1, eq_false n_p2, eq_false n_p3, cl0, cl1, cl2, cl3, nq0, nq1, nq2, nq3, i10, i00, ↓reduceIte, Option.bind_some]
theorem q_st_64 (th : Int32) (pf of : Nat → Int32) (sz bg : Int32) : ∃ P r, f_M_stretch th pf of sz bg (nI 64) = some (r, th, P, of, sz, bg) ∧ f_C_longOf 64 (pf 0) (pf 1) (pf 2) (pf 3) = some r :=
  q_stj (j := 64) (L := 2) (by omega) (by omega) rfl (q_str_64 th pf of sz bg) (fun _ => (slv_c (j := 64) (t := 0) (c := 0) (by decide +kernel) _ _ _).symm) (fun hz => absurd hz (show ¬ zh 2 1 = true by decide +kernel)) (fun hz => absurd hz (show ¬ zh 2 2 = true by decide +kernel)) (fun _ => (if_pos (show zh 64 3 = true by decide +kernel)).symm)
theorem q_str_65 (th : Int32) (pf of : Nat → Int32) (sz bg : Int32) : f_M_stretch th pf of sz bg (nI 65) = (f_K_compose 4 ((upd pf 2 0) 0) ((upd pf 2 0) 1) ((upd pf 2 0) 2) ((upd pf 2 0) 3)).bind fun r => some (r, th, (upd pf 2 0), of, sz, bg) := by
  have e48 : (nI 65 = 48) = False := eq_false (by decide)
  have e51 : (nI 65 = 51) = False := eq_false (by decide)
  have e52 : (nI 65 = 52) = False := eq_false (by decide)
  have e53 : (nI 65 = 53) = False := eq_false (by decide)
  have e54 : (nI 65 = 54) = False := eq_false (by decide)
  have e55 : (nI 65 = 55) = False := eq_false (by decide)
  have e57 : (nI 65 = 57) = False := eq_false (by decide)
  have e58 : (nI 65 = 58) = False := eq_false (by decide)
  have e59 : (nI 65 = 59) = False := eq_false (by decide)
  have e64 : (nI 65 = 64) = False := eq_false (by decide)
  have e65 : (nI 65 = 65) = True := eq_true rfl
  have e66 : (nI 65 = 66) = False := eq_false (by decide)
  have e67 : (nI 65 = 67) = False := eq_false (by decide)
  have e68 : (nI 65 = 68) = False := eq_false (by decide)
  have e69 : (nI 65 = 69) = False := eq_false (by decide)
  have e70 : (nI 65 = 70) = False := eq_false (by decide)
  have e72 : (nI 65 = 72) = False := eq_false (by decide)
  have e73 : (nI 65 = 73) = False := eq_false (by decide)
  have e74 : (nI 65 = 74) = False := eq_false (by decide)
  have l59 : (nI 65 ≤ 59) = False := eq_false (by decide)
  have l64 : (nI 65 < 64) = False := eq_false (by decide)
  have lk : f_M_longKind (nI 65) = some (nI 4) := by decide +kernel
  rw [← q_put_eq (i := 4) (by omega) th (upd pf 2 0) of sz bg]
  simp only [f_M_stretch, f_M_stretch_L43, f_M_stretch_L55, f_M_stretch_L60, f_M_stretch_L85, f_M_stretch_L90, f_M_stretch_L103, f_M_stretch_L115, f_M_stretch_L133, f_M_stretch_L140, f_M_stretch_L158, f_M_stretch_L165, f_M_stretch_L177, f_M_stretch_L184, f_M_stretch_L197, f_M_stretch_L209, f_M_stretch_L216, f_M_stretch_L234, e48, e51, e52, e53, e54, e55, e57, e58, e59, e64, e65, e66, e67, e68, e69, e70, e72, e73, e74, l59, l64, lk, eq_false n_p0, eq_false n_p1, eq_false n_p2, eq_false n_p3, cl0, cl1, cl2, cl3, nq0, nq1, nq2, nq3, i10, i00, ↓reduceIte, Option.bind_some]
theorem q_st_65 (th : Int32) (pf of : Nat → Int32) (sz bg : Int32) : ∃ P r, f_M_stretch th pf of sz bg (nI 65) = some (r, th, P, of, sz, bg) ∧ f_C_longOf 65 (pf 0) (pf 1) (pf 2) (pf 3) = some r :=
  q_stj (j := 65) (L := 4) (by omega) (by omega) rfl (q_str_65 th pf of sz bg) (fun hz => absurd hz (show ¬ zh 4 0 = true by decide +kernel)) (fun _ => (slv_a (j := 65) (t := 1) (by decide +kernel) _ _ _).symm) (fun _ => (slv_c (j := 65) (t := 2) (c := 0) (by decide +kernel) _ _ _).symm) (fun _ => (if_pos (show zh 65 3 = true by decide +kernel)).symm)
theorem q_str_66 (th : Int32) (pf of : Nat → Int32) (sz bg : Int32) : f_M_stretch th pf of sz bg (nI 66) = (f_K_compose 5 ((upd pf 2 0) 0) ((upd pf 2 0) 1) ((upd pf 2 0) 2) ((upd pf 2 0) 3)).bind fun r => some (r, th, (upd pf 2 0), of, sz, bg) := by
  have e48 : (nI 66 = 48) = False := eq_false (by decide)
  have e51 : (nI 66 = 51) = False := eq_false (by decide)
  have e52 : (nI 66 = 52) = False := eq_false (by decide)
  have e53 : (nI 66 = 53) = False := eq_false (by decide)
  have e54 : (nI 66 = 54) = False := eq_false (by decide)
  have e55 : (nI 66 = 55) = False := eq_false (by decide)
  have e57 : (nI 66 = 57) = False := eq_false (by decide)
  have e58 : (nI 66 = 58) = False := eq_false (by decide)
  have e59 : (nI 66 = 59) = False := eq_false (by decide)
  have e64 : (nI 66 = 64) = False := eq_false (by decide)
  have e65 : (nI 66 = 65) = False := eq_false (by decide)
  have e66 : (nI 66 = 66) = True := eq_true rfl
  have e67 : (nI 66 = 67) = False := eq_false (by decide)
  have e68 : (nI 66 = 68) = False := eq_false (by decide)
  have e69 : (nI 66 = 69) = False := eq_false (by decide)
  have e70 : (nI 66 = 70) = False := eq_false (by decide)
  have e72 : (nI 66 = 72) = False := eq_false (by decide)
  have e73 : (nI 66 = 73) = False := eq_false (by decide)
  have e74 : (nI 66 = 74) = False := eq_false (by decide)
  have l59 : (nI 66 ≤ 59) = False := eq_false (by decide)
  have l64 : (nI 66 < 64) = False := eq_false (by decide)
  have lk : f_M_longKind (nI 66) = some (nI 5) := by decide +kernel
  rw [← q_put_eq (i := 5) (by omega) th (upd pf 2 0) of sz bg]
  simp only [f_M_stretch, f_M_stretch_L43, f_M_stretch_L55, f_M_stretch_L60, f_M_stretch_L85, f_M_stretch_L90, f_M_stretch_L103, f_M_stretch_L115, f_M_stretch_L133, f_M_stretch_L140, f_M_stretch_L158, f_M_stretch_L165, f_M_stretch_L177, f_M_stretch_L184, f_M_stretch_L197, f_M_stretch_L209, f_M_stretch_L216, f_M_stretch_L234, e48, e51, e52, e53, e54, e55, e57, e58, e59, e64, e65, e66, e67, e68, e69, e70, e72, e73, e74, l59, l64, lk, eq_false n_p0, eq_false n_p1, eq_false n_p2, eq_false n_p3, cl0, cl1, cl2, cl3, nq0, nq1, nq2, nq3, i10, i00, ↓reduceIte, Option.bind_some]
theorem q_st_66 (th : Int32) (pf of : Nat → Int32) (sz bg : Int32) : ∃ P r, f_M_stretch th pf of sz bg (nI 66) = some (r, th, P, of, sz, bg) ∧ f_C_longOf 66 (pf 0) (pf 1) (pf 2) (pf 3) = some r :=
  q_stj (j := 66) (L := 5) (by omega) (by omega) rfl (q_str_66 th pf of sz bg) (fun hz => absurd hz (show ¬ zh 5 0 = true by decide +kernel)) (fun _ => (slv_a (j := 66) (t := 1) (by decide +kernel) _ _ _).symm) (fun _ => (slv_c (j := 66) (t := 2) (c := 0) (by decide +kernel) _ _ _).symm) (fun _ => (if_pos (show zh 66 3 = true by decide +kernel)).symm)
theorem q_str_67 (th : Int32) (pf of : Nat → Int32) (sz bg : Int32) : f_M_stretch th pf of sz bg (nI 67) = (f_K_compose 24 ((upd pf 1 (pf 0)) 0) ((upd pf 1 (pf 0)) 1) ((upd pf 1 (pf 0)) 2) ((upd pf 1 (pf 0)) 3)).bind fun r => some (r, th, (upd pf 1 (pf 0)), of, sz, bg) := by
  have e48 : (nI 67 = 48) = False := eq_false (by decide)
  have e51 : (nI 67 = 51) = False := eq_false (by decide)
  have e52 : (nI 67 = 52) = False := eq_false (by decide)
  have e53 : (nI 67 = 53) = False := eq_false (by decide)
  have e54 : (nI 67 = 54) = False := eq_false (by decide)
  have e55 : (nI 67 = 55) = False := eq_false (by decide)
  have e57 : (nI 67 = 57) = False := eq_false (by decide)
  have e58 : (nI 67 = 58) = False := eq_false (by decide)
  have e59 : (nI 67 = 59) = False := eq_false (by decide)
  have e64 : (nI 67 = 64) = False := eq_false (by decide)
  have e65 : (nI 67 = 65) = False := eq_false (by decide)
  have e66 : (nI 67 = 66) = False := eq_false (by decide)
  have e67 : (nI 67 = 67) = True := eq_true rfl
  have e68 : (nI 67 = 68) = False := eq_false (by decide)
  have e69 : (nI 67 = 69) = False := eq_false (by decide)
  have e70 : (nI 67 = 70) = False := eq_false (by decide)
  have e72 : (nI 67 = 72) = False := eq_false (by decide)
  have e73 : (nI 67 = 73) = False := eq_false (by decide)
  have e74 : (nI 67 = 74) = False := eq_false (by decide)
  have l59 : (nI 67 ≤ 59) = False := eq_false (by decide)
  have l64 : (nI 67 < 64) = False := eq_false (by decide)
  have lk : f_M_longKind (nI 67) = some (nI 24) := by decide +kernel
  rw [← q_put_eq (i := 24) (by omega) th (upd pf 1 (pf 0)) of sz bg]
  simp only [f_M_stretch, f_M_stretch_L43, f_M_stretch_L55, f_M_stretch_L60, f_M_stretch_L85, f_M_stretch_L90, f_M_stretch_L103, f_M_stretch_L115, f_M_stretch_L133, f_M_stretch_L140, f_M_stretch_L158, f_M_stretch_L165, f_M_stretch_L177, f_M_stretch_L184, f_M_stretch_L197, f_M_stretch_L209, f_M_stretch_L216, f_M_stretch_L234, e48, e51, e52, e53, e54, e55, e57, e58, e59, e64, e65, e66, e67, e68, e69, e70, e72, e73, e74, l59, l64, lk, eq_false n_p0, eq_false n_p1, eq_false n_p2, eq_false n_p3, cl0, cl1, cl2, cl3, nq0, nq1, nq2, nq3, i10, i00, ↓reduceIte, Option.bind_some]
theorem q_st_67 (th : Int32) (pf of : Nat → Int32) (sz bg : Int32) : ∃ P r, f_M_stretch th pf of sz bg (nI 67) = some (r, th, P, of, sz, bg) ∧ f_C_longOf 67 (pf 0) (pf 1) (pf 2) (pf 3) = some r :=
  q_stj (j := 67) (L := 24) (by omega) (by omega) rfl (q_str_67 th pf of sz bg) (fun _ => (slv_d (j := 67) (t := 0) (by decide +kernel) _ _ _).symm) (fun _ => (slv_d (j := 67) (t := 1) (by decide +kernel) _ _ _).symm) (fun hz => absurd hz (show ¬ zh 24 2 = true by decide +kernel)) (fun _ => (if_pos (show zh 67 3 = true by decide +kernel)).symm)
theorem q_str_68 (th : Int32) (pf of : Nat → Int32) (sz bg : Int32) : f_M_stretch th pf of sz bg (nI 68) = (f_K_compose 12 ((upd pf 1 2) 0) ((upd pf 1 2) 1) ((upd pf 1 2) 2) ((upd pf 1 2) 3)).bind fun r => some (r, th, (upd pf 1 2), of, sz, bg) := by
  have e48 : (nI 68 = 48) = False := eq_false (by decide)
  have e51 : (nI 68 = 51) = False := eq_false (by decide)
  have e52 : (nI 68 = 52) = False := eq_false (by decide)
  have e53 : (nI 68 = 53) = False := eq_false (by decide)
  have e54 : (nI 68 = 54) = False := eq_false (by decide)
  have e55 : (nI 68 = 55) = False := eq_false (by decide)
  have e57 : (nI 68 = 57) = False := eq_false (by decide)
  have e58 : (nI 68 = 58) = False := eq_false (by decide)
  have e59 : (nI 68 = 59) = False := eq_false (by decide)
  have e64 : (nI 68 = 64) = False := eq_false (by decide)
  have e65 : (nI 68 = 65) = False := eq_false (by decide)
  have e66 : (nI 68 = 66) = False := eq_false (by decide)
  have e67 : (nI 68 = 67) = False := eq_false (by decide)
  have e68 : (nI 68 = 68) = True := eq_true rfl
  have e69 : (nI 68 = 69) = False := eq_false (by decide)
  have e70 : (nI 68 = 70) = False := eq_false (by decide)
  have e72 : (nI 68 = 72) = False := eq_false (by decide)
  have e73 : (nI 68 = 73) = False := eq_false (by decide)
  have e74 : (nI 68 = 74) = False := eq_false (by decide)
  have l59 : (nI 68 ≤ 59) = False := eq_false (by decide)
  have l64 : (nI 68 < 64) = False := eq_false (by decide)
  have lk : f_M_longKind (nI 68) = some (nI 12) := by decide +kernel
  rw [← q_put_eq (i := 12) (by omega) th (upd pf 1 2) of sz bg]
  simp only [f_M_stretch, f_M_stretch_L43, f_M_stretch_L55, f_M_stretch_L60, f_M_stretch_L85, f_M_stretch_L90, f_M_stretch_L103, f_M_stretch_L115, f_M_stretch_L133, f_M_stretch_L140, f_M_stretch_L158, f_M_stretch_L165, f_M_stretch_L177, f_M_stretch_L184, f_M_stretch_L197, f_M_stretch_L209, f_M_stretch_L216, f_M_stretch_L234, e48, e51, e52, e53, e54, e55, e57, e58, e59, e64, e65, e66, e67, e68, e69, e70, e72, e73, e74, l59, l64, lk, eq_false n_p0, eq_false n_p1, eq_false n_p2, eq_false n_p3, cl0, cl1, cl2, cl3, nq0, nq1, nq2, nq3, i10, i00, ↓reduceIte, Option.bind_some]
theorem q_st_68 (th : Int32) (pf of : Nat → Int32) (sz bg : Int32) : ∃ P r, f_M_stretch th pf of sz bg (nI 68) = some (r, th, P, of, sz, bg) ∧ f_C_longOf 68 (pf 0) (pf 1) (pf 2) (pf 3) = some r :=
  q_stj (j := 68) (L := 12) (by omega) (by omega) rfl (q_str_68 th pf of sz bg) (fun _ => (slv_d (j := 68) (t := 0) (by decide +kernel) _ _ _).symm) (fun _ => (slv_c (j := 68) (t := 1) (c := 2) (by decide +kernel) _ _ _).symm) (fun hz => absurd hz (show ¬ zh 12 2 = true by decide +kernel)) (fun _ => (if_pos (show zh 68 3 = true by decide +kernel)).symm)
theorem q_str_69 (th : Int32) (pf of : Nat → Int32) (sz bg : Int32) : f_M_stretch th pf of sz bg (nI 69) = (f_K_compose 3 ((upd (upd pf 0 0) 3 0) 0) ((upd (upd pf 0 0) 3 0) 1) ((upd (upd pf 0 0) 3 0) 2) ((upd (upd pf 0 0) 3 0) 3)).bind fun r => some (r, th, (upd (upd pf 0 0) 3 0), of, sz, bg) := by
  have e48 : (nI 69 = 48) = False := eq_false (by decide)
  have e51 : (nI 69 = 51) = False := eq_false (by decide)
  have e52 : (nI 69 = 52) = False := eq_false (by decide)
  have e53 : (nI 69 = 53) = False := eq_false (by decide)
  have e54 : (nI 69 = 54) = False := eq_false (by decide)
  have e55 : (nI 69 = 55) = False := eq_false (by decide)
  have e57 : (nI 69 = 57) = False := eq_false (by decide)
  have e58 : (nI 69 = 58) = False := eq_false (by decide)
  have e59 : (nI 69 = 59) = False := eq_false (by decide)
  have e64 : (nI 69 = 64) = False := eq_false (by decide)
  have e65 : (nI 69 = 65) = False := eq_false (by decide)
  have e66 : (nI 69 = 66) = False := eq_false (by decide)
  have e67 : (nI 69 = 67) = False := eq_false (by decide)
  have e68 : (nI 69 = 68) = False := eq_false (by decide)
  have e69 : (nI 69 = 69) = True := eq_true rfl
  have e70 : (nI 69 = 70) = False := eq_false (by decide)
  have e72 : (nI 69 = 72) = False := eq_false (by decide)
  have e73 : (nI 69 = 73) = False := eq_false (by decide)
  have e74 : (nI 69 = 74) = False := eq_false (by decide)
  have l59 : (nI 69 ≤ 59) = False := eq_false (by decide)
  have l64 : (nI 69 < 64) = False := eq_false (by decide)
  have lk : f_M_longKind (nI 69) = some (nI 3) := by decide +kernel
  rw [← q_put_eq (i := 3) (by omega) th (upd (upd pf 0 0) 3 0) of sz bg]
  simp only [f_M_stretch, f_M_stretch_L43, f_M_stretch_L55, f_M_stretch_L60, f_M_stretch_L85, f_M_stretch_L90, f_M_stretch_L103, f_M_stretch_L115, f_M_stretch_L133, f_M_stretch_L140, f_M_stretch_L158, f_M_stretch_L165, f_M_stretch_L177, f_M_stretch_L184, f_M_stretch_L197, f_M_stretch_L209, f_M_stretch_L216, f_M_stretch_L234, e48, e51, e52, e53, e54, e55, e57, e58, e59, e64, e65, e66, e67, e68, e69, e70, e72, e73, e74, l59, l64, lk, eq_false n_p0, eq_false n_p1, eq_false n_p2, eq_false n_p3, cl0, cl1, cl2, cl3, nq0, nq1, nq2, nq3, i10, i00, ↓reduceIte, Option.bind_some]
theorem q_st_69 (th : Int32) (pf of : Nat → Int32) (sz bg : Int32) : ∃ P r, f_M_stretch th pf of sz bg (nI 69) = some (r, th, P, of, sz, bg) ∧ f_C_longOf 69 (pf 0) (pf 1) (pf 2) (pf 3) = some r :=
  q_stj (j := 69) (L := 3) (by omega) (by omega) rfl (q_str_69 th pf of sz bg) (fun _ => (slv_c (j := 69) (t := 0) (c := 0) (by decide +kernel) _ _ _).symm) (fun _ => (slv_a (j := 69) (t := 1) (by decide +kernel) _ _ _).symm) (fun hz => absurd hz (show ¬ zh 3 2 = true by decide +kernel)) (fun _ => (if_neg (show ¬ zh 69 3 = true by decide +kernel)).symm)
theorem q_str_70 (th : Int32) (pf of : Nat → Int32) (sz bg : Int32) : f_M_stretch th pf of sz bg (nI 70) = (f_K_compose 27 ((upd pf 1 0) 0) ((upd pf 1 0) 1) ((upd pf 1 0) 2) ((upd pf 1 0) 3)).bind fun r => some (r, th, (upd pf 1 0), of, sz, bg) := by
  have e48 : (nI 70 = 48) = False := eq_false (by decide)
  have e51 : (nI 70 = 51) = False := eq_false (by decide)
  have e52 : (nI 70 = 52) = False := eq_false (by decide)
  have e53 : (nI 70 = 53) = False := eq_false (by decide)
  have e54 : (nI 70 = 54) = False := eq_false (by decide)
  have e55 : (nI 70 = 55) = False := eq_false (by decide)
  have e57 : (nI 70 = 57) = False := eq_false (by decide)
  have e58 : (nI 70 = 58) = False := eq_false (by decide)
  have e59 : (nI 70 = 59) = False := eq_false (by decide)
  have e64 : (nI 70 = 64) = False := eq_false (by decide)
  have e65 : (nI 70 = 65) = False := eq_false (by decide)
  have e66 : (nI 70 = 66) = False := eq_false (by decide)
  have e67 : (nI 70 = 67) = False := eq_false (by decide)
  have e68 : (nI 70 = 68) = False := eq_false (by decide)
  have e69 : (nI 70 = 69) = False := eq_false (by decide)
  have e70 : (nI 70 = 70) = True := eq_true rfl
  have e72 : (nI 70 = 72) = False := eq_false (by decide)
  have e73 : (nI 70 = 73) = False := eq_false (by decide)
  have e74 : (nI 70 = 74) = False := eq_false (by decide)
  have l59 : (nI 70 ≤ 59) = False := eq_false (by decide)
  have l64 : (nI 70 < 64) = False := eq_false (by decide)
  have lk : f_M_longKind (nI 70) = some (nI 27) := by decide +kernel
  rw [← q_put_eq (i := 27) (by omega) th (upd pf 1 0) of sz bg]
  simp only [f_M_stretch, f_M_stretch_L43, f_M_stretch_L55, f_M_stretch_L60, f_M_stretch_L85, f_M_stretch_L90, f_M_stretch_L103, f_M_stretch_L115, f_M_stretch_L133, f_M_stretch_L140, f_M_stretch_L158, f_M_stretch_L165, f_M_stretch_L177, f_M_stretch_L184, f_M_stretch_L197, f_M_stretch_L209, f_M_stretch_L216, f_M_stretch_L234, e48, e51, e52, e53, e54, e55, e57, e58, e59, e64, e65, e66, e67, e68, e69, e70, e72, e73, e74, l59, l64, lk, eq_false n_p0, eq_false n_p1, eq_false n_p2, eq_false n_p3, cl0, cl1, cl2, cl3, nq0, nq1, nq2, nq3, i10, i00, ↓reduceIte, Option.bind_some]
theorem q_st_70 (th : Int32) (pf of : Nat → Int32) (sz bg : Int32) : ∃ P r, f_M_stretch th pf of sz bg (nI 70) = some (r, th, P, of, sz, bg) ∧ f_C_longOf 70 (pf 0) (pf 1) (pf 2) (pf 3) = some r :=
  q_stj (j := 70) (L := 27) (by omega) (by omega) rfl (q_str_70 th pf of sz bg) (fun _ => (slv_d (j := 70) (t := 0) (by decide +kernel) _ _ _).symm) (fun _ => (slv_c (j := 70) (t := 1) (c := 0) (by decide +kernel) _ _ _).symm) (fun _ => (slv_b (j := 70) (t := 2) (by decide +kernel) _ _ _).symm) (fun hz => absurd hz (show ¬ zh 27 3 = true by decide +kernel))
theorem q_str_71 (th : Int32) (pf of : Nat → Int32) (sz bg : Int32) : f_M_stretch th pf of sz bg (nI 71) = (f_K_compose 47 (pf 0) (pf 1) (pf 2) (pf 3)).bind fun r => some (r, th, pf, of, sz, bg) := by
  have e48 : (nI 71 = 48) = False := eq_false (by decide)
  have e51 : (nI 71 = 51) = False := eq_false (by decide)
  have e52 : (nI 71 = 52) = False := eq_false (by decide)
  have e53 : (nI 71 = 53) = False := eq_false (by decide)
  have e54 : (nI 71 = 54) = False := eq_false (by decide)
  have e55 : (nI 71 = 55) = False := eq_false (by decide)
  have e57 : (nI 71 = 57) = False := eq_false (by decide)
  have e58 : (nI 71 = 58) = False := eq_false (by decide)
  have e59 : (nI 71 = 59) = False := eq_false (by decide)
  have e64 : (nI 71 = 64) = False := eq_false (by decide)
  have e65 : (nI 71 = 65) = False := eq_false (by decide)
  have e66 : (nI 71 = 66) = False := eq_false (by decide)
  have e67 : (nI 71 = 67) = False := eq_false (by decide)
  have e68 : (nI 71 = 68) = False := eq_false (by decide)
  have e69 : (nI 71 = 69) = False := eq_false (by decide)
  have e70 : (nI 71 = 70) = False := eq_false (by decide)
  have e72 : (nI 71 = 72) = False := eq_false (by decide)
  have e73 : (nI 71 = 73) = False := eq_false (by decide)
  have e74 : (nI 71 = 74) = False := eq_false (by decide)
  have l59 : (nI 71 ≤ 59) = False := eq_false (by decide)
  have l64 : (nI 71 < 64) = False := eq_false (by decide)
  have lk : f_M_longKind (nI 71) = some (nI 47) := by decide +kernel
  rw [← q_put_eq (i := 47) (by omega) th pf of sz bg]
  simp only [f_M_stretch, f_M_stretch_L43, f_M_stretch_L55, f_M_stretch_L60, f_M_stretch_L85, f_M_stretch_L90, f_M_stretch_L103, f_M_stretch_L115, f_M_stretch_L133, f_M_stretch_L140, f_M_stretch_L158, f_M_stretch_L165, f_M_stretch_L177, f_M_stretch_L184, f_M_stretch_L197, f_M_stretch_L209, f_M_stretch_L216, f_M_stretch_L234, e48, e51, e52, e53, e54, e55, e57, e58, e59, e64, e65, e66, e67, e68, e69, e70, e72, e73, e74, l59, l64, lk, eq_false n_p0, eq_false n_p1, eq_false n_p2, eq_false n_p3, cl0, cl1, cl2, cl3, nq0, nq1, nq2, nq3, i10, i00, ↓reduceIte, Option.bind_some]
theorem q_st_71 (th : Int32) (pf of : Nat → Int32) (sz bg : Int32) : ∃ P r, f_M_stretch th pf of sz bg (nI 71) = some (r, th, P, of, sz, bg) ∧ f_C_longOf 71 (pf 0) (pf 1) (pf 2) (pf 3) = some r :=
  q_stj (j := 71) (L := 47) (by omega) (by omega) rfl (q_str_71 th pf of sz bg) (fun hz => absurd hz (show ¬ zh 47 0 = true by decide +kernel)) (fun hz => absurd hz (show ¬ zh 47 1 = true by decide +kernel)) (fun hz => absurd hz (show ¬ zh 47 2 = true by decide +kernel)) (fun hz => absurd hz (show ¬ zh 47 3 = true by decide +kernel))
theorem q_str_72 (th : Int32) (pf of : Nat → Int32) (sz bg : Int32) : f_M_stretch th pf of sz bg (nI 72) = (f_K_compose 3 ((upd (upd pf 0 1) 3 0) 0) ((upd (upd pf 0 1) 3 0) 1) ((upd (upd pf 0 1) 3 0) 2) ((upd (upd pf 0 1) 3 0) 3)).bind fun r => some (r, th, (upd (upd pf 0 1) 3 0), of, sz, bg) := by
  have e48 : (nI 72 = 48) = False := eq_false (by decide)
  have e51 : (nI 72 = 51) = False := eq_false (by decide)
  have e52 : (nI 72 = 52) = False := eq_false (by decide)
  have e53 : (nI 72 = 53) = False := eq_false (by decide)
  have e54 : (nI 72 = 54) = False := eq_false (by decide)
  have e55 : (nI 72 = 55) = False := eq_false (by decide)
  have e57 : (nI 72 = 57) = False := eq_false (by decide)
  have e58 : (nI 72 = 58) = False := eq_false (by decide)
  have e59 : (nI 72 = 59) = False := eq_false (by decide)
  have e64 : (nI 72 = 64) = False := eq_false (by decide)
  have e65 : (nI 72 = 65) = False := eq_false (by decide)
  have e66 : (nI 72 = 66) = False := eq_false (by decide)
  have e67 : (nI 72 = 67) = False := eq_false (by decide)
  have e68 : (nI 72 = 68) = False := eq_false (by decide)
  have e69 : (nI 72 = 69) = False := eq_false (by decide)
  have e70 : (nI 72 = 70) = False := eq_false (by decide)
  have e72 : (nI 72 = 72) = True := eq_true rfl
  have e73 : (nI 72 = 73) = False := eq_false (by decide)
  have e74 : (nI 72 = 74) = False := eq_false (by decide)
  have l59 : (nI 72 ≤ 59) = False := eq_false (by decide)
  have l64 : (nI 72 < 64) = False := eq_false (by decide)
  have lk : f_M_longKind (nI 72) = some (nI 3) := by decide +kernel
  rw [← q_put_eq (i := 3) (by omega) th (upd (upd pf 0 1) 3 0) of sz bg]
  simp only [f_M_stretch, f_M_stretch_L43, f_M_stretch_L55, f_M_stretch_L60, f_M_stretch_L85, f_M_stretch_L90, f_M_stretch_L103, f_M_stretch_L115, f_M_stretch_L133, f_M_stretch_L140, f_M_stretch_L158, f_M_stretch_L165, f_M_stretch_L177, f_M_stretch_L184, f_M_stretch_L197, f_M_stretch_L209, f_M_stretch_L216, f_M_stretch_L234, e48, e51, e52, e53, e54, e55, e57, e58, e59, e64, e65, e66, e67, e68, e69, e70, e72, e73, e74, l59, l64, lk, eq_false n_p0, eq_false n_p1, eq_false n_p2, eq_false n_p3, cl0, cl1, cl2, cl3, nq0, nq1, nq2, nq3, i10, i00, ↓reduceIte, Option.bind_some]
theorem q_st_72 (th : Int32) (pf of : Nat → Int32) (sz bg : Int32) : ∃ P r, f_M_stretch th pf of sz bg (nI 72) = some (r, th, P, of, sz, bg) ∧ f_C_longOf 72 (pf 0) (pf 1) (pf 2) (pf 3) = some r :=
  q_stj (j := 72) (L := 3) (by omega) (by omega) rfl (q_str_72 th pf of sz bg) (fun _ => (slv_c (j := 72) (t := 0) (c := 1) (by decide +kernel) _ _ _).symm) (fun _ => (slv_a (j := 72) (t := 1) (by decide +kernel) _ _ _).symm) (fun hz => absurd hz (show ¬ zh 3 2 = true by decide +kernel)) (fun _ => (if_neg (show ¬ zh 72 3 = true by decide +kernel)).symm)
theorem q_str_73 (th : Int32) (pf of : Nat → Int32) (sz bg : Int32) : f_M_stretch th pf of sz bg (nI 73) = (f_K_compose 27 ((upd pf 1 (pf 0)) 0) ((upd pf 1 (pf 0)) 1) ((upd pf 1 (pf 0)) 2) ((upd pf 1 (pf 0)) 3)).bind fun r => some (r, th, (upd pf 1 (pf 0)), of, sz, bg) := by
  have e48 : (nI 73 = 48) = False := eq_false (by decide)
  have e51 : (nI 73 = 51) = False := eq_false (by decide)
  have e52 : (nI 73 = 52) = False := eq_false (by decide)
  have e53 : (nI 73 = 53) = False := eq_false (by decide)
  have e54 : (nI 73 = 54) = False := eq_false (by decide)
  have e55 : (nI 73 = 55) = False := eq_false (by decide)
  have e57 : (nI 73 = 57) = False := eq_false (by decide)
  have e58 : (nI 73 = 58) = False := eq_false (by decide)
  have e59 : (nI 73 = 59) = False := eq_false (by decide)
  have e64 : (nI 73 = 64) = False := eq_false (by decide)
  have e65 : (nI 73 = 65) = False := eq_false (by decide)
  have e66 : (nI 73 = 66) = False := eq_false (by decide)
  have e67 : (nI 73 = 67) = False := eq_false (by decide)
  have e68 : (nI 73 = 68) = False := eq_false (by decide)
  have e69 : (nI 73 = 69) = False := eq_false (by decide)
  have e70 : (nI 73 = 70) = False := eq_false (by decide)
  have e72 : (nI 73 = 72) = False := eq_false (by decide)
  have e73 : (nI 73 = 73) = True := eq_true rfl
  have e74 : (nI 73 = 74) = False := eq_false (by decide)
  have l59 : (nI 73 ≤ 59) = False := eq_false (by decide)
  have l64 : (nI 73 < 64) = False := eq_false (by decide)
  have lk : f_M_longKind (nI 73) = some (nI 27) := by decide +kernel
  rw [← q_put_eq (i := 27) (by omega) th (upd pf 1 (pf 0)) of sz bg]
  simp only [f_M_stretch, f_M_stretch_L43, f_M_stretch_L55, f_M_stretch_L60, f_M_stretch_L85, f_M_stretch_L90, f_M_stretch_L103, f_M_stretch_L115, f_M_stretch_L133, f_M_stretch_L140, f_M_stretch_L158, f_M_stretch_L165, f_M_stretch_L177, f_M_stretch_L184, f_M_stretch_L197, f_M_stretch_L209, f_M_stretch_L216, f_M_stretch_L234, e48, e51, e52, e53, e54, e55, e57, e58, e59, e64, e65, e66, e67, e68, e69, e70, e72, e73, e74, l59, l64, lk, eq_false n_p0, eq_false n_p1, eq_false n_p2, eq_false n_p3, cl0, cl1, cl2, cl3, nq0, nq1, nq2, nq3, i10, i00, ↓reduceIte, Option.bind_some]
theorem q_st_73 (th : Int32) (pf of : Nat → Int32) (sz bg : Int32) : ∃ P r, f_M_stretch th pf of sz bg (nI 73) = some (r, th, P, of, sz, bg) ∧ f_C_longOf 73 (pf 0) (pf 1) (pf 2) (pf 3) = some r :=
  q_stj (j := 73) (L := 27) (by omega) (by omega) rfl (q_str_73 th pf of sz bg) (fun _ => (slv_d (j := 73) (t := 0) (by decide +kernel) _ _ _).symm) (fun _ => (slv_d (j := 73) (t := 1) (by decide +kernel) _ _ _).symm) (fun _ => (slv_b (j := 73) (t := 2) (by decide +kernel) _ _ _).symm) (fun hz => absurd hz (show ¬ zh 27 3 = true by decide +kernel))
theorem q_str_74 (th : Int32) (pf of : Nat → Int32) (sz bg : Int32) : f_M_stretch th pf of sz bg (nI 74) = (f_K_compose 17 ((upd pf 1 2) 0) ((upd pf 1 2) 1) ((upd pf 1 2) 2) ((upd pf 1 2) 3)).bind fun r => some (r, th, (upd pf 1 2), of, sz, bg) := by
  have e48 : (nI 74 = 48) = False := eq_false (by decide)
  have e51 : (nI 74 = 51) = False := eq_false (by decide)
  have e52 : (nI 74 = 52) = False := eq_false (by decide)
  have e53 : (nI 74 = 53) = False := eq_false (by decide)
  have e54 : (nI 74 = 54) = False := eq_false (by decide)
  have e55 : (nI 74 = 55) = False := eq_false (by decide)
  have e57 : (nI 74 = 57) = False := eq_false (by decide)
  have e58 : (nI 74 = 58) = False := eq_false (by decide)
  have e59 : (nI 74 = 59) = False := eq_false (by decide)
  have e64 : (nI 74 = 64) = False := eq_false (by decide)
  have e65 : (nI 74 = 65) = False := eq_false (by decide)
  have e66 : (nI 74 = 66) = False := eq_false (by decide)
  have e67 : (nI 74 = 67) = False := eq_false (by decide)
  have e68 : (nI 74 = 68) = False := eq_false (by decide)
  have e69 : (nI 74 = 69) = False := eq_false (by decide)
  have e70 : (nI 74 = 70) = False := eq_false (by decide)
  have e72 : (nI 74 = 72) = False := eq_false (by decide)
  have e73 : (nI 74 = 73) = False := eq_false (by decide)
  have e74 : (nI 74 = 74) = True := eq_true rfl
  have l59 : (nI 74 ≤ 59) = False := eq_false (by decide)
  have l64 : (nI 74 < 64) = False := eq_false (by decide)
  have lk : f_M_longKind (nI 74) = some (nI 17) := by decide +kernel
  rw [← q_put_eq (i := 17) (by omega) th (upd pf 1 2) of sz bg]
  simp only [f_M_stretch, f_M_stretch_L43, f_M_stretch_L55, f_M_stretch_L60, f_M_stretch_L85, f_M_stretch_L90, f_M_stretch_L103, f_M_stretch_L115, f_M_stretch_L133, f_M_stretch_L140, f_M_stretch_L158, f_M_stretch_L165, f_M_stretch_L177, f_M_stretch_L184, f_M_stretch_L197, f_M_stretch_L209, f_M_stretch_L216, f_M_stretch_L234, e48, e51, e52, e53, e54, e55, e57, e58, e59, e64, e65, e66, e67, e68, e69, e70, e72, e73, e74, l59, l64, lk, eq_false n_p0, eq_false n_p1, eq_false n_p2, eq_false n_p3, cl0, cl1, cl2, cl3, nq0, nq1, nq2, nq3, i10, i00, ↓reduceIte, Option.bind_some]
theorem q_st_74 (th : Int32) (pf of : Nat → Int32) (sz bg : Int32) : ∃ P r, f_M_stretch th pf of sz bg (nI 74) = some (r, th, P, of, sz, bg) ∧ f_C_longOf 74 (pf 0) (pf 1) (pf 2) (pf 3) = some r :=
  q_stj (j := 74) (L := 17) (by omega) (by omega) rfl (q_str_74 th pf of sz bg) (fun hz => absurd hz (show ¬ zh 17 0 = true by decide +kernel)) (fun _ => (slv_c (j := 74) (t := 1) (c := 2) (by decide +kernel) _ _ _).symm) (fun _ => (slv_b (j := 74) (t := 2) (by decide +kernel) _ _ _).symm) (fun _ => (if_pos (show zh 74 3 = true by decide +kernel)).symm)
theorem q_stretch {j : Nat} (hj : j < 75) (h : 48 ≤ j) (th : Int32) (pf of : Nat → Int32) (sz bg : Int32) : ∃ P r, f_M_stretch th pf of sz bg (nI j) = some (r, th, P, of, sz, bg) ∧ f_C_longOf j (pf 0) (pf 1) (pf 2) (pf 3) = some r := by
  obtain ⟨t, rfl⟩ := Nat.exists_eq_add_of_le h
  have ht : t < 27 := by omega
  clear hj h
  match t, ht with
  | 0, _ => exact q_st_48 th pf of sz bg
  | 1, _ => exact q_st_49 th pf of sz bg
  | 2, _ => exact q_st_50 th pf of sz bg
  | 3, _ => exact q_st_51 th pf of sz bg
  | 4, _ => exact q_st_52 th pf of sz bg
  | 5, _ => exact q_st_53 th pf of sz bg
  | 6, _ => exact q_st_54 th pf of sz bg
  | 7, _ => exact q_st_55 th pf of sz bg
  | 8, _ => exact q_st_56 th pf of sz bg
  | 9, _ => exact q_st_57 th pf of sz bg
  | 10, _ => exact q_st_58 th pf of sz bg
  | 11, _ => exact q_st_59 th pf of sz bg
  | 12, _ => exact q_st_60 th pf of sz bg
  | 13, _ => exact q_st_61 th pf of sz bg
  | 14, _ => exact q_st_62 th pf of sz bg
  | 15, _ => exact q_st_63 th pf of sz bg
  | 16, _ => exact q_st_64 th pf of sz bg
  | 17, _ => exact q_st_65 th pf of sz bg
  | 18, _ => exact q_st_66 th pf of sz bg
  | 19, _ => exact q_st_67 th pf of sz bg
  | 20, _ => exact q_st_68 th pf of sz bg
  | 21, _ => exact q_st_69 th pf of sz bg
  | 22, _ => exact q_st_70 th pf of sz bg
  | 23, _ => exact q_st_71 th pf of sz bg
  | 24, _ => exact q_st_72 th pf of sz bg
  | 25, _ => exact q_st_73 th pf of sz bg
  | 26, _ => exact q_st_74 th pf of sz bg
  | n + 27, h => exact absurd h (by omega)
theorem q_longer (th : Int32) (pf of : Nat → Int32) (sz bg w : Int32) : ∃ v t pf', f_M_longer th pf of sz bg w = some (v, t, pf', of, sz, bg) ∧ ((t = 0 ∧ f_C_longer w = some (.inl v)) ∨ (t = 1 ∧ f_C_longer w = some (.inr "java/util/NoSuchElementException"))) := by
  obtain ⟨k, p1, hM, hC, hr⟩ := q_find w th pf of sz bg
  unfold f_M_longer f_C_longer f_M_isLong
  rw [hC, Option.bind_some]
  by_cases hl : w &&& 3 = 3
  · rw [if_pos hl, Option.bind_some, if_neg n_t]
    refine ⟨0, 1, pf, rfl, Or.inr ⟨rfl, ?_⟩⟩
    rcases hr with ⟨rfl, _⟩ | ⟨i, hi, rfl, hd, _, h48, _⟩
    · rw [if_pos rfl]
    · rw [if_neg (zt_nm1 i hi), if_neg (nI_in (N := 75) hi (by omega)), nI_clamp (by omega), (zt_nst i (h48.mp hl)).2, Option.bind_some, if_pos n_f]
  · rw [if_neg hl, Option.bind_some, if_pos n_f, hM, Option.bind_some]
    dsimp only
    rcases hr with ⟨rfl, _⟩ | ⟨i, hi, rfl, hd, _, h48, _⟩
    · rw [if_pos rfl]
      exact ⟨0, 1, p1, rfl, Or.inr ⟨rfl, rfl⟩⟩
    · have h48' : 48 ≤ i := by
        rcases Nat.lt_or_ge i 48 with y | y
        · exact absurd (h48.mpr y) hl
        · exact y
      obtain ⟨P, r, e1, e2⟩ := q_stretch hi h48' 0 p1 of sz bg
      unfold f_M_longer_L16 f_M_longer_L28
      rw [if_neg (zt_nm1 i hi), if_neg (zt_nm1 i hi), if_pos rfl, e1, Option.bind_some, if_neg (nI_in (N := 75) hi (by omega)), if_neg (nI_in (N := 75) hi (by omega)), nI_clamp (by omega), (zt_slot i hi h48').2.2.2.1, Option.bind_some, if_neg n_t, show f_K_register i w 1 = some (p1 0) from hd.1 0 (by omega), Option.bind_some, show f_K_register i w 2 = some (p1 1) from hd.1 1 (by omega), Option.bind_some, show f_K_register i w 4 = some (p1 2) from hd.1 2 (by omega), Option.bind_some, hd.2, Option.bind_some, e2, Option.bind_some]
      exact ⟨r, 0, P, rfl, Or.inl ⟨rfl, rfl⟩⟩
