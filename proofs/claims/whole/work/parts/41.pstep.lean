/-! every step of the law goes on -/
def I0 : lST → Prop := fun st => ∃ N : Nat, N ≤ 48 ∧ st.2.1 = nI N ∧ st.2.2.2.2.2.1 = nI N ∧ ∀ j, j < N → st.1 j = st.2.2.2.2.1 j
theorem ls_0 {xs : Nat → Int32} {L k : Nat} (hL : L ≤ 3072) (hk : 6 * k + 6 ≤ L) (f : Nat → Int32) (n th : Int32) (pf of : Nat → Int32) (sz bg : Int32) (g : Nat → Int64) : ∃ th' pf' g', f_L_c0 xs L (nI (6 * k)) f n th pf of sz bg g = some (f, n, th', pf', of, sz, bg, g') := by
  have e1 : (nI (6 * k) + 1 : Int32) = nI (6 * k + 1) := nI_add _ 1
  have h1 : ¬ (nI (6 * k + 1) < 0 ∨ L ≤ (nI (6 * k + 1)).toNatClampNeg) := nI_in (by omega) (by omega)
  have e2 : (nI (6 * k) + 2 : Int32) = nI (6 * k + 2) := nI_add _ 2
  have h2 : ¬ (nI (6 * k + 2) < 0 ∨ L ≤ (nI (6 * k + 2)).toNatClampNeg) := nI_in (by omega) (by omega)
  have e3 : (nI (6 * k) + 3 : Int32) = nI (6 * k + 3) := nI_add _ 3
  have h3 : ¬ (nI (6 * k + 3) < 0 ∨ L ≤ (nI (6 * k + 3)).toNatClampNeg) := nI_in (by omega) (by omega)
  have e4 : (nI (6 * k) + 4 : Int32) = nI (6 * k + 4) := nI_add _ 4
  have h4 : ¬ (nI (6 * k + 4) < 0 ∨ L ≤ (nI (6 * k + 4)).toNatClampNeg) := nI_in (by omega) (by omega)
  have e5 : (nI (6 * k) + 5 : Int32) = nI (6 * k + 5) := nI_add _ 5
  have h5 : ¬ (nI (6 * k + 5) < 0 ∨ L ≤ (nI (6 * k + 5)).toNatClampNeg) := nI_in (by omega) (by omega)
  unfold f_L_c0 f_M_thrown
  simp only [e1, e2, e3, e4, e5, eq_false h1, eq_false h2, eq_false h3, eq_false h4, eq_false h5, if_false]
  obtain ⟨v, t, pf', hM, hc⟩ := q_word th pf of sz bg (xs (nI (6 * k + 1)).toNatClampNeg) (xs (nI (6 * k + 2)).toNatClampNeg) (xs (nI (6 * k + 3)).toNatClampNeg) (xs (nI (6 * k + 4)).toNatClampNeg) (xs (nI (6 * k + 5)).toNatClampNeg)
  rcases hc with ⟨rfl, hC⟩ | ⟨rfl, hC⟩ | ⟨rfl, hC⟩
  · have hl : f_L_word g (xs (nI (6 * k + 1)).toNatClampNeg) (xs (nI (6 * k + 2)).toNatClampNeg) (xs (nI (6 * k + 3)).toNatClampNeg) (xs (nI (6 * k + 4)).toNatClampNeg) (xs (nI (6 * k + 5)).toNatClampNeg) = some (0, vp_updL g (0 : Int32).toNatClampNeg v.toInt64) := by unfold f_L_word; rw [hC]; rfl
    rw [hl, Option.bind_some, hM, Option.bind_some, Option.bind_some]
    dsimp only
    rw [if_pos rfl, if_pos rfl, if_neg (by decide), if_pos (show lg_cmp (vp_updL g (0 : Int32).toNatClampNeg v.toInt64 (0 : Int32).toNatClampNeg) v.toInt64 = 0 from (lg_cmp_eq _ _).mpr (if_pos rfl))]
    exact ⟨0, pf', _, rfl⟩
  · have hl : f_L_word g (xs (nI (6 * k + 1)).toNatClampNeg) (xs (nI (6 * k + 2)).toNatClampNeg) (xs (nI (6 * k + 3)).toNatClampNeg) (xs (nI (6 * k + 4)).toNatClampNeg) (xs (nI (6 * k + 5)).toNatClampNeg) = some (1, g) := by unfold f_L_word; rw [hC]; rfl
    rw [hl, Option.bind_some, hM, Option.bind_some, Option.bind_some]
    dsimp only
    rw [if_pos rfl, if_neg (by decide)]
    exact ⟨1, pf', g, rfl⟩
  · have hl : f_L_word g (xs (nI (6 * k + 1)).toNatClampNeg) (xs (nI (6 * k + 2)).toNatClampNeg) (xs (nI (6 * k + 3)).toNatClampNeg) (xs (nI (6 * k + 4)).toNatClampNeg) (xs (nI (6 * k + 5)).toNatClampNeg) = some (2, g) := by unfold f_L_word; rw [hC]; rfl
    rw [hl, Option.bind_some, hM, Option.bind_some, Option.bind_some]
    dsimp only
    rw [if_pos rfl, if_neg (by decide)]
    exact ⟨2, pf', g, rfl⟩
theorem ls_3 {xs : Nat → Int32} {L k : Nat} (hL : L ≤ 3072) (hk : 6 * k + 6 ≤ L) (f : Nat → Int32) (n th : Int32) (pf of : Nat → Int32) (sz bg : Int32) (g : Nat → Int64) : ∃ th' pf' g', f_L_c3 xs L (nI (6 * k)) f n th pf of sz bg g = some (f, n, th', pf', of, sz, bg, g') := by
  have e1 : (nI (6 * k) + 1 : Int32) = nI (6 * k + 1) := nI_add _ 1
  have h1 : ¬ (nI (6 * k + 1) < 0 ∨ L ≤ (nI (6 * k + 1)).toNatClampNeg) := nI_in (by omega) (by omega)
  have e2 : (nI (6 * k) + 2 : Int32) = nI (6 * k + 2) := nI_add _ 2
  have h2 : ¬ (nI (6 * k + 2) < 0 ∨ L ≤ (nI (6 * k + 2)).toNatClampNeg) := nI_in (by omega) (by omega)
  unfold f_L_c3 f_M_thrown
  simp only [e1, e2, eq_false h1, eq_false h2, if_false]
  obtain ⟨v, t, pf', hM, hc⟩ := q_part th pf of sz bg (xs (nI (6 * k + 1)).toNatClampNeg) (xs (nI (6 * k + 2)).toNatClampNeg)
  rcases hc with ⟨rfl, hC⟩ | ⟨rfl, hC⟩
  · have hl : f_L_part g (xs (nI (6 * k + 1)).toNatClampNeg) (xs (nI (6 * k + 2)).toNatClampNeg) = some (0, vp_updL g (0 : Int32).toNatClampNeg v.toInt64) := by unfold f_L_part; rw [hC]; rfl
    rw [hl, Option.bind_some, hM, Option.bind_some, Option.bind_some]
    dsimp only
    rw [if_pos rfl, if_pos rfl, if_neg (by decide), if_pos (show lg_cmp (vp_updL g (0 : Int32).toNatClampNeg v.toInt64 (0 : Int32).toNatClampNeg) v.toInt64 = 0 from (lg_cmp_eq _ _).mpr (if_pos rfl))]
    exact ⟨0, pf', _, rfl⟩
  · have hl : f_L_part g (xs (nI (6 * k + 1)).toNatClampNeg) (xs (nI (6 * k + 2)).toNatClampNeg) = some (1, g) := by unfold f_L_part; rw [hC]; rfl
    rw [hl, Option.bind_some, hM, Option.bind_some, Option.bind_some]
    dsimp only
    rw [if_pos rfl, if_neg (by decide)]
    exact ⟨1, pf', g, rfl⟩
theorem ls_4 {xs : Nat → Int32} {L k : Nat} (hL : L ≤ 3072) (hk : 6 * k + 6 ≤ L) (f : Nat → Int32) (n th : Int32) (pf of : Nat → Int32) (sz bg : Int32) (g : Nat → Int64) : ∃ th' pf' g', f_L_c4 xs L (nI (6 * k)) f n th pf of sz bg g = some (f, n, th', pf', of, sz, bg, g') := by
  have e1 : (nI (6 * k) + 1 : Int32) = nI (6 * k + 1) := nI_add _ 1
  have h1 : ¬ (nI (6 * k + 1) < 0 ∨ L ≤ (nI (6 * k + 1)).toNatClampNeg) := nI_in (by omega) (by omega)
  unfold f_L_c4 f_M_thrown
  simp only [e1, eq_false h1, if_false]
  obtain ⟨v, t, pf', hM, hc⟩ := q_longer th pf of sz bg (xs (nI (6 * k + 1)).toNatClampNeg)
  rcases hc with ⟨rfl, hC⟩ | ⟨rfl, hC⟩
  · have hl : f_L_longer g (xs (nI (6 * k + 1)).toNatClampNeg) = some (0, vp_updL g (0 : Int32).toNatClampNeg v.toInt64) := by unfold f_L_longer; rw [hC]; rfl
    rw [hl, Option.bind_some, hM, Option.bind_some, Option.bind_some]
    dsimp only
    rw [if_pos rfl, if_pos rfl, if_neg (by decide), if_pos (show lg_cmp (vp_updL g (0 : Int32).toNatClampNeg v.toInt64 (0 : Int32).toNatClampNeg) v.toInt64 = 0 from (lg_cmp_eq _ _).mpr (if_pos rfl))]
    exact ⟨0, pf', _, rfl⟩
  · have hl : f_L_longer g (xs (nI (6 * k + 1)).toNatClampNeg) = some (1, g) := by unfold f_L_longer; rw [hC]; rfl
    rw [hl, Option.bind_some, hM, Option.bind_some, Option.bind_some]
    dsimp only
    rw [if_pos rfl, if_neg (by decide)]
    exact ⟨1, pf', g, rfl⟩
theorem ls_6 {xs : Nat → Int32} {L k : Nat} (hL : L ≤ 3072) (hk : 6 * k + 6 ≤ L) (f : Nat → Int32) (n th : Int32) (pf of : Nat → Int32) (sz bg : Int32) (g : Nat → Int64) : ∃ th' pf' g', f_L_c6 xs L (nI (6 * k)) f n th pf of sz bg g = some (f, n, th', pf', of, sz, bg, g') := by
  have e1 : (nI (6 * k) + 1 : Int32) = nI (6 * k + 1) := nI_add _ 1
  have h1 : ¬ (nI (6 * k + 1) < 0 ∨ L ≤ (nI (6 * k + 1)).toNatClampNeg) := nI_in (by omega) (by omega)
  have e2 : (nI (6 * k) + 2 : Int32) = nI (6 * k + 2) := nI_add _ 2
  have h2 : ¬ (nI (6 * k + 2) < 0 ∨ L ≤ (nI (6 * k + 2)).toNatClampNeg) := nI_in (by omega) (by omega)
  have e3 : (nI (6 * k) + 3 : Int32) = nI (6 * k + 3) := nI_add _ 3
  have h3 : ¬ (nI (6 * k + 3) < 0 ∨ L ≤ (nI (6 * k + 3)).toNatClampNeg) := nI_in (by omega) (by omega)
  unfold f_L_c6 f_M_thrown
  simp only [e1, e2, e3, eq_false h1, eq_false h2, eq_false h3, if_false]
  obtain ⟨v, t, pf', hM, hc⟩ := q_fit th pf of sz bg (xs (nI (6 * k + 1)).toNatClampNeg) ((ju_lshl ((xs (nI (6 * k + 2)).toNatClampNeg).toInt64) 32) ||| (((xs (nI (6 * k + 3)).toNatClampNeg).toInt64) &&& 4294967295))
  rcases hc with ⟨rfl, hC⟩ | ⟨rfl, hC⟩
  · have hl : f_L_fit g (xs (nI (6 * k + 1)).toNatClampNeg) ((ju_lshl ((xs (nI (6 * k + 2)).toNatClampNeg).toInt64) 32) ||| (((xs (nI (6 * k + 3)).toNatClampNeg).toInt64) &&& 4294967295)) = some (0, vp_updL g (0 : Int32).toNatClampNeg v.toInt64) := by unfold f_L_fit; rw [hC]; rfl
    rw [hl, Option.bind_some, hM, Option.bind_some, Option.bind_some]
    dsimp only
    rw [if_pos rfl, if_pos rfl, if_neg (by decide), if_pos (show lg_cmp (vp_updL g (0 : Int32).toNatClampNeg v.toInt64 (0 : Int32).toNatClampNeg) v.toInt64 = 0 from (lg_cmp_eq _ _).mpr (if_pos rfl))]
    exact ⟨0, pf', _, rfl⟩
  · have hl : f_L_fit g (xs (nI (6 * k + 1)).toNatClampNeg) ((ju_lshl ((xs (nI (6 * k + 2)).toNatClampNeg).toInt64) 32) ||| (((xs (nI (6 * k + 3)).toNatClampNeg).toInt64) &&& 4294967295)) = some (1, g) := by unfold f_L_fit; rw [hC]; rfl
    rw [hl, Option.bind_some, hM, Option.bind_some, Option.bind_some]
    dsimp only
    rw [if_pos rfl, if_neg (by decide)]
    exact ⟨1, pf', g, rfl⟩
theorem ls_1 {xs : Nat → Int32} {L k : Nat} (hL : L ≤ 3072) (hk : 6 * k + 6 ≤ L) (f : Nat → Int32) (n th : Int32) (pf of : Nat → Int32) (sz bg : Int32) (g : Nat → Int64) : ∃ th' pf' g', f_L_c1 xs L (nI (6 * k)) f n th pf of sz bg g = some (f, n, th', pf', of, sz, bg, g') := by
  have e1 : (nI (6 * k) + 1 : Int32) = nI (6 * k + 1) := nI_add _ 1
  have h1 : ¬ (nI (6 * k + 1) < 0 ∨ L ≤ (nI (6 * k + 1)).toNatClampNeg) := nI_in (by omega) (by omega)
  unfold f_L_c1
  simp only [e1, eq_false h1, if_false]
  obtain ⟨v, t, pf', hM, hC⟩ := q_kind th pf of sz bg (xs (nI (6 * k + 1)).toNatClampNeg)
  rw [hC, Option.bind_some, hM, Option.bind_some]
  dsimp only
  rw [if_pos rfl]
  exact ⟨_, _, _, rfl⟩
theorem ls_2 {xs : Nat → Int32} {L k : Nat} (hL : L ≤ 3072) (hk : 6 * k + 6 ≤ L) (f : Nat → Int32) (n th : Int32) (pf of : Nat → Int32) (sz bg : Int32) (g : Nat → Int64) : ∃ th' pf' g', f_L_c2 xs L (nI (6 * k)) f n th pf of sz bg g = some (f, n, th', pf', of, sz, bg, g') := by
  have e1 : (nI (6 * k) + 1 : Int32) = nI (6 * k + 1) := nI_add _ 1
  have h1 : ¬ (nI (6 * k + 1) < 0 ∨ L ≤ (nI (6 * k + 1)).toNatClampNeg) := nI_in (by omega) (by omega)
  unfold f_L_c2
  simp only [e1, eq_false h1, if_false]
  obtain ⟨v, hM, hC⟩ := q_size th pf of sz bg (xs (nI (6 * k + 1)).toNatClampNeg)
  rw [hC, Option.bind_some, hM, Option.bind_some]
  dsimp only
  rw [if_pos rfl]
  exact ⟨_, _, _, rfl⟩
theorem ls_5 {xs : Nat → Int32} {L k : Nat} (hL : L ≤ 3072) (hk : 6 * k + 6 ≤ L) (f : Nat → Int32) (n th : Int32) (pf of : Nat → Int32) (sz bg : Int32) (g : Nat → Int64) : ∃ th' pf' g', f_L_c5 xs L (nI (6 * k)) f n th pf of sz bg g = some (f, n, th', pf', of, sz, bg, g') := by
  have e1 : (nI (6 * k) + 1 : Int32) = nI (6 * k + 1) := nI_add _ 1
  have h1 : ¬ (nI (6 * k + 1) < 0 ∨ L ≤ (nI (6 * k + 1)).toNatClampNeg) := nI_in (by omega) (by omega)
  unfold f_L_c5
  simp only [e1, eq_false h1, if_false]
  obtain ⟨v, t, pf', hM, hC⟩ := q_shorter th pf of sz bg (xs (nI (6 * k + 1)).toNatClampNeg)
  rw [hC, Option.bind_some, hM, Option.bind_some]
  dsimp only
  rw [if_pos rfl]
  exact ⟨_, _, _, rfl⟩
theorem ls_10 {xs : Nat → Int32} {L k : Nat} (hL : L ≤ 3072) (hk : 6 * k + 6 ≤ L) (f : Nat → Int32) (n th : Int32) (pf of : Nat → Int32) (sz bg : Int32) (g : Nat → Int64) : ∃ th' pf' g', f_L_c10 xs L (nI (6 * k)) f n th pf of sz bg g = some (f, n, th', pf', of, sz, bg, g') := by
  have e1 : (nI (6 * k) + 1 : Int32) = nI (6 * k + 1) := nI_add _ 1
  have h1 : ¬ (nI (6 * k + 1) < 0 ∨ L ≤ (nI (6 * k + 1)).toNatClampNeg) := nI_in (by omega) (by omega)
  have e2 : (nI (6 * k) + 2 : Int32) = nI (6 * k + 2) := nI_add _ 2
  have h2 : ¬ (nI (6 * k + 2) < 0 ∨ L ≤ (nI (6 * k + 2)).toNatClampNeg) := nI_in (by omega) (by omega)
  have e3 : (nI (6 * k) + 3 : Int32) = nI (6 * k + 3) := nI_add _ 3
  have h3 : ¬ (nI (6 * k + 3) < 0 ∨ L ≤ (nI (6 * k + 3)).toNatClampNeg) := nI_in (by omega) (by omega)
  have e4 : (nI (6 * k) + 4 : Int32) = nI (6 * k + 4) := nI_add _ 4
  have h4 : ¬ (nI (6 * k + 4) < 0 ∨ L ≤ (nI (6 * k + 4)).toNatClampNeg) := nI_in (by omega) (by omega)
  unfold f_L_c10
  simp only [e1, e2, e3, e4, eq_false h1, eq_false h2, eq_false h3, eq_false h4, if_false]
  obtain ⟨v, hM, hC⟩ := q_named th pf of sz bg ((ju_lshl ((xs (nI (6 * k + 1)).toNatClampNeg).toInt64) 32) ||| (((xs (nI (6 * k + 2)).toNatClampNeg).toInt64) &&& 4294967295)) ((ju_lshl ((xs (nI (6 * k + 3)).toNatClampNeg).toInt64) 32) ||| (((xs (nI (6 * k + 4)).toNatClampNeg).toInt64) &&& 4294967295))
  rw [hC, Option.bind_some, hM, Option.bind_some]
  dsimp only
  rw [if_pos rfl]
  exact ⟨_, _, _, rfl⟩
theorem ls_11 {xs : Nat → Int32} {L k : Nat} (hL : L ≤ 3072) (hk : 6 * k + 6 ≤ L) (f : Nat → Int32) (n th : Int32) (pf of : Nat → Int32) (sz bg : Int32) (g : Nat → Int64) : ∃ th' pf' g', f_L_c11 xs L (nI (6 * k)) f n th pf of sz bg g = some (f, n, th', pf', of, sz, bg, g') := by
  have e1 : (nI (6 * k) + 1 : Int32) = nI (6 * k + 1) := nI_add _ 1
  have h1 : ¬ (nI (6 * k + 1) < 0 ∨ L ≤ (nI (6 * k + 1)).toNatClampNeg) := nI_in (by omega) (by omega)
  have e2 : (nI (6 * k) + 2 : Int32) = nI (6 * k + 2) := nI_add _ 2
  have h2 : ¬ (nI (6 * k + 2) < 0 ∨ L ≤ (nI (6 * k + 2)).toNatClampNeg) := nI_in (by omega) (by omega)
  unfold f_L_c11
  simp only [e1, e2, eq_false h1, eq_false h2, if_false]
  obtain ⟨v, hM, hC⟩ := q_about th pf of sz bg (xs (nI (6 * k + 1)).toNatClampNeg) (xs (nI (6 * k + 2)).toNatClampNeg)
  rw [hC, Option.bind_some, hM, Option.bind_some]
  dsimp only
  rw [if_pos rfl]
  exact ⟨_, _, _, rfl⟩
theorem ls_7 {xs : Nat → Int32} {L k : Nat} (hL : L ≤ 3072) (hk : 6 * k + 6 ≤ L) (f : Nat → Int32) (n th : Int32) (pf of : Nat → Int32) (sz bg : Int32) (g : Nat → Int64) : ∃ th' pf' g', f_L_c7 xs L (nI (6 * k)) f n th pf of sz bg g = some (f, n, th', pf', of, sz, bg, g') := by
  have e1 : (nI (6 * k) + 1 : Int32) = nI (6 * k + 1) := nI_add _ 1
  have h1 : ¬ (nI (6 * k + 1) < 0 ∨ L ≤ (nI (6 * k + 1)).toNatClampNeg) := nI_in (by omega) (by omega)
  have e2 : (nI (6 * k) + 2 : Int32) = nI (6 * k + 2) := nI_add _ 2
  have h2 : ¬ (nI (6 * k + 2) < 0 ∨ L ≤ (nI (6 * k + 2)).toNatClampNeg) := nI_in (by omega) (by omega)
  have e3 : (nI (6 * k) + 3 : Int32) = nI (6 * k + 3) := nI_add _ 3
  have h3 : ¬ (nI (6 * k + 3) < 0 ∨ L ≤ (nI (6 * k + 3)).toNatClampNeg) := nI_in (by omega) (by omega)
  unfold f_L_c7
  simp only [e1, e2, e3, eq_false h1, eq_false h2, eq_false h3, if_false]
  obtain ⟨v, hM, hC⟩ := q_may th pf of sz bg (xs (nI (6 * k + 1)).toNatClampNeg) ((ju_lshl ((xs (nI (6 * k + 2)).toNatClampNeg).toInt64) 32) ||| (((xs (nI (6 * k + 3)).toNatClampNeg).toInt64) &&& 4294967295))
  rw [hC, Option.bind_some, hM, Option.bind_some]
  dsimp only
  rw [if_pos rfl]
  exact ⟨_, _, _, rfl⟩
theorem ls_8 {xs : Nat → Int32} {L k : Nat} (hL : L ≤ 3072) (hk : 6 * k + 6 ≤ L) (f : Nat → Int32) (n th : Int32) (pf of : Nat → Int32) (sz bg : Int32) (g : Nat → Int64) : ∃ st', f_L_c8 xs L (nI (6 * k)) f n th pf of sz bg g = some st' ∧ I0 st' := by
  have e1 : (nI (6 * k) + 1 : Int32) = nI (6 * k + 1) := nI_add _ 1
  have h1 : ¬ (nI (6 * k + 1) < 0 ∨ L ≤ (nI (6 * k + 1)).toNatClampNeg) := nI_in (by omega) (by omega)
  have e2 : (nI (6 * k) + 2 : Int32) = nI (6 * k + 2) := nI_add _ 2
  have h2 : ¬ (nI (6 * k + 2) < 0 ∨ L ≤ (nI (6 * k + 2)).toNatClampNeg) := nI_in (by omega) (by omega)
  unfold f_L_c8
  simp only [e1, e2, eq_false h1, eq_false h2, if_false]
  obtain ⟨l, t, pf', b, hl, hM, hC⟩ := q_tell f n th pf of sz bg (xs (nI (6 * k + 1)).toNatClampNeg) (xs (nI (6 * k + 2)).toNatClampNeg)
  rw [hC, Option.bind_some, hM, Option.bind_some]
  dsimp only
  rw [if_pos rfl]
  refine ⟨_, rfl, l.length, hl, rfl, rfl, ?_⟩
  intro j hj
  exact ap_eq l f of 0 (fun q hq => by omega) j (by omega)
theorem ls_9 {xs : Nat → Int32} {L k : Nat} (hL : L ≤ 3072) (hk : 6 * k + 6 ≤ L) (f : Nat → Int32) (n th : Int32) (pf of : Nat → Int32) (sz bg : Int32) (g : Nat → Int64) (hI : I0 (f, n, th, pf, of, sz, bg, g)) : ∃ th' pf' g', f_L_c9 xs L (nI (6 * k)) f n th pf of sz bg g = some (f, n, th', pf', of, sz, bg, g') := by
  have e1 : (nI (6 * k) + 1 : Int32) = nI (6 * k + 1) := nI_add _ 1
  have h1 : ¬ (nI (6 * k + 1) < 0 ∨ L ≤ (nI (6 * k + 1)).toNatClampNeg) := nI_in (by omega) (by omega)
  obtain ⟨N, hN, n1, n2, n3⟩ := hI
  have n1 : n = nI N := n1
  have n2 : sz = nI N := n2
  subst n1 n2
  unfold f_L_c9
  simp only [e1, eq_false h1, if_false]
  obtain ⟨v, hM, hC⟩ := q_letter hN f th pf of bg (xs (nI (6 * k + 1)).toNatClampNeg) n3
  rw [hC, Option.bind_some, hM, Option.bind_some]
  dsimp only
  rw [if_pos rfl]
  exact ⟨_, _, _, rfl⟩
theorem ls_all {xs : Nat → Int32} {L : Nat} (hL : L ≤ 3072) : lStep xs L I0 := by
  intro k st hk hI
  obtain ⟨f, n, th, pf, of, sz, bg, g⟩ := st
  dsimp only
  refine ⟨fun _ => ?_, fun _ => ?_, fun _ => ?_, fun _ => ?_, fun _ => ?_, fun _ => ?_, fun _ => ?_, fun _ => ?_, fun _ => ?_, fun _ => ?_, fun _ => ?_, fun _ => ?_⟩
  · obtain ⟨t, p, q, e⟩ := ls_0 hL hk f n th pf of sz bg g
    exact ⟨_, e, hI⟩
  · obtain ⟨t, p, q, e⟩ := ls_1 hL hk f n th pf of sz bg g
    exact ⟨_, e, hI⟩
  · obtain ⟨t, p, q, e⟩ := ls_2 hL hk f n th pf of sz bg g
    exact ⟨_, e, hI⟩
  · obtain ⟨t, p, q, e⟩ := ls_3 hL hk f n th pf of sz bg g
    exact ⟨_, e, hI⟩
  · obtain ⟨t, p, q, e⟩ := ls_4 hL hk f n th pf of sz bg g
    exact ⟨_, e, hI⟩
  · obtain ⟨t, p, q, e⟩ := ls_5 hL hk f n th pf of sz bg g
    exact ⟨_, e, hI⟩
  · obtain ⟨t, p, q, e⟩ := ls_6 hL hk f n th pf of sz bg g
    exact ⟨_, e, hI⟩
  · obtain ⟨t, p, q, e⟩ := ls_7 hL hk f n th pf of sz bg g
    exact ⟨_, e, hI⟩
  · exact ls_8 hL hk f n th pf of sz bg g
  · obtain ⟨t, p, q, e⟩ := ls_9 hL hk f n th pf of sz bg g hI
    exact ⟨_, e, hI⟩
  · obtain ⟨t, p, q, e⟩ := ls_10 hL hk f n th pf of sz bg g
    exact ⟨_, e, hI⟩
  · obtain ⟨t, p, q, e⟩ := ls_11 hL hk f n th pf of sz bg g
    exact ⟨_, e, hI⟩
theorem I0_0 : I0 (fun _ => 0, 0, 0, fun _ => 0, fun _ => 0, 0, 0, fun _ => 0) := ⟨0, by omega, rfl, rfl, fun j hj => rfl⟩
