/-! named -/
theorem s_l64 : ∀ n, n < 64 → (((nI n).toInt64 &&& 63).toBitVec.smod 64).toNat = n := by decide +kernel
theorem s_u64 : ∀ n, n < 64 → (((nI n).toInt64.toUInt64 &&& Int64.toUInt64 63).toBitVec % 64).toNat = n := by decide +kernel
theorem b_l2i (y : Int64) {e : Nat} (he : e < 32) : bt y.toInt32 e = y.toBitVec.getLsbD e := by
  show (y.toBitVec.signExtend 32).getLsbD e = _
  rw [BitVec.getLsbD_signExtend]
  simp [he, show e < 64 by omega]
theorem b_lushr {s : Nat} (hs : s < 64) (x : Int64) (e : Nat) : (ju_lushr x (nI s)).toBitVec.getLsbD e = x.toBitVec.getLsbD (s + e) := by
  show (x.toUInt64 >>> ((nI s).toInt64.toUInt64 &&& Int64.toUInt64 63)).toBitVec.getLsbD e = x.toUInt64.toBitVec.getLsbD (s + e)
  rw [UInt64.toBitVec_shiftRight]
  show (x.toUInt64.toBitVec >>> (((nI s).toInt64.toUInt64 &&& Int64.toUInt64 63).toBitVec % 64).toNat).getLsbD e = _
  rw [s_u64 s hs, BitVec.getLsbD_ushiftRight]
theorem b_lshr {s : Nat} (hs : s < 64) (x : Int64) {e : Nat} (he : s + e < 64) : (ju_lshr x (nI s)).toBitVec.getLsbD e = x.toBitVec.getLsbD (s + e) := by
  show (x >>> ((nI s).toInt64 &&& 63)).toBitVec.getLsbD e = _
  rw [Int64.toBitVec_shiftRight]
  show (x.toBitVec.sshiftRight (((nI s).toInt64 &&& 63).toBitVec.smod 64).toNat).getLsbD e = _
  rw [s_l64 s hs, BitVec.getLsbD_sshiftRight]
  simp [he, show e < 64 by omega]
theorem b_255L : ∀ e, e < 32 → (255 : Int64).toBitVec.getLsbD e = decide (e < 8) := by decide +kernel
theorem q_byte {s : Nat} (hs : s ≤ 56) (x : Int64) : ((ju_lshr x (nI s)) &&& 255).toInt32 = (ju_lushr x (nI s)).toInt32 &&& 255 := by
  apply b_ext
  intro e he
  rw [b_l2i _ he, Int64.toBitVec_and, BitVec.getLsbD_and, b_and, b_l2i _ he, b_255, b_255L e he, b_lushr (by omega)]
  by_cases c : e < 8
  · rw [b_lshr (by omega) x (by omega)]
  · rw [decide_eq_false c, Bool.and_false, Bool.and_false]
def Bk (a0 a1 : Int64) (k : Nat) : Int32 := (ju_lushr (if k < 8 then a0 else a1) (nI (8 * (7 - k % 8)))).toInt32 &&& 255
def bN (a0 a1 : Int64) (k : Nat) : Nat := (Bk a0 a1 k).toNatClampNeg
theorem q_bN (a0 a1 : Int64) (k : Nat) : Bk a0 a1 k = nI (bN a0 a1 k) ∧ bN a0 a1 k < 256 := by
  obtain ⟨j, hj, e⟩ := pk_andE ((ju_lushr (if k < 8 then a0 else a1) (nI (8 * (7 - k % 8)))).toInt32) (m := 255) 8 (by decide)
  have e2 : Bk a0 a1 k = nI j := e
  unfold bN
  rw [e2, nI_clamp (by omega)]
  exact ⟨rfl, by omega⟩
def flt (a0 a1 : Int64) : Nat → Nat → List Nat
  | _, 0 => []
  | k, d + 1 => if bN a0 a1 k = 0 then flt a0 a1 (k + 1) d else bN a0 a1 k :: flt a0 a1 (k + 1) d
def tT (j : Nat) : Nat → Nat → List Nat
  | _, 0 => []
  | k, d + 1 => (sC j k).toNatClampNeg :: tT j (k + 1) d
set_option maxRecDepth 100000 in
theorem zt_tt : ∀ i, i < 75 → ∀ k, k < sL (k_title i) → sC (k_title i) k = nI (sC (k_title i) k).toNatClampNeg ∧ (sC (k_title i) k).toNatClampNeg < 256 := by decide +kernel
theorem q_cbyte {a0 a1 : Int64} {k : Nat} (hk : k < 16) : ((ju_lushr (if k < 8 then a0 else a1) (8 * (7 - (nI k - nI k / 8 * 8)))).toInt32) &&& 255 = nI (bN a0 a1 k) := by
  rw [show (nI k - nI k / 8 * 8 : Int32) = nI (k % 8) from pk_rem (d := 8) (by omega) (by decide) (by decide), show (7 - nI (k % 8) : Int32) = nI (7 - k % 8) from pk_sub (a := 7) (by omega), show (8 * nI (7 - k % 8) : Int32) = nI (8 * (7 - k % 8)) from pk_mul 8 _]
  exact (q_bN a0 a1 k).1
theorem q_mbyte {a0 a1 : Int64} {k : Nat} (hk : k < 16) : ((ju_lshr (if k < 8 then a0 else a1) (56 - (8 * (nI k - nI k / 8 * 8)))) &&& 255).toInt32 = nI (bN a0 a1 k) := by
  rw [show (nI k - nI k / 8 * 8 : Int32) = nI (k % 8) from pk_rem (d := 8) (by omega) (by decide) (by decide), show (8 * nI (k % 8) : Int32) = nI (8 * (k % 8)) from pk_mul 8 _, show (56 - nI (8 * (k % 8)) : Int32) = nI (56 - 8 * (k % 8)) from pk_sub (a := 56) (by omega), show 56 - 8 * (k % 8) = 8 * (7 - k % 8) by omega, q_byte (by omega)]
  exact (q_bN a0 a1 k).1
theorem q_spl {i : Nat} (hi : i < 75) (a0 a1 : Int64) : ∀ (d n k met : Nat), k + d = 16 → met ≤ sL (k_title i) → d < n → f_C_spells_L6 (k_title i) a0 a1 n (nI met) (nI k) = some (decide (tT (k_title i) met (sL (k_title i) - met) = flt a0 a1 k d)) := by
  obtain ⟨l1, l2⟩ := zt_st1 i hi
  intro d
  induction d with
  | zero =>
    intro n k met g1 g2 g3
    obtain ⟨n, rfl⟩ : ∃ k, n = k + 1 := ⟨n - 1, by omega⟩
    have : k = 16 := by omega
    subst this
    rw [f_C_spells_L6, if_pos (show (16 : Int32) ≤ nI 16 by decide), l1, Option.bind_some]
    by_cases c : met = sL (k_title i)
    · rw [if_pos (by rw [c]), c, Nat.sub_self, decide_eq_true (show tT (k_title i) (sL (k_title i)) 0 = flt a0 a1 16 0 from rfl)]
    · rw [if_neg (fun z => c ((nI_eq (by omega) (by omega)).mp z)), decide_eq_false]
      obtain ⟨m, hm⟩ : ∃ m, sL (k_title i) - met = m + 1 := ⟨sL (k_title i) - met - 1, by omega⟩
      rw [hm]
      intro z
      have z' : (sC (k_title i) met).toNatClampNeg :: tT (k_title i) (met + 1) m = [] := z
      exact List.cons_ne_nil _ _ z'
  | succ d ih =>
    intro n k met g1 g2 g3
    obtain ⟨n, rfl⟩ : ∃ k, n = k + 1 := ⟨n - 1, by omega⟩
    have step : f_C_spells_L6 (k_title i) a0 a1 (n + 1) (nI met) (nI k) = f_C_spells_L25 (k_title i) a0 a1 (fun y0 y1 => f_C_spells_L6 (k_title i) a0 a1 n y0 y1) (nI met) (nI k) (if k < 8 then a0 else a1) := by
      rw [f_C_spells_L6, if_neg (show ¬ (16 : Int32) ≤ nI k from nI_ge (b := 16) (by omega) (by decide))]
      by_cases c : k < 8
      · rw [if_neg (show ¬ (8 : Int32) ≤ nI k from nI_ge (b := 8) c (by decide)), if_pos c]
      · rw [if_pos (show (8 : Int32) ≤ nI k from nI_le (a := 8) (by omega) (by omega)), if_neg c]
    rw [step]
    unfold f_C_spells_L25
    obtain ⟨b1, b2⟩ := q_bN a0 a1 k
    rw [q_cbyte (show k < 16 by omega), l1, Option.bind_some, nI_1, nI_1]
    have eq : flt a0 a1 k (d + 1) = if bN a0 a1 k = 0 then flt a0 a1 (k + 1) d else bN a0 a1 k :: flt a0 a1 (k + 1) d := rfl
    rw [eq]
    by_cases c0 : bN a0 a1 k = 0
    · rw [if_pos (show nI (bN a0 a1 k) = 0 by rw [c0]; rfl), if_pos c0]
      exact ih n (k + 1) met (by omega) g2 (by omega)
    · rw [if_neg (nI_ne0 (by omega) (by omega)), if_neg c0]
      by_cases c1 : met = sL (k_title i)
      · rw [if_pos (nI_le (by omega) (by omega)), c1, Nat.sub_self, decide_eq_false]
        intro z
        have z' : ([] : List Nat) = bN a0 a1 k :: flt a0 a1 (k + 1) d := z
        exact List.cons_ne_nil _ _ z'.symm
      · obtain ⟨t1, t2⟩ := zt_st2 i hi met (by omega)
        obtain ⟨u1, u2⟩ := zt_tt i hi met (by omega)
        rw [if_neg (nI_ge (show met < sL (k_title i) by omega) (by omega)), t1, Option.bind_some, u1]
        obtain ⟨m, hm⟩ : ∃ m, sL (k_title i) - met = m + 1 := ⟨sL (k_title i) - met - 1, by omega⟩
        rw [hm]
        show _ = some (decide ((sC (k_title i) met).toNatClampNeg :: tT (k_title i) (met + 1) m = bN a0 a1 k :: flt a0 a1 (k + 1) d))
        by_cases c2 : (sC (k_title i) met).toNatClampNeg = bN a0 a1 k
        · rw [if_pos (by rw [c2]), c2]
          refine (ih n (k + 1) (met + 1) (by omega) (by omega) (by omega)).trans ?_
          rw [show sL (k_title i) - (met + 1) = m by omega]
          congr 1
          apply decide_eq_decide.mpr
          constructor
          · intro z; rw [z]
          · intro z; exact (List.cons.inj z).2
        · rw [if_neg (fun z => c2 ((nI_eq (by omega) (by omega)).mp z)), decide_eq_false]
          intro z
          exact c2 (List.cons.inj z).1
theorem q_spells {i : Nat} (hi : i < 75) (a0 a1 : Int64) : f_C_spells (k_title i) a0 a1 = some (decide (tT (k_title i) 0 (sL (k_title i)) = flt a0 a1 0 16)) := by
  exact q_spl hi a0 a1 16 40 0 0 (by omega) (by omega) (by omega)
/-! numbers to the base of forty -/
def cd (b : Nat) : Nat := ((f_M_codeOf (nI b)).getD 0).toNatClampNeg
def ucd (c : Nat) : Nat := if c = 37 then 46 else if c ≤ 26 then 96 + c else 21 + c
set_option maxRecDepth 100000 in
theorem zt_cd : ∀ b, b < 256 → f_M_codeOf (nI b) = some (nI (cd b)) ∧ cd b < 40 ∧ (cd b = 0 ∨ ucd (cd b) = b) := by decide +kernel
def ev : List Nat → Nat
  | [] => 0
  | c :: r => 40 * ev r + c
theorem ev_inj : ∀ (l1 l2 : List Nat), (∀ c, c ∈ l1 → 0 < c ∧ c < 40) → (∀ c, c ∈ l2 → 0 < c ∧ c < 40) → ev l1 = ev l2 → l1 = l2 := by
  intro l1
  induction l1 with
  | nil =>
    intro l2 _ h2 h
    cases l2 with
    | nil => rfl
    | cons c r =>
      have := h2 c (List.mem_cons_self ..)
      have e : (0 : Nat) = 40 * ev r + c := h
      omega
  | cons c r ih =>
    intro l2 h1 h2 h
    have g1 := h1 c (List.mem_cons_self ..)
    cases l2 with
    | nil =>
      have e : 40 * ev r + c = 0 := h
      omega
    | cons c2 r2 =>
      have g2 := h2 c2 (List.mem_cons_self ..)
      have e : 40 * ev r + c = 40 * ev r2 + c2 := h
      have ec : c = c2 := by omega
      have er : ev r = ev r2 := by omega
      rw [ec, ih r2 (fun x hx => h1 x (List.mem_cons_of_mem _ hx)) (fun x hx => h2 x (List.mem_cons_of_mem _ hx)) er]
theorem ev_lt : ∀ (l : List Nat), (∀ c, c ∈ l → c < 40) → ev l < 40 ^ l.length := by
  intro l
  induction l with
  | nil => intro _; exact Nat.one_pos
  | cons c r ih =>
    intro h
    have g := h c (List.mem_cons_self ..)
    have i := ih (fun x hx => h x (List.mem_cons_of_mem _ hx))
    show 40 * ev r + c < 40 ^ (r.length + 1)
    rw [Nat.pow_succ]
    omega
/-- the codes of the bytes from k on, the last first, before those that are there -/
def mr (a0 a1 : Int64) : Nat → Nat → List Nat → Option (List Nat)
  | _, 0, R => some R
  | k, d + 1, R => if bN a0 a1 k = 0 then mr a0 a1 (k + 1) d R else if cd (bN a0 a1 k) = 0 then none else if R.length = 11 then none else mr a0 a1 (k + 1) d (cd (bN a0 a1 k) :: R)
def search (t0 : Int32) (p0 o0 : Nat → Int32) (s0 g0 : Int32) (a0 a1 : Int64) (th : Int32) (pf of : Nat → Int32) (sz bg : Int32) : Option (List Nat) → Option (Int32 × Int32 × (Nat → Int32) × (Nat → Int32) × Int32 × Int32)
  | none => some ((-1), th, pf, of, sz, bg)
  | some R => f_M_named_L104 t0 p0 o0 s0 g0 a0 a1 80 (lN (ev R)) (nI R.length) 0 th pf of sz bg
theorem q_nml (t0 : Int32) (p0 o0 : Nat → Int32) (s0 g0 : Int32) (a0 a1 : Int64) (th : Int32) (pf of : Nat → Int32) (sz bg : Int32) : ∀ (d n k : Nat) (R : List Nat), k + d = 16 → d < n → R.length ≤ 11 → f_M_named_L14 t0 p0 o0 s0 g0 a0 a1 n (lN (ev R)) (nI R.length) (nI k) th pf of sz bg = search t0 p0 o0 s0 g0 a0 a1 th pf of sz bg (mr a0 a1 k d R) := by
  intro d
  induction d with
  | zero =>
    intro n k R g1 g2 g3
    obtain ⟨n, rfl⟩ : ∃ k, n = k + 1 := ⟨n - 1, by omega⟩
    have : k = 16 := by omega
    subst this
    rw [f_M_named_L14, if_pos (show (16 : Int32) ≤ nI 16 by decide)]
    rfl
  | succ d ih =>
    intro n k R g1 g2 g3
    obtain ⟨n, rfl⟩ : ∃ k, n = k + 1 := ⟨n - 1, by omega⟩
    have step : f_M_named_L14 t0 p0 o0 s0 g0 a0 a1 (n + 1) (lN (ev R)) (nI R.length) (nI k) th pf of sz bg = f_M_named_L33 t0 p0 o0 s0 g0 a0 a1 (fun y0 y1 y2 y3 y4 y5 y6 y7 => f_M_named_L14 t0 p0 o0 s0 g0 a0 a1 n y0 y1 y2 y3 y4 y5 y6 y7) (lN (ev R)) (nI R.length) (nI k) (if k < 8 then a0 else a1) th pf of sz bg := by
      rw [f_M_named_L14, if_neg (show ¬ (16 : Int32) ≤ nI k from nI_ge (b := 16) (by omega) (by decide))]
      by_cases c : k < 8
      · rw [if_neg (show ¬ (8 : Int32) ≤ nI k from nI_ge (b := 8) c (by decide)), if_pos c]
      · rw [if_pos (show (8 : Int32) ≤ nI k from nI_le (a := 8) (by omega) (by omega)), if_neg c]
    rw [step]
    unfold f_M_named_L33
    obtain ⟨b1, b2⟩ := q_bN a0 a1 k
    obtain ⟨z1, z2, z3⟩ := zt_cd (bN a0 a1 k) b2
    rw [q_mbyte (show k < 16 by omega), z1, Option.bind_some, Option.bind_some, nI_1, nI_1]
    have eq : mr a0 a1 k (d + 1) R = if bN a0 a1 k = 0 then mr a0 a1 (k + 1) d R else if cd (bN a0 a1 k) = 0 then none else if R.length = 11 then none else mr a0 a1 (k + 1) d (cd (bN a0 a1 k) :: R) := rfl
    rw [eq]
    by_cases c0 : bN a0 a1 k = 0
    · rw [if_pos (show nI (bN a0 a1 k) = 0 by rw [c0]; rfl), if_pos c0]
      exact ih n (k + 1) R (by omega) (by omega) g3
    · rw [if_neg (nI_ne0 (by omega) (by omega)), if_neg c0]
      by_cases c1 : cd (bN a0 a1 k) = 0
      · rw [if_pos (show nI (cd (bN a0 a1 k)) = 0 by rw [c1]; rfl), if_pos c1]
        rfl
      · rw [if_neg (nI_ne0 (by omega) (by omega)), if_neg c1]
        by_cases c2 : R.length = 11
        · rw [if_pos (show nI R.length = 11 by rw [c2]; rfl), if_pos c2]
          rfl
        · rw [if_neg (show ¬ nI R.length = 11 from fun z => c2 ((nI_eq (b := 11) (by omega) (by omega)).mp z)), if_neg c2, show ((40 * lN (ev R)) + (nI (cd (bN a0 a1 k))).toInt64 : Int64) = lN (40 * ev R + cd (bN a0 a1 k)) by rw [nI_l (by omega), show (40 * lN (ev R) : Int64) = lN (40 * ev R) from lN_mul 40 _, lN_add]]
          exact ih n (k + 1) (cd (bN a0 a1 k) :: R) (by omega) (by omega) (by show R.length + 1 ≤ 11; omega)
theorem q_mr_some (a0 a1 : Int64) : ∀ (d k : Nat) (R Rf : List Nat), mr a0 a1 k d R = some Rf → R.length ≤ 11 → Rf = ((flt a0 a1 k d).map cd).reverse ++ R ∧ (∀ b, b ∈ flt a0 a1 k d → b < 256 ∧ ¬ cd b = 0) ∧ Rf.length ≤ 11 := by
  intro d
  induction d with
  | zero =>
    intro k R Rf h hl
    have : R = Rf := Option.some.inj h
    subst this
    exact ⟨rfl, fun b hb => absurd hb (List.not_mem_nil), hl⟩
  | succ d ih =>
    intro k R Rf h hl
    have eq : mr a0 a1 k (d + 1) R = if bN a0 a1 k = 0 then mr a0 a1 (k + 1) d R else if cd (bN a0 a1 k) = 0 then none else if R.length = 11 then none else mr a0 a1 (k + 1) d (cd (bN a0 a1 k) :: R) := rfl
    have eqf : flt a0 a1 k (d + 1) = if bN a0 a1 k = 0 then flt a0 a1 (k + 1) d else bN a0 a1 k :: flt a0 a1 (k + 1) d := rfl
    rw [eq] at h
    rw [eqf]
    by_cases c0 : bN a0 a1 k = 0
    · rw [if_pos c0] at h ⊢
      exact ih (k + 1) R Rf h hl
    · rw [if_neg c0] at h ⊢
      by_cases c1 : cd (bN a0 a1 k) = 0
      · rw [if_pos c1] at h; exact absurd h (by simp)
      · rw [if_neg c1] at h
        by_cases c2 : R.length = 11
        · rw [if_pos c2] at h; exact absurd h (by simp)
        · rw [if_neg c2] at h
          obtain ⟨e1, e2, e3⟩ := ih (k + 1) (cd (bN a0 a1 k) :: R) Rf h (by show R.length + 1 ≤ 11; omega)
          refine ⟨?_, ?_, e3⟩
          · rw [e1]; simp
          · intro b hb
            rcases List.mem_cons.mp hb with z | z
            · rw [z]; exact ⟨(q_bN a0 a1 k).2, c1⟩
            · exact e2 b z
theorem q_mr_none (a0 a1 : Int64) : ∀ (d k : Nat) (R : List Nat), mr a0 a1 k d R = none → R.length ≤ 11 → (∀ b, b ∈ flt a0 a1 k d → ¬ cd b = 0) → 11 < (flt a0 a1 k d).length + R.length := by
  intro d
  induction d with
  | zero => intro k R h; exact absurd h (by simp [mr])
  | succ d ih =>
    intro k R h hl hb
    have eq : mr a0 a1 k (d + 1) R = if bN a0 a1 k = 0 then mr a0 a1 (k + 1) d R else if cd (bN a0 a1 k) = 0 then none else if R.length = 11 then none else mr a0 a1 (k + 1) d (cd (bN a0 a1 k) :: R) := rfl
    have eqf : flt a0 a1 k (d + 1) = if bN a0 a1 k = 0 then flt a0 a1 (k + 1) d else bN a0 a1 k :: flt a0 a1 (k + 1) d := rfl
    rw [eq] at h
    rw [eqf] at hb ⊢
    by_cases c0 : bN a0 a1 k = 0
    · rw [if_pos c0] at h hb ⊢
      exact ih (k + 1) R h hl hb
    · rw [if_neg c0] at h hb ⊢
      have c1 := hb (bN a0 a1 k) (List.mem_cons_self ..)
      rw [if_neg c1] at h
      show 11 < (flt a0 a1 (k + 1) d).length + 1 + R.length
      by_cases c2 : R.length = 11
      · omega
      · rw [if_neg c2] at h
        have := ih (k + 1) (cd (bN a0 a1 k) :: R) h (by show R.length + 1 ≤ 11; omega) (fun b hb' => hb b (List.mem_cons_of_mem _ hb'))
        have e : (cd (bN a0 a1 k) :: R).length = R.length + 1 := rfl
        omega
set_option maxRecDepth 100000 in
theorem zt_nm2 : ∀ i, i < 75 → nm i = lN (ev ((tT (k_title i) 0 (sL (k_title i))).map cd).reverse) ∧ (tT (k_title i) 0 (sL (k_title i))).length ≤ 10 := by decide +kernel
set_option maxRecDepth 100000 in
theorem zt_nm3 : ∀ i, i < 75 → (tT (k_title i) 0 (sL (k_title i))).all (fun b => decide (b < 256) && !(decide (cd b = 0))) = true := by decide +kernel
theorem q_map_inj (l1 l2 : List Nat) (h1 : ∀ b, b ∈ l1 → b < 256 ∧ ¬ cd b = 0) (h2 : ∀ b, b ∈ l2 → b < 256 ∧ ¬ cd b = 0) (h : l1.map cd = l2.map cd) : l1 = l2 := by
  have u : ∀ l : List Nat, (∀ b, b ∈ l → b < 256 ∧ ¬ cd b = 0) → (l.map cd).map ucd = l := by
    intro l hl
    induction l with
    | nil => rfl
    | cons b r ih =>
      obtain ⟨g1, g2⟩ := hl b (List.mem_cons_self ..)
      have := (zt_cd b g1).2.2.resolve_left g2
      show ucd (cd b) :: (r.map cd).map ucd = b :: r
      rw [this, ih (fun x hx => hl x (List.mem_cons_of_mem _ hx))]
  rw [← u l1 h1, ← u l2 h2, h]
/-- a kind's name is the one asked for: in the one form and in the other -/
theorem q_nmeq {i : Nat} (hi : i < 75) {F : List Nat} {R : List Nat} (hR : R = (F.map cd).reverse) (hF : ∀ b, b ∈ F → b < 256 ∧ ¬ cd b = 0) (hl : R.length ≤ 11) : nm i = lN (ev R) ↔ tT (k_title i) 0 (sL (k_title i)) = F := by
  obtain ⟨n1, n2⟩ := zt_nm2 i hi
  have hT : ∀ b, b ∈ tT (k_title i) 0 (sL (k_title i)) → b < 256 ∧ ¬ cd b = 0 := by
    intro b hb
    have := List.all_eq_true.mp (zt_nm3 i hi) b hb
    simpa using this
  have dig : ∀ l : List Nat, (∀ b, b ∈ l → b < 256 ∧ ¬ cd b = 0) → ∀ c, c ∈ (l.map cd).reverse → 0 < c ∧ c < 40 := by
    intro l hl c hc
    obtain ⟨b, hb, rfl⟩ := List.mem_map.mp (List.mem_reverse.mp hc)
    obtain ⟨g1, g2⟩ := hl b hb
    exact ⟨by omega, (zt_cd b g1).2.1⟩
  constructor
  · intro h
    rw [n1] at h
    have b1 := ev_lt _ (fun c hc => (dig _ hT c hc).2)
    have b2 := ev_lt _ (fun c hc => (dig _ hF c hc).2)
    have lenT : ((tT (k_title i) 0 (sL (k_title i))).map cd).reverse.length ≤ 11 := by
      rw [List.length_reverse, List.length_map]; omega
    have p1 : 40 ^ ((tT (k_title i) 0 (sL (k_title i))).map cd).reverse.length ≤ 40 ^ 11 := Nat.pow_le_pow_right (by omega) lenT
    have p2 : 40 ^ (F.map cd).reverse.length ≤ 40 ^ 11 := Nat.pow_le_pow_right (by omega) (by rw [← hR]; exact hl)
    have p3 : (40 : Nat) ^ 11 < 2 ^ 63 := by decide
    rw [hR] at h
    have e := (pk_lEQ (by omega) (by omega)).mp h
    have := ev_inj _ _ (dig _ hT) (dig _ hF) e
    have := congrArg List.reverse this
    rw [List.reverse_reverse, List.reverse_reverse] at this
    exact q_map_inj _ _ hT hF this
  · intro h
    rw [n1, hR, h]
theorem q_nlk (t0 : Int32) (p0 o0 : Nat → Int32) (s0 g0 : Int32) (a0 a1 : Int64) (th : Int32) (pf of : Nat → Int32) (sz bg : Int32) {x5 : Int64} {x7 : Int32} (h : ∀ i, i < 75 → (nm i = x5 ↔ tT (k_title i) 0 (sL (k_title i)) = flt a0 a1 0 16)) : ∀ (d j n m : Nat), j + d = 75 → ∃ v, f_M_named_L104 t0 p0 o0 s0 g0 a0 a1 (n + d + 1) x5 x7 (nI j) th pf of sz bg = some (v, th, pf, of, sz, bg) ∧ f_C_named_L3 a0 a1 (m + d + 1) (nI j) = some v := by
  intro d
  induction d with
  | zero =>
    intro j n m hj
    have : j = 75 := by omega
    subst this
    refine ⟨-1, ?_, ?_⟩
    · rw [f_M_named_L104, if_pos (show (75 : Int32) ≤ nI 75 by decide)]
    · rw [f_C_named_L3, if_pos (show (75 : Int32) ≤ nI 75 by decide)]
  | succ d ih =>
    intro j n m hj
    have hj75 : j < 75 := by omega
    show ∃ v, f_M_named_L104 t0 p0 o0 s0 g0 a0 a1 ((n + d + 1) + 1) x5 x7 (nI j) th pf of sz bg = some (v, th, pf, of, sz, bg) ∧ f_C_named_L3 a0 a1 ((m + d + 1) + 1) (nI j) = some v
    rw [f_M_named_L104, if_neg (show ¬ (75 : Int32) ≤ nI j from nI_ge (b := 75) hj75 (by decide)), (zt_ab2 j hj75).1, Option.bind_some, f_C_named_L3, if_neg (show ¬ (75 : Int32) ≤ nI j from nI_ge (b := 75) hj75 (by decide)), if_neg (nI_in (N := 75) hj75 (by omega)), nI_clamp (by omega), q_spells hj75, Option.bind_some, nI_1]
    by_cases c : tT (k_title j) 0 (sL (k_title j)) = flt a0 a1 0 16
    · rw [if_pos ((lg_cmp_eq _ _).mpr ((h j hj75).mpr c)), decide_eq_true c, if_neg n_t]
      exact ⟨nI j, rfl, rfl⟩
    · rw [if_neg (fun z => c ((h j hj75).mp ((lg_cmp_eq _ _).mp z))), decide_eq_false c, if_pos n_f]
      exact ih (j + 1) n m (by omega)
theorem q_nno (a0 a1 : Int64) (h : ∀ i, i < 75 → ¬ tT (k_title i) 0 (sL (k_title i)) = flt a0 a1 0 16) : ∀ (d j m : Nat), j + d = 75 → f_C_named_L3 a0 a1 (m + d + 1) (nI j) = some (-1) := by
  intro d
  induction d with
  | zero =>
    intro j m hj
    have : j = 75 := by omega
    subst this
    rw [f_C_named_L3, if_pos (show (75 : Int32) ≤ nI 75 by decide)]
  | succ d ih =>
    intro j m hj
    have hj75 : j < 75 := by omega
    show f_C_named_L3 a0 a1 ((m + d + 1) + 1) (nI j) = some (-1)
    rw [f_C_named_L3, if_neg (show ¬ (75 : Int32) ≤ nI j from nI_ge (b := 75) hj75 (by decide)), if_neg (nI_in (N := 75) hj75 (by omega)), nI_clamp (by omega), q_spells hj75, Option.bind_some, nI_1, decide_eq_false (h j hj75), if_pos n_f]
    exact ih (j + 1) m (by omega)
theorem q_named (th : Int32) (pf of : Nat → Int32) (sz bg : Int32) (a0 a1 : Int64) : ∃ v, f_M_named th pf of sz bg a0 a1 = some (v, 0, pf, of, sz, bg) ∧ f_C_named a0 a1 = some v := by
  have e : f_M_named th pf of sz bg a0 a1 = search th pf of sz bg a0 a1 0 pf of sz bg (mr a0 a1 0 16 []) := q_nml th pf of sz bg a0 a1 0 pf of sz bg 16 80 0 [] (by omega) (by omega) (by show 0 ≤ 11; omega)
  rw [e]
  cases hm : mr a0 a1 0 16 [] with
  | none =>
    refine ⟨-1, rfl, ?_⟩
    refine q_nno a0 a1 ?_ 75 0 4 (by omega)
    intro i hi z
    have hT : ∀ b, b ∈ flt a0 a1 0 16 → ¬ cd b = 0 := by
      intro b hb
      rw [← z] at hb
      have := List.all_eq_true.mp (zt_nm3 i hi) b hb
      simp at this
      exact this.2
    have := q_mr_none a0 a1 16 0 [] hm (by show 0 ≤ 11; omega) hT
    have l := (zt_nm2 i hi).2
    rw [z] at l
    have e0 : ([] : List Nat).length = 0 := rfl
    omega
  | some R =>
    obtain ⟨e1, e2, e3⟩ := q_mr_some a0 a1 16 0 [] R hm (by show 0 ≤ 11; omega)
    rw [List.append_nil] at e1
    exact q_nlk th pf of sz bg a0 a1 0 pf of sz bg (x5 := lN (ev R)) (x7 := nI R.length) (fun i hi => q_nmeq hi e1 e2 e3) 75 0 4 4 (by omega)
