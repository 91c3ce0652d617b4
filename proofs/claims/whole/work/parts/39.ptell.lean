/-! the texts: what each writer appends -/
def ap (f : Nat → Int32) (N : Nat) : List Int32 → (Nat → Int32)
  | [] => f
  | x :: l => ap (upd f N x) (N + 1) l
theorem ap_app (l1 l2 : List Int32) : ∀ (f : Nat → Int32) (N : Nat), ap f N (l1 ++ l2) = ap (ap f N l1) (N + l1.length) l2 := by
  induction l1 with
  | nil => intro f N; rfl
  | cons x l ih =>
    intro f N
    show ap (upd f N x) (N + 1) (l ++ l2) = ap (ap (upd f N x) (N + 1) l) (N + (l.length + 1)) l2
    rw [ih, show N + 1 + l.length = N + (l.length + 1) by omega]
theorem ap_eq : ∀ (l : List Int32) (f g : Nat → Int32) (N : Nat), (∀ j, j < N → f j = g j) → ∀ j, j < N + l.length → ap f N l j = ap g N l j := by
  intro l
  induction l with
  | nil => intro f g N h j hj; exact h j hj
  | cons x l ih =>
    intro f g N h j hj
    refine ih (upd f N x) (upd g N x) (N + 1) ?_ j (by have : (x :: l).length = l.length + 1 := rfl; omega)
    intro j hj
    unfold upd
    by_cases c : j = N
    · rw [if_pos c, if_pos c]
    · rw [if_neg c, if_neg c]; exact h j (by omega)
abbrev cOp : Type := (Nat → Int32) → Int32 → Option ((Nat → Int32) × Int32)
abbrev mOp : Type := Int32 → (Nat → Int32) → (Nat → Int32) → Int32 → Int32 → Option (Int32 × (Nat → Int32) × (Nat → Int32) × Int32 × Int32)
def cW (op : cOp) (l : List Int32) : Prop := ∀ (f : Nat → Int32) (N : Nat), N + l.length ≤ 48 → op f (nI N) = some (ap f N l, nI (N + l.length))
def mX (pf : Nat → Int32) (op : mOp) (l : List Int32) (b0 b1 : Int32) : Prop := ∀ (th : Int32) (of : Nat → Int32) (N : Nat), N + l.length ≤ 80 → op th pf of (nI N) b0 = some (th, pf, ap of N l, nI (N + l.length), b1)
theorem cW_seq {o1 o2 : cOp} {l1 l2 : List Int32} (h1 : cW o1 l1) (h2 : cW o2 l2) : cW (fun f n => (o1 f n).bind fun r => o2 r.1 r.2) (l1 ++ l2) := by
  intro f N h
  rw [List.length_append] at h ⊢
  show (o1 f (nI N)).bind (fun r => o2 r.1 r.2) = _
  rw [h1 f N (by omega), Option.bind_some]
  show o2 (ap f N l1) (nI (N + l1.length)) = _
  rw [h2 _ _ (by omega), ap_app, Nat.add_assoc]
theorem mX_seq {pf : Nat → Int32} {o1 o2 : mOp} {l1 l2 : List Int32} {b0 b1 b2 : Int32} (h1 : mX pf o1 l1 b0 b1) (h2 : mX pf o2 l2 b1 b2) : mX pf (fun th pf of sz bg => (o1 th pf of sz bg).bind fun r => o2 r.1 r.2.1 r.2.2.1 r.2.2.2.1 r.2.2.2.2) (l1 ++ l2) b0 b2 := by
  intro th of N h
  rw [List.length_append] at h ⊢
  show (o1 th pf of (nI N) b0).bind (fun r => o2 r.1 r.2.1 r.2.2.1 r.2.2.2.1 r.2.2.2.2) = _
  rw [h1 th of N (by omega), Option.bind_some]
  show o2 th pf (ap of N l1) (nI (N + l1.length)) b1 = _
  rw [h2 _ _ _ (by omega), ap_app, Nat.add_assoc]
theorem cW_id : cW (fun f n => some (f, n)) [] := fun _ _ _ => rfl
theorem mX_id {pf : Nat → Int32} {b : Int32} : mX pf (fun th pf of sz bg => some (th, pf, of, sz, bg)) [] b b := fun _ _ _ _ => rfl
theorem cW_tl {o1 : cOp} {l1 : List Int32} (h1 : cW o1 l1) : cW (fun f n => (o1 f n).bind fun r => some (r.1, r.2)) l1 := by
  have := cW_seq h1 cW_id
  rw [List.append_nil] at this
  exact this
theorem mX_tl {pf : Nat → Int32} {o1 : mOp} {l1 : List Int32} {b0 b1 : Int32} (h1 : mX pf o1 l1 b0 b1) : mX pf (fun th pf of sz bg => (o1 th pf of sz bg).bind fun r => some (r.1, r.2.1, r.2.2.1, r.2.2.2.1, r.2.2.2.2)) l1 b0 b1 := by
  have := mX_seq h1 mX_id
  rw [List.append_nil] at this
  exact this
theorem q_write {N : Nat} (hN : N < 48) (f : Nat → Int32) (x : Int32) : f_C_write f (nI N) x = some (upd f N (vp_nar .char x), nI (N + 1)) := by
  unfold f_C_write
  rw [if_neg (nI_pos (by omega)), if_neg (show ¬ (48 : Int32) ≤ nI N from nI_ge (b := 48) hN (by decide)), if_neg (nI_in (N := 48) hN (by omega)), nI_clamp (by omega), nI_1]
theorem q_say {N : Nat} (hN : N < 80) (th : Int32) (pf of : Nat → Int32) (bg x : Int32) : f_M_say th pf of (nI N) bg x = some (th, pf, upd of N x, nI (N + 1), bg) := by
  unfold f_M_say
  rw [if_neg (nI_in (N := 80) hN (by omega)), nI_clamp (by omega), nI_1]
theorem cW_wr {x : Int32} (h : vp_nar .char x = x) : cW (fun f n => f_C_write f n x) [x] := by
  intro f N hN
  have h1 : N + 1 ≤ 48 := hN
  show f_C_write f (nI N) x = _
  rw [q_write (by omega), h]; rfl
theorem mX_say {pf : Nat → Int32} {b : Int32} (x : Int32) : mX pf (fun th pf of sz bg => f_M_say th pf of sz bg x) [x] b b := by
  intro th of N hN
  have h1 : N + 1 ≤ 80 := hN
  show f_M_say th pf of (nI N) b x = _
  rw [q_say (by omega)]; rfl
/-! names -/
def dvm (x : Int64) : Nat → Int64
  | 0 => x
  | d + 1 => dvm (x / 40) d
def nch (x : Int64) : Int32 := if ((x - x / 40 * 40).toInt32) = 37 then 46 else if ((x - x / 40 * 40).toInt32) ≤ 26 then ((97 + ((x - x / 40 * 40).toInt32)) - 1) else ((48 + ((x - x / 40 * 40).toInt32)) - 27)
def nmT (a0 : Int64) (X : Nat) : Nat → Nat → List Int32
  | _, 0 => []
  | q, d + 1 => nch (dvm a0 (X - (q + 1))) :: nmT a0 X (q + 1) d
theorem nmT_len (a0 : Int64) (X : Nat) : ∀ d q, (nmT a0 X q d).length = d := by
  intro d
  induction d with
  | zero => intro q; rfl
  | succ d ih => intro q; show (nmT a0 X (q + 1) d).length + 1 = d + 1; rw [ih]
theorem q_sn23 (t0 : Int32) (p0 o0 : Nat → Int32) (s0 g0 : Int32) (a0 : Int64) (k8 : Int32 → Int32 → Int32 → (Nat → Int32) → (Nat → Int32) → Int32 → Int32 → Option (Int32 × (Nat → Int32) × (Nat → Int32) × Int32 × Int32)) (x4 th : Int32) (pf : Nat → Int32) (bg : Int32) {X N : Nat} (hX : X < 2 ^ 31) (hN : N < 80) : ∀ (d n Y : Nat) (x5 : Int64) (of : Nat → Int32), Y + d = X → d < n → f_M_sayName_L23 t0 p0 o0 s0 g0 a0 k8 n (nI X) x4 x5 (nI Y) th pf of (nI N) bg = k8 (nI X) (x4 + 1) th pf (upd of N (nch (dvm x5 d))) (nI (N + 1)) bg := by
  intro d
  induction d with
  | zero =>
    intro n Y x5 of h1 h2
    obtain ⟨n, rfl⟩ : ∃ k, n = k + 1 := ⟨n - 1, by omega⟩
    have : Y = X := by omega
    subst this
    rw [f_M_sayName_L23, if_pos (nI_le (Nat.le_refl _) hX), q_say hN, q_say hN, q_say hN, Option.bind_some, Option.bind_some, Option.bind_some]
    show _ = k8 (nI Y) (x4 + 1) th pf (upd of N (nch x5)) (nI (N + 1)) bg
    unfold nch
    by_cases c1 : ((x5 - x5 / 40 * 40).toInt32) = 37
    · rw [if_pos c1, if_pos c1]
    · rw [if_neg c1, if_neg c1]
      by_cases c2 : ((x5 - x5 / 40 * 40).toInt32) ≤ 26
      · rw [if_pos c2, if_pos c2]
      · rw [if_neg c2, if_neg c2]
  | succ d ih =>
    intro n Y x5 of h1 h2
    obtain ⟨n, rfl⟩ : ∃ k, n = k + 1 := ⟨n - 1, by omega⟩
    rw [f_M_sayName_L23, if_neg (nI_ge (show Y < X by omega) hX), nI_1]
    exact ih n (Y + 1) (x5 / 40) of (by omega) (by omega)
theorem q_sn8 (t0 : Int32) (p0 o0 : Nat → Int32) (s0 g0 : Int32) (a0 : Int64) (th : Int32) (pf : Nat → Int32) (bg : Int32) {X : Nat} (hX : X ≤ 70) : ∀ (d n q N : Nat) (of : Nat → Int32), q + d = X → d < n → N + d ≤ 80 → f_M_sayName_L8 t0 p0 o0 s0 g0 a0 n (nI X) (nI q) th pf of (nI N) bg = some (th, pf, ap of N (nmT a0 X q d), nI (N + d), bg) := by
  intro d
  induction d with
  | zero =>
    intro n q N of h1 h2 h3
    obtain ⟨n, rfl⟩ : ∃ k, n = k + 1 := ⟨n - 1, by omega⟩
    have : q = X := by omega
    subst this
    rw [f_M_sayName_L8, if_pos (nI_le (Nat.le_refl _) (by omega))]; rfl
  | succ d ih =>
    intro n q N of h1 h2 h3
    obtain ⟨n, rfl⟩ : ∃ k, n = k + 1 := ⟨n - 1, by omega⟩
    rw [f_M_sayName_L8, if_neg (nI_ge (show q < X by omega) (by omega)), nI_1, q_sn23 t0 p0 o0 s0 g0 a0 _ (nI q) th pf bg (X := X) (N := N) (by omega) (by omega) (X - (q + 1)) 80 (q + 1) a0 of (by omega) (by omega), nI_1, ih n (q + 1) (N + 1) _ (by omega) (by omega) (by omega), show N + 1 + d = N + (d + 1) by omega]
    rfl
theorem mX_name {pf : Nat → Int32} {b : Int32} {a0 : Int64} {X : Nat} (hX : X ≤ 70) (h : f_M_lettersOf a0 = some (nI X)) : mX pf (fun th pf of sz bg => f_M_sayName th pf of sz bg a0) (nmT a0 X 0 X) b b := by
  intro th of N hN
  rw [nmT_len] at hN ⊢
  show f_M_sayName th pf of (nI N) b a0 = _
  unfold f_M_sayName
  rw [h, Option.bind_some]
  exact q_sn8 th pf of (nI N) b a0 th pf b hX X 80 0 N of (by omega) (by omega) hN
/-! strings of the class -/
def stT (j : Nat) : Nat → Nat → List Int32
  | _, 0 => []
  | k, d + 1 => sC j k :: stT j (k + 1) d
theorem stT_len (j : Nat) : ∀ d k, (stT j k d).length = d := by
  intro d
  induction d with
  | zero => intro q; rfl
  | succ d ih => intro q; show (stT j (q + 1) d).length + 1 = d + 1; rw [ih]
theorem cW_str {j : Nat} (h1 : f_S_length j = some (nI (sL j))) (h2 : sL j < 40) (h3 : ∀ k, k < sL j → f_S_charAt j (nI k) = some (sC j k) ∧ vp_nar .char (sC j k) = sC j k) : cW (fun f n => f_C_writeString f n j) (stT j 0 (sL j)) := by
  have core : ∀ (f0 : Nat → Int32) (n0 : Int32) (d n k : Nat) (f : Nat → Int32) (N : Nat), k + d = sL j → d < n → N + d ≤ 48 → f_C_writeString_L2 f0 n0 j n (nI k) f (nI N) = some (ap f N (stT j k d), nI (N + d)) := by
    intro f0 n0 d
    induction d with
    | zero =>
      intro n k f N g1 g2 g3
      obtain ⟨n, rfl⟩ : ∃ k, n = k + 1 := ⟨n - 1, by omega⟩
      rw [f_C_writeString_L2, h1, Option.bind_some, if_pos (nI_le (by omega) (by omega))]; rfl
    | succ d ih =>
      intro n k f N g1 g2 g3
      obtain ⟨n, rfl⟩ : ∃ k, n = k + 1 := ⟨n - 1, by omega⟩
      obtain ⟨c1, c2⟩ := h3 k (by omega)
      rw [f_C_writeString_L2, h1, Option.bind_some, if_neg (nI_ge (show k < sL j by omega) (by omega)), c1, Option.bind_some, q_write (by omega), Option.bind_some, c2, nI_1]
      dsimp only
      rw [ih n (k + 1) _ (N + 1) (by omega) (by omega) (by omega), show N + 1 + d = N + (d + 1) by omega]
      rfl
  intro f N hN
  rw [stT_len] at hN ⊢
  exact core f (nI N) (sL j) 40 0 f N (by omega) (by omega) hN
set_option maxRecDepth 100000 in
theorem zt_st1 : ∀ i, i < 75 → f_S_length (k_title i) = some (nI (sL (k_title i))) ∧ sL (k_title i) ≤ 10 := by decide +kernel
set_option maxRecDepth 100000 in
theorem zt_st2 : ∀ i, i < 75 → ∀ k, k < sL (k_title i) → f_S_charAt (k_title i) (nI k) = some (sC (k_title i) k) ∧ vp_nar .char (sC (k_title i) k) = sC (k_title i) k := by decide +kernel
set_option maxRecDepth 100000 in
theorem zt_st3 : ∀ j, j < 6 → ¬ j = 3 → f_S_length j = some (nI (sL j)) ∧ sL j < 40 := by decide +kernel
set_option maxRecDepth 100000 in
theorem zt_st4 : ∀ j, j < 6 → ¬ j = 3 → ∀ k, k < sL j → f_S_charAt j (nI k) = some (sC j k) ∧ vp_nar .char (sC j k) = sC j k := by decide +kernel
theorem cW_s {j : Nat} (hj : j < 6) (h3 : ¬ j = 3) : cW (fun f n => f_C_writeString f n j) (stT j 0 (sL j)) := cW_str (zt_st3 j hj h3).1 (zt_st3 j hj h3).2 (zt_st4 j hj h3)
theorem cW_t {i : Nat} (hi : i < 75) : cW (fun f n => f_C_writeString f n (k_title i)) (stT (k_title i) 0 (sL (k_title i))) := cW_str (zt_st1 i hi).1 (by have := (zt_st1 i hi).2; omega) (zt_st2 i hi)
set_option maxRecDepth 100000 in
theorem zt_nmT : ∀ i, i < 75 → nmT (nm i) (sL (k_title i)) 0 (sL (k_title i)) = stT (k_title i) 0 (sL (k_title i)) := by decide +kernel
/-! registers -/
def rgT : Nat → Nat → List Int32
  | _, 0 => []
  | k, d + 1 => if sC 6 k = 32 then rgT (k + 1) d else sC 6 k :: rgT (k + 1) d
set_option maxRecDepth 100000 in
theorem zt_rg1 : ∀ k, k < 128 → f_S_charAt 6 (nI k) = some (sC 6 k) ∧ vp_nar .char (sC 6 k) = sC 6 k := by decide +kernel
theorem zt_rg0 : f_S_length 6 = some (nI 128) := by decide +kernel
theorem cW_reg {m : Nat} (hm : m < 32) : cW (fun f n => f_C_writeRegister f n (nI m)) (rgT (m * 4) 4) := by
  have core : ∀ (f0 : Nat → Int32) (n0 a0 : Int32) (d n k : Nat) (f : Nat → Int32) (N : Nat), k + d = m * 4 + 4 → d < n → N + (rgT k d).length ≤ 48 → f_C_writeRegister_L6 f0 n0 a0 n (nI (m * 4)) (nI k) f (nI N) = some (ap f N (rgT k d), nI (N + (rgT k d).length)) := by
    intro f0 n0 a0 d
    have e4 : (nI (m * 4) + 4 : Int32) = nI (m * 4 + 4) := nI_add _ 4
    induction d with
    | zero =>
      intro n k f N g1 g2 g3
      obtain ⟨n, rfl⟩ : ∃ k, n = k + 1 := ⟨n - 1, by omega⟩
      rw [f_C_writeRegister_L6, e4, if_pos (nI_le (by omega) (by omega))]; rfl
    | succ d ih =>
      intro n k f N g1 g2 g3
      obtain ⟨n, rfl⟩ : ∃ k, n = k + 1 := ⟨n - 1, by omega⟩
      obtain ⟨c1, c2⟩ := zt_rg1 k (by omega)
      have eq : rgT k (d + 1) = if sC 6 k = 32 then rgT (k + 1) d else sC 6 k :: rgT (k + 1) d := rfl
      rw [eq] at g3 ⊢
      rw [f_C_writeRegister_L6, e4, if_neg (nI_ge (show k < m * 4 + 4 by omega) (by omega)), if_neg (nI_pos (by omega)), zt_rg0, Option.bind_some, if_neg (nI_ge (show k < 128 by omega) (by omega)), c1, Option.bind_some, Option.bind_some, nI_1]
      by_cases c : sC 6 k = 32
      · rw [if_pos c] at g3 ⊢
        rw [if_pos c]
        exact ih n (k + 1) f N (by omega) (by omega) g3
      · rw [if_neg c] at g3 ⊢
        have g4 : N + ((rgT (k + 1) d).length + 1) ≤ 48 := g3
        rw [if_neg c, q_write (by omega), Option.bind_some, c2]
        dsimp only
        rw [ih n (k + 1) _ (N + 1) (by omega) (by omega) (by omega)]
        show some (ap _ _ _, nI (N + 1 + (rgT (k + 1) d).length)) = some (ap _ _ _, nI (N + ((rgT (k + 1) d).length + 1)))
        rw [show N + 1 + (rgT (k + 1) d).length = N + ((rgT (k + 1) d).length + 1) by omega]
        rfl
  intro f N hN
  show f_C_writeRegister f (nI N) (nI m) = _
  unfold f_C_writeRegister
  rw [show (nI m * 4 : Int32) = nI (m * 4) from pk_mul m 4]
  exact core f (nI N) (nI m) 4 40 (m * 4) f N (by omega) (by omega) hN
def rgn (m : Nat) : Int64 := (f_M_registerOf (nI m)).getD 0
set_option maxRecDepth 100000 in
theorem zt_rg2 : ∀ m, m < 32 → f_M_registerOf (nI m) = some (rgn m) ∧ f_M_lettersOf (rgn m) = some (nI (rgT (m * 4) 4).length) ∧ (rgT (m * 4) 4).length ≤ 4 := by decide +kernel
set_option maxRecDepth 100000 in
theorem zt_rg3 : ∀ m, m < 32 → nmT (rgn m) (rgT (m * 4) 4).length 0 (rgT (m * 4) 4).length = rgT (m * 4) 4 := by decide +kernel
/-! decimals -/
def dcT (a : Nat) : Nat → List Int32
  | 0 => []
  | k + 1 => if 10 ^ k ≤ a ∨ k = 0 then nI (48 + a / 10 ^ k % 10) :: dcT a k else dcT a k
def mdT (a : Nat) : Nat → List Int32
  | 0 => []
  | k + 1 => nI (48 + a / 10 ^ k % 10) :: mdT a k
theorem mdT_len (a : Nat) : ∀ k, (mdT a k).length = k := by
  intro k
  induction k with
  | zero => rfl
  | succ k ih => show (mdT a k).length + 1 = k + 1; rw [ih]
theorem zt_ten : ∀ k, k < 4 → 10 ^ (k + 1) / 10 = 10 ^ k ∧ 0 < 10 ^ k ∧ 10 ^ k ≤ 1000 ∧ (10 ^ k = 1 ↔ k = 0) := by decide
theorem zt_dig : ∀ r, r < 10 → vp_nar .char (ju_i2c (nI (48 + r))) = nI (48 + r) := by decide +kernel
theorem q_dC {a : Nat} (ha : a ≤ 9999) (f0 : Nat → Int32) (n0 a0 : Int32) : ∀ (k n : Nat) (f : Nat → Int32) (N : Nat), k ≤ 4 → k < n → N + (dcT a k).length ≤ 48 → f_C_writeDecimal_L25 f0 n0 a0 n (nI a) (nI (10 ^ k / 10)) f (nI N) = some (ap f N (dcT a k), nI (N + (dcT a k).length)) := by
  intro k
  induction k with
  | zero =>
    intro n f N g1 g2 g3
    obtain ⟨n, rfl⟩ : ∃ k, n = k + 1 := ⟨n - 1, by omega⟩
    rw [f_C_writeDecimal_L25, if_pos (show nI (10 ^ 0 / 10) ≤ 0 by decide)]; rfl
  | succ k ih =>
    intro n f N g1 g2 g3
    obtain ⟨n, rfl⟩ : ∃ k, n = k + 1 := ⟨n - 1, by omega⟩
    obtain ⟨t1, t2, t3, t4⟩ := zt_ten k (by omega)
    have eq : dcT a (k + 1) = if 10 ^ k ≤ a ∨ k = 0 then nI (48 + a / 10 ^ k % 10) :: dcT a k else dcT a k := rfl
    rw [eq] at g3 ⊢
    rw [f_C_writeDecimal_L25, t1, if_neg (nI_nle t2 (by omega))]
    have nx : (nI (10 ^ k) / 10 : Int32) = nI (10 ^ k / 10) := pk_div (d := 10) (by omega) (by decide) (by decide)
    have wr : (10 ^ k ≤ a ∨ k = 0) → f_C_writeDecimal_L39 f0 n0 a0 (fun y0 y1 y2 y3 => f_C_writeDecimal_L25 f0 n0 a0 n y0 y1 y2 y3) (nI a) (nI (10 ^ k)) f (nI N) = some (ap f N (nI (48 + a / 10 ^ k % 10) :: dcT a k), nI (N + (nI (48 + a / 10 ^ k % 10) :: dcT a k).length)) := by
      intro hc
      rw [if_pos hc] at g3
      have g4 : N + ((dcT a k).length + 1) ≤ 48 := g3
      unfold f_C_writeDecimal_L39
      rw [if_neg (nI_ne0 t2 (by omega)), show (nI a / nI (10 ^ k) : Int32) = nI (a / 10 ^ k) from pk_div (by omega) t2 (by omega), show (nI (a / 10 ^ k) - nI (a / 10 ^ k) / 10 * 10 : Int32) = nI (a / 10 ^ k % 10) from pk_rem (d := 10) (by have := Nat.div_le_self a (10 ^ k); omega) (by decide) (by decide), show (48 + nI (a / 10 ^ k % 10) : Int32) = nI (48 + a / 10 ^ k % 10) from nI_add 48 _, q_write (by omega), Option.bind_some, zt_dig _ (by omega), nx]
      dsimp only
      rw [ih n _ (N + 1) (by omega) (by omega) (by omega)]
      show some (ap _ _ _, nI (N + 1 + (dcT a k).length)) = some (ap _ _ _, nI (N + ((dcT a k).length + 1)))
      rw [show N + 1 + (dcT a k).length = N + ((dcT a k).length + 1) by omega]
      rfl
    by_cases c1 : 10 ^ k ≤ a
    · rw [if_pos (nI_le c1 (by omega)), if_pos (Or.inl c1)]
      exact wr (Or.inl c1)
    · rw [if_neg (nI_ge (show a < 10 ^ k by omega) (by omega))]
      by_cases c2 : k = 0
      · rw [if_pos (show nI (10 ^ k) = 1 by rw [c2]; rfl), if_pos (Or.inr c2)]
        exact wr (Or.inr c2)
      · rw [if_neg (show ¬ nI (10 ^ k) = 1 from fun z => c2 (t4.mp ((nI_eq (b := 1) (by omega) (by omega)).mp z))), nx]
        have nc : ¬ (10 ^ k ≤ a ∨ k = 0) := fun z => z.elim c1 c2
        rw [if_neg nc] at g3 ⊢
        exact ih n f N (by omega) (by omega) g3
theorem q_dM {a : Nat} (ha : a ≤ 9999) (t0 : Int32) (p0 o0 : Nat → Int32) (s0 g0 a0 th : Int32) (pf : Nat → Int32) (bg : Int32) : ∀ (k n : Nat) (of : Nat → Int32) (N : Nat), k ≤ 4 → k < n → N + k ≤ 80 → f_M_sayDecimal_L48 t0 p0 o0 s0 g0 a0 n (lN a) (lN (10 ^ k / 10)) th pf of (nI N) bg = some (th, pf, ap of N (mdT a k), nI (N + k), bg) := by
  intro k
  induction k with
  | zero =>
    intro n of N g1 g2 g3
    obtain ⟨n, rfl⟩ : ∃ k, n = k + 1 := ⟨n - 1, by omega⟩
    rw [f_M_sayDecimal_L48, if_pos (show lg_cmp (lN (10 ^ 0 / 10)) 0 ≤ 0 by decide)]; rfl
  | succ k ih =>
    intro n of N g1 g2 g3
    obtain ⟨n, rfl⟩ : ∃ k, n = k + 1 := ⟨n - 1, by omega⟩
    obtain ⟨t1, t2, t3, t4⟩ := zt_ten k (by omega)
    have hdv := Nat.div_le_self a (10 ^ k)
    have n0 : ¬ lN (10 ^ k) = 0 := fun z => by have := (lN_eq (b := 0) (by omega) (by omega)).mp z; omega
    rw [f_M_sayDecimal_L48, t1, if_neg (show ¬ lg_cmp (lN (10 ^ k)) 0 ≤ 0 from fun z => by have := (lN_le (b := 0) (by omega) (by omega)).mp ((lg_cmp_le _ _).mp z); omega), if_neg n0, show (lN a / lN (10 ^ k) : Int64) = lN (a / 10 ^ k) from pk_lDiv (by omega) t2 (by omega), show (lN (a / 10 ^ k) - lN (a / 10 ^ k) / 10 * 10 : Int64) = lN (a / 10 ^ k % 10) from pk_lRem (b := 10) (by omega) (by decide) (by decide), lN_i, show (48 + nI (a / 10 ^ k % 10) : Int32) = nI (48 + a / 10 ^ k % 10) from nI_add 48 _, q_say (by omega), Option.bind_some, show (lN (10 ^ k) / 10 : Int64) = lN (10 ^ k / 10) from pk_lDiv (b := 10) (by omega) (by decide) (by decide)]
    dsimp only
    rw [ih n _ (N + 1) (by omega) (by omega) (by omega), show N + 1 + k = N + (k + 1) by omega]
    rfl
def nd (a : Nat) : Nat := if a < 10 then 1 else if a < 100 then 2 else if a < 1000 then 3 else 4
theorem q_nd {a : Nat} (ha : a ≤ 9999) : mdT a (nd a) = dcT a 4 := by
  unfold nd
  by_cases c1 : a < 10
  · rw [if_pos c1]; simp [mdT, dcT, show ¬ 1000 ≤ a by omega, show ¬ 100 ≤ a by omega, show ¬ 10 ≤ a by omega]
  · by_cases c2 : a < 100
    · rw [if_neg c1, if_pos c2]; simp [mdT, dcT, show ¬ 1000 ≤ a by omega, show ¬ 100 ≤ a by omega, show 10 ≤ a by omega]
    · by_cases c3 : a < 1000
      · rw [if_neg c1, if_neg c2, if_pos c3]; simp [mdT, dcT, show ¬ 1000 ≤ a by omega, show 100 ≤ a by omega, show 10 ≤ a by omega]
      · rw [if_neg c1, if_neg c2, if_neg c3]; simp [mdT, dcT, show 1000 ≤ a by omega, show 100 ≤ a by omega, show 10 ≤ a by omega]
theorem q_d26 {a : Nat} (ha : a ≤ 9999) (t0 : Int32) (p0 o0 : Nat → Int32) (s0 g0 a0 th : Int32) (pf : Nat → Int32) (bg : Int32) (n : Nat) (of : Nat → Int32) (sz : Int32) {p : Nat} (h0 : 0 < p) (hp : p ≤ 1000) : f_M_sayDecimal_L26 t0 p0 o0 s0 g0 a0 (n + 1) (lN a) (lN p) th pf of sz bg = if a / p ≤ 9 then f_M_sayDecimal_L48 t0 p0 o0 s0 g0 a0 80 (lN a) (lN p) th pf of sz bg else f_M_sayDecimal_L26 t0 p0 o0 s0 g0 a0 n (lN a) (lN (10 * p)) th pf of sz bg := by
  have hdv := Nat.div_le_self a p
  rw [f_M_sayDecimal_L26, if_neg (show ¬ lN p = 0 from fun z => by have := (lN_eq (b := 0) (by omega) (by omega)).mp z; omega), show (lN a / lN p : Int64) = lN (a / p) from pk_lDiv (by omega) h0 (by omega), show (10 * lN p : Int64) = lN (10 * p) from lN_mul 10 p]
  have e : lg_cmp (lN (a / p)) 9 ≤ 0 ↔ a / p ≤ 9 := (lg_cmp_le _ _).trans (lN_le (b := 9) (by omega) (by omega))
  by_cases c : a / p ≤ 9
  · rw [if_pos c, if_pos (e.mpr c)]
  · rw [if_neg c, if_neg (fun z => c (e.mp z))]
theorem q_dMs {a : Nat} (ha : a ≤ 9999) (t0 : Int32) (p0 o0 : Nat → Int32) (s0 g0 a0 th : Int32) (pf : Nat → Int32) (bg : Int32) (of : Nat → Int32) {N : Nat} (hN : N + (dcT a 4).length ≤ 80) : f_M_sayDecimal_L26 t0 p0 o0 s0 g0 a0 80 (lN a) 1 th pf of (nI N) bg = some (th, pf, ap of N (dcT a 4), nI (N + (dcT a 4).length), bg) := by
  rw [← q_nd ha, mdT_len] at hN ⊢
  have s1 : f_M_sayDecimal_L26 t0 p0 o0 s0 g0 a0 80 (lN a) 1 th pf of (nI N) bg = if a / 1 ≤ 9 then f_M_sayDecimal_L48 t0 p0 o0 s0 g0 a0 80 (lN a) (lN 1) th pf of (nI N) bg else f_M_sayDecimal_L26 t0 p0 o0 s0 g0 a0 79 (lN a) (lN (10 * 1)) th pf of (nI N) bg := q_d26 ha t0 p0 o0 s0 g0 a0 th pf bg 79 of (nI N) (p := 1) (by omega) (by omega)
  have s2 : f_M_sayDecimal_L26 t0 p0 o0 s0 g0 a0 79 (lN a) (lN (10 * 1)) th pf of (nI N) bg = if a / 10 ≤ 9 then f_M_sayDecimal_L48 t0 p0 o0 s0 g0 a0 80 (lN a) (lN 10) th pf of (nI N) bg else f_M_sayDecimal_L26 t0 p0 o0 s0 g0 a0 78 (lN a) (lN (10 * 10)) th pf of (nI N) bg := q_d26 ha t0 p0 o0 s0 g0 a0 th pf bg 78 of (nI N) (p := 10) (by omega) (by omega)
  have s3 : f_M_sayDecimal_L26 t0 p0 o0 s0 g0 a0 78 (lN a) (lN (10 * 10)) th pf of (nI N) bg = if a / 100 ≤ 9 then f_M_sayDecimal_L48 t0 p0 o0 s0 g0 a0 80 (lN a) (lN 100) th pf of (nI N) bg else f_M_sayDecimal_L26 t0 p0 o0 s0 g0 a0 77 (lN a) (lN (10 * 100)) th pf of (nI N) bg := q_d26 ha t0 p0 o0 s0 g0 a0 th pf bg 77 of (nI N) (p := 100) (by omega) (by omega)
  have s4 : f_M_sayDecimal_L26 t0 p0 o0 s0 g0 a0 77 (lN a) (lN (10 * 100)) th pf of (nI N) bg = if a / 1000 ≤ 9 then f_M_sayDecimal_L48 t0 p0 o0 s0 g0 a0 80 (lN a) (lN 1000) th pf of (nI N) bg else f_M_sayDecimal_L26 t0 p0 o0 s0 g0 a0 76 (lN a) (lN (10 * 1000)) th pf of (nI N) bg := q_d26 ha t0 p0 o0 s0 g0 a0 th pf bg 76 of (nI N) (p := 1000) (by omega) (by omega)
  unfold nd at hN ⊢
  by_cases c1 : a < 10
  · rw [if_pos c1] at hN ⊢
    rw [s1, if_pos (by omega)]
    exact q_dM ha t0 p0 o0 s0 g0 a0 th pf bg 1 80 of N (by omega) (by omega) hN
  · rw [if_neg c1] at hN ⊢
    rw [s1, if_neg (by omega), s2]
    by_cases c2 : a < 100
    · rw [if_pos c2] at hN ⊢
      rw [if_pos (by omega)]
      exact q_dM ha t0 p0 o0 s0 g0 a0 th pf bg 2 80 of N (by omega) (by omega) hN
    · rw [if_neg c2] at hN ⊢
      rw [if_neg (by omega), s3]
      by_cases c3 : a < 1000
      · rw [if_pos c3] at hN ⊢
        rw [if_pos (by omega)]
        exact q_dM ha t0 p0 o0 s0 g0 a0 th pf bg 3 80 of N (by omega) (by omega) hN
      · rw [if_neg c3] at hN ⊢
        rw [if_neg (by omega), s4, if_pos (by omega)]
        exact q_dM ha t0 p0 o0 s0 g0 a0 th pf bg 4 80 of N (by omega) (by omega) hN
def dcL (v : Int32) : List Int32 := if 0 ≤ v.toInt then dcT v.toInt.toNat 4 else 45 :: dcT (-v.toInt).toNat 4
theorem q_neg {v : Int32} (h1 : -2048 ≤ v.toInt) (h2 : v.toInt < 0) : -v = nI (-v.toInt).toNat ∧ -v.toInt64 = lN (-v.toInt).toNat := by
  constructor
  · apply Int32.toInt_inj.mp
    rw [nI_toInt (by omega), Int32.toInt_neg]
    simp only [Int.bmod]; split <;> omega
  · apply Int64.toInt_inj.mp
    rw [lN_toInt (by omega), Int64.toInt_neg, Int32.toInt_toInt64]
    simp only [Int.bmod]; split <;> omega
theorem cW_dec {v : Int32} (h1 : -2048 ≤ v.toInt) (h2 : v.toInt ≤ 2047) : cW (fun f n => f_C_writeDecimal f n v) (dcL v) := by
  intro f N hN
  show f_C_writeDecimal f (nI N) v = _
  unfold dcL at hN ⊢
  unfold f_C_writeDecimal
  by_cases c : 0 ≤ v.toInt
  · have cv : (0 : Int32) ≤ v := Int32.le_iff_toInt_le.mpr (by rw [show (0 : Int32).toInt = 0 from by decide]; exact c)
    have ev : v = nI v.toInt.toNat := Int32.toInt_inj.mp (by rw [nI_toInt (by omega)]; omega)
    rw [if_pos c] at hN ⊢
    rw [if_pos cv]
    unfold f_C_writeDecimal_L10
    rw [if_pos cv]
    have := q_dC (a := v.toInt.toNat) (by omega) f (nI N) v 4 40 f N (by omega) (by omega) hN
    rw [← ev] at this
    exact this
  · have cv : ¬ (0 : Int32) ≤ v := fun z => c (by have := Int32.le_iff_toInt_le.mp z; rw [show (0 : Int32).toInt = 0 from by decide] at this; exact this)
    obtain ⟨e1, e2⟩ := q_neg h1 (by omega)
    rw [if_neg c] at hN ⊢
    have hN2 : N + ((dcT (-v.toInt).toNat 4).length + 1) ≤ 48 := hN
    rw [if_neg cv, q_write (by omega), Option.bind_some]
    dsimp only
    unfold f_C_writeDecimal_L10
    rw [if_neg cv, e1]
    have := q_dC (a := (-v.toInt).toNat) (by omega) f (nI N) v 4 40 (upd f N (vp_nar .char 45)) (N + 1) (by omega) (by omega) (by omega)
    refine this.trans ?_
    show some (ap _ _ _, nI (N + 1 + (dcT (-v.toInt).toNat 4).length)) = some (ap _ _ _, nI (N + ((dcT (-v.toInt).toNat 4).length + 1)))
    rw [show N + 1 + (dcT (-v.toInt).toNat 4).length = N + ((dcT (-v.toInt).toNat 4).length + 1) by omega]
    rfl
theorem mX_dec {pf : Nat → Int32} {b v : Int32} (h1 : -2048 ≤ v.toInt) (h2 : v.toInt ≤ 2047) : mX pf (fun th pf of sz bg => f_M_sayDecimal th pf of sz bg v) (dcL v) b b := by
  intro th of N hN
  show f_M_sayDecimal th pf of (nI N) b v = _
  unfold dcL at hN ⊢
  unfold f_M_sayDecimal
  by_cases c : 0 ≤ v.toInt
  · have cv : (0 : Int32) ≤ v := Int32.le_iff_toInt_le.mpr (by rw [show (0 : Int32).toInt = 0 from by decide]; exact c)
    have ev : v.toInt64 = lN v.toInt.toNat := Int64.toInt_inj.mp (by rw [lN_toInt (by omega), Int32.toInt_toInt64]; omega)
    rw [if_pos c] at hN ⊢
    rw [if_pos cv]
    unfold f_M_sayDecimal_L10
    rw [if_pos cv, ev]
    exact q_dMs (a := v.toInt.toNat) (by omega) th pf of (nI N) b v th pf b of hN
  · have cv : ¬ (0 : Int32) ≤ v := fun z => c (by have := Int32.le_iff_toInt_le.mp z; rw [show (0 : Int32).toInt = 0 from by decide] at this; exact this)
    obtain ⟨e1, e2⟩ := q_neg h1 (by omega)
    rw [if_neg c] at hN ⊢
    have hN2 : N + ((dcT (-v.toInt).toNat 4).length + 1) ≤ 80 := hN
    rw [if_neg cv, q_say (by omega), Option.bind_some]
    dsimp only
    unfold f_M_sayDecimal_L10
    rw [if_neg cv, e2]
    have := q_dMs (a := (-v.toInt).toNat) (by omega) th pf of (nI N) b v th pf b (upd of N 45) (N := N + 1) (by omega)
    refine this.trans ?_
    show some (th, pf, ap _ _ _, nI (N + 1 + (dcT (-v.toInt).toNat 4).length), b) = some (th, pf, ap _ _ _, nI (N + ((dcT (-v.toInt).toNat 4).length + 1)), b)
    rw [show N + 1 + (dcT (-v.toInt).toNat 4).length = N + ((dcT (-v.toInt).toNat 4).length + 1) by omega]
    rfl
theorem dcT_len (a : Nat) : ∀ k, (dcT a k).length ≤ k := by
  intro k
  induction k with
  | zero => exact Nat.le_refl 0
  | succ k ih =>
    have eq : dcT a (k + 1) = if 10 ^ k ≤ a ∨ k = 0 then nI (48 + a / 10 ^ k % 10) :: dcT a k else dcT a k := rfl
    rw [eq]
    split
    · show (dcT a k).length + 1 ≤ k + 1; omega
    · omega
theorem dcL_len (v : Int32) : (dcL v).length ≤ 5 := by
  unfold dcL
  split
  · have := dcT_len v.toInt.toNat 4; omega
  · have := dcT_len (-v.toInt).toNat 4
    show (dcT (-v.toInt).toNat 4).length + 1 ≤ 5; omega
/-! hexadecimals -/
def dg (v : Int32) (s : Nat) : Int32 := ju_ushr v (nI (4 * s)) &&& 15
def hch (d : Int32) : Int32 := if 10 ≤ d then (97 + d) - 10 else 48 + d
def hexL (v : Int32) (fl : Bool) : Nat → List Int32
  | 0 => []
  | s + 1 => if fl = true ∨ ¬ dg v s = 0 ∨ s = 0 then hch (dg v s) :: hexL v true s else hexL v false s
theorem hexL_len (v : Int32) : ∀ s fl, (hexL v fl s).length ≤ s := by
  intro s
  induction s with
  | zero => intro fl; exact Nat.le_refl 0
  | succ s ih =>
    intro fl
    have eq : hexL v fl (s + 1) = if fl = true ∨ ¬ dg v s = 0 ∨ s = 0 then hch (dg v s) :: hexL v true s else hexL v false s := rfl
    rw [eq]
    split
    · have := ih true; show (hexL v true s).length + 1 ≤ s + 1; omega
    · have := ih false; omega
theorem b_15 (i : Nat) : bt 15 i = decide (i < 4) := by
  rcases Nat.lt_or_ge i 32 with h | h
  · exact (by decide +kernel : ∀ i, i < 32 → bt 15 i = decide (i < 4)) i h
  · rw [b_big h, decide_eq_false (by omega)]
theorem b_dg {s : Nat} (hs : s < 8) (v : Int32) (e : Nat) : bt (dg v s) e = (bt v (4 * s + e) && decide (e < 4)) := by
  unfold dg
  rw [b_and, b_15, b_jush _ (by omega)]
def hZ (v : Int32) (s : Nat) : Prop := ∀ e, 4 * s ≤ e → e < 32 → bt v e = false
theorem q_ush0 {s : Nat} (hs : s < 8) (v : Int32) : ju_ushr v (nI (4 * s)) = 0 ↔ hZ v s := by
  constructor
  · intro h e h1 h2
    have : bt (ju_ushr v (nI (4 * s))) (e - 4 * s) = false := by rw [h, b_0]
    rw [b_jush _ (by omega), show 4 * s + (e - 4 * s) = e by omega] at this
    exact this
  · intro h
    apply b_ext
    intro i hi
    rw [b_jush _ (by omega), b_0]
    rcases Nat.lt_or_ge (4 * s + i) 32 with g | g
    · exact h _ (by omega) g
    · exact b_big g
theorem q_dg0 {s : Nat} (hs : s < 8) (v : Int32) : hZ v s ↔ (hZ v (s + 1) ∧ dg v s = 0) := by
  constructor
  · intro h
    refine ⟨fun e h1 h2 => h e (by omega) h2, ?_⟩
    apply b_ext
    intro i hi
    rw [b_dg hs, b_0]
    rcases Nat.lt_or_ge i 4 with g | g
    · rw [h _ (by omega) (by omega), Bool.false_and]
    · rw [decide_eq_false (by omega), Bool.and_false]
  · rintro ⟨h1, h2⟩ e g1 g2
    rcases Nat.lt_or_ge e (4 * (s + 1)) with g | g
    · have : bt (dg v s) (e - 4 * s) = false := by rw [h2, b_0]
      rw [b_dg hs, decide_eq_true (by omega), Bool.and_true, show 4 * s + (e - 4 * s) = e by omega] at this
      exact this
    · exact h1 e g g2
theorem q_dgN (v : Int32) (s : Nat) : ∃ m, m < 16 ∧ dg v s = nI m := pk_andE (ju_ushr v (nI (4 * s))) 4 (by decide)
set_option maxRecDepth 100000 in
theorem zt_hch : ∀ m, m < 16 → vp_nar .char (ju_i2c ((97 + nI m) - 10)) = (97 + nI m) - 10 ∧ vp_nar .char (ju_i2c (48 + nI m)) = 48 + nI m ∧ (nI m = 0 ↔ m = 0) ∧ (0 < nI m ↔ ¬ m = 0) := by decide +kernel
theorem zt_x4 : ∀ s, s < 8 → (nI (4 * (s + 1)) + (-4) : Int32) = nI (4 * s) ∧ (nI (4 * s) = 0 ↔ s = 0) := by decide +kernel
theorem q_hC (v : Int32) (f0 : Nat → Int32) (n0 : Int32) : ∀ (s n : Nat) (fl : Bool) (f : Nat → Int32) (N : Nat), s ≤ 8 → s < n → (s = 0 ∨ (fl = false ↔ hZ v s)) → N + (hexL v fl s).length ≤ 48 → f_C_writeHex_L9 f0 n0 v n (nI (4 * s) + (-4)) f (nI N) = some (ap f N (hexL v fl s), nI (N + (hexL v fl s).length)) := by
  intro s
  induction s with
  | zero =>
    intro n fl f N g1 g2 g3 g4
    obtain ⟨n, rfl⟩ : ∃ k, n = k + 1 := ⟨n - 1, by omega⟩
    rw [f_C_writeHex_L9, if_pos (show (nI (4 * 0) + (-4) : Int32) < 0 by decide)]; rfl
  | succ s ih =>
    intro n fl f N g1 g2 g3 g4
    obtain ⟨n, rfl⟩ : ∃ k, n = k + 1 := ⟨n - 1, by omega⟩
    obtain ⟨x1, x2⟩ := zt_x4 s (by omega)
    have hz : fl = false ↔ hZ v (s + 1) := g3.resolve_left (by omega)
    have eq : hexL v fl (s + 1) = if fl = true ∨ ¬ dg v s = 0 ∨ s = 0 then hch (dg v s) :: hexL v true s else hexL v false s := rfl
    rw [eq] at g4 ⊢
    rw [f_C_writeHex_L9, x1, if_neg (nI_pos (by omega))]
    have u0 := q_ush0 (show s < 8 by omega) v
    have d0 := q_dg0 (show s < 8 by omega) v
    have wr : (s = 0 ∨ ¬ hZ v s) → N + (hch (dg v s) :: hexL v true s).length ≤ 48 → f_C_writeHex_L23 f0 n0 v (fun y0 y1 y2 => f_C_writeHex_L9 f0 n0 v n y0 y1 y2) (nI (4 * s)) f (nI N) = some (ap f N (hch (dg v s) :: hexL v true s), nI (N + (hch (dg v s) :: hexL v true s).length)) := by
      intro hs hN
      have hN2 : N + ((hexL v true s).length + 1) ≤ 48 := hN
      obtain ⟨m, hm, em⟩ := q_dgN v s
      obtain ⟨c1, c2, c3, c4⟩ := zt_hch m hm
      have nxt : f_C_writeHex_L9 f0 n0 v n (nI (4 * s) + (-4)) (upd f N (hch (dg v s))) (nI (N + 1)) = some (ap f N (hch (dg v s) :: hexL v true s), nI (N + (hch (dg v s) :: hexL v true s).length)) := by
        rw [ih n true (upd f N (hch (dg v s))) (N + 1) (by omega) (by omega) (by
          rcases hs with z | z
          · exact Or.inl z
          · exact Or.inr ⟨fun y => Bool.noConfusion y, fun y => absurd y z⟩) (by omega)]
        show some (ap _ _ _, nI (N + 1 + (hexL v true s).length)) = some (ap _ _ _, nI (N + ((hexL v true s).length + 1)))
        rw [show N + 1 + (hexL v true s).length = N + ((hexL v true s).length + 1) by omega]
        rfl
      unfold f_C_writeHex_L23
      rw [show (ju_ushr v (nI (4 * s)) &&& 15) = nI m from em, q_write (by omega), q_write (by omega), Option.bind_some, Option.bind_some, c1, c2]
      rw [em] at nxt ⊢
      unfold hch at nxt ⊢
      by_cases c : (10 : Int32) ≤ nI m
      · rw [if_pos c] at nxt; rw [if_pos c, if_pos c]; exact nxt
      · rw [if_neg c] at nxt; rw [if_neg c, if_neg c]; exact nxt
    by_cases cz : hZ v s
    · have fl0 : fl = false := hz.mpr (d0.mp cz).1
      rw [if_pos (u0.mpr cz)]
      by_cases cs : s = 0
      · rw [if_pos (x2.mpr cs)]
        rw [if_pos (Or.inr (Or.inr cs))] at g4 ⊢
        exact wr (Or.inl cs) g4
      · rw [if_neg (fun z => cs (x2.mp z))]
        have nc : ¬ (fl = true ∨ ¬ dg v s = 0 ∨ s = 0) := by
          rintro (z | z | z)
          · rw [fl0] at z; exact Bool.noConfusion z
          · exact z (d0.mp cz).2
          · exact cs z
        rw [if_neg nc] at g4 ⊢
        exact ih n false f N (by omega) (by omega) (Or.inr ⟨fun _ => cz, fun _ => rfl⟩) g4
    · rw [if_neg (fun z => cz (u0.mp z))]
      have pc : fl = true ∨ ¬ dg v s = 0 ∨ s = 0 := by
        cases hf : fl with
        | true => exact Or.inl rfl
        | false => exact Or.inr (Or.inl (fun z => cz (d0.mpr ⟨hz.mp hf, z⟩)))
      rw [if_pos pc] at g4 ⊢
      exact wr (Or.inr cz) g4
theorem q_hM (v : Int32) (t0 : Int32) (p0 o0 : Nat → Int32) (s0 g0 th : Int32) (pf : Nat → Int32) (bg : Int32) : ∀ (s n : Nat) (fl : Bool) (of : Nat → Int32) (N : Nat), s ≤ 8 → s < n → N + (hexL v fl s).length ≤ 80 → f_M_sayHexadecimal_L17 t0 p0 o0 s0 g0 v n (bI fl) (nI (4 * s) + (-4)) th pf of (nI N) bg = some (th, pf, ap of N (hexL v fl s), nI (N + (hexL v fl s).length), bg) := by
  intro s
  induction s with
  | zero =>
    intro n fl of N g1 g2 g4
    obtain ⟨n, rfl⟩ : ∃ k, n = k + 1 := ⟨n - 1, by omega⟩
    rw [f_M_sayHexadecimal_L17, if_pos (show (nI (4 * 0) + (-4) : Int32) < 0 by decide)]; rfl
  | succ s ih =>
    intro n fl of N g1 g2 g4
    obtain ⟨n, rfl⟩ : ∃ k, n = k + 1 := ⟨n - 1, by omega⟩
    obtain ⟨x1, x2⟩ := zt_x4 s (by omega)
    have eq : hexL v fl (s + 1) = if fl = true ∨ ¬ dg v s = 0 ∨ s = 0 then hch (dg v s) :: hexL v true s else hexL v false s := rfl
    rw [eq] at g4 ⊢
    obtain ⟨m, hm, em⟩ := q_dgN v s
    obtain ⟨c1, c2, c3, c4⟩ := zt_hch m hm
    rw [f_M_sayHexadecimal_L17, x1, if_neg (nI_pos (by omega)), show (ju_ushr v (nI (4 * s)) &&& 15) = nI m from em]
    have wr : N + (hch (dg v s) :: hexL v true s).length ≤ 80 → f_M_sayHexadecimal_L42 t0 p0 o0 s0 g0 v (fun y0 y1 y2 y3 y4 y5 y6 => f_M_sayHexadecimal_L17 t0 p0 o0 s0 g0 v n y0 y1 y2 y3 y4 y5 y6) (bI fl) (nI (4 * s)) (nI m) th pf of (nI N) bg = some (th, pf, ap of N (hch (dg v s) :: hexL v true s), nI (N + (hch (dg v s) :: hexL v true s).length), bg) := by
      intro hN
      have hN2 : N + ((hexL v true s).length + 1) ≤ 80 := hN
      have nxt : f_M_sayHexadecimal_L17 t0 p0 o0 s0 g0 v n (bI true) (nI (4 * s) + (-4)) th pf (upd of N (hch (dg v s))) (nI (N + 1)) bg = some (th, pf, ap of N (hch (dg v s) :: hexL v true s), nI (N + (hch (dg v s) :: hexL v true s).length), bg) := by
        rw [ih n true (upd of N (hch (dg v s))) (N + 1) (by omega) (by omega) (by omega)]
        show some (th, pf, ap _ _ _, nI (N + 1 + (hexL v true s).length), bg) = some (th, pf, ap _ _ _, nI (N + ((hexL v true s).length + 1)), bg)
        rw [show N + 1 + (hexL v true s).length = N + ((hexL v true s).length + 1) by omega]
        rfl
      unfold f_M_sayHexadecimal_L42 f_M_sayHexadecimal_L47
      rw [if_neg (show ¬ (1 : Int32) = 0 by decide), q_say (by omega), q_say (by omega), Option.bind_some, Option.bind_some]
      rw [em] at nxt ⊢
      unfold hch at nxt ⊢
      by_cases c : (10 : Int32) ≤ nI m
      · rw [if_pos c] at nxt; rw [if_pos c, if_pos c]; exact nxt
      · rw [if_neg c] at nxt; rw [if_neg c, if_neg c]; exact nxt
    cases hf : fl with
    | true =>
      rw [hf] at wr g4
      rw [if_pos (Or.inl rfl)] at g4 ⊢
      rw [if_neg n_t]
      exact wr g4
    | false =>
      rw [hf] at wr g4
      rw [if_pos n_f]
      by_cases cm : m = 0
      · have d0 : dg v s = 0 := em.trans (c3.mpr cm)
        rw [if_neg (fun z => c4.mp z cm)]
        by_cases cs : s = 0
        · rw [if_pos (Or.inr (Or.inr cs))] at g4 ⊢
          rw [if_pos (x2.mpr cs)]
          exact wr g4
        · have nc : ¬ (false = true ∨ ¬ dg v s = 0 ∨ s = 0) := by
            rintro (z | z | z)
            · exact Bool.noConfusion z
            · exact z d0
            · exact cs z
          rw [if_neg nc] at g4 ⊢
          rw [if_neg (fun z => cs (x2.mp z))]
          unfold f_M_sayHexadecimal_L47
          rw [if_pos rfl]
          exact ih n false of N (by omega) (by omega) g4
      · rw [if_pos (Or.inr (Or.inl (fun z => cm (c3.mp (em.symm.trans z)))))] at g4 ⊢
        rw [if_pos (c4.mpr cm)]
        exact wr g4
def hxL (v : Int32) : List Int32 := [48, 120] ++ hexL v false 8
theorem hxL_len (v : Int32) : (hxL v).length ≤ 10 := by
  have := hexL_len v 8 false
  show (hexL v false 8).length + 1 + 1 ≤ 10; omega
theorem cW_hex (v : Int32) : cW (fun f n => f_C_writeHex f n v) (hxL v) := by
  have h1 : cW (fun f n => f_C_writeString f n 1) [48, 120] := cW_s (j := 1) (by omega) (by omega)
  have h2 : ∀ (f0 : Nat → Int32) (n0 : Int32), cW (fun f n => f_C_writeHex_L9 f0 n0 v 40 28 f n) (hexL v false 8) := by
    intro f0 n0 f N hN
    exact q_hC v f0 n0 8 40 false f N (by omega) (by omega) (Or.inr ⟨fun _ e g1 g2 => by omega, fun _ => rfl⟩) hN
  intro f N hN
  exact cW_seq h1 (h2 f (nI N)) f N hN
theorem mX_hex {pf : Nat → Int32} {b : Int32} (v : Int32) : mX pf (fun th pf of sz bg => f_M_sayHexadecimal th pf of sz bg v) (hxL v) b b := by
  intro th of N hN
  have h2 : mX pf (fun th' pf' of' sz' bg' => f_M_sayHexadecimal_L17 th pf of (nI N) b v 80 0 28 th' pf' of' sz' bg') (hexL v false 8) b b := by
    intro th' of' N' hN'
    exact q_hM v th pf of (nI N) b th' pf b 8 80 false of' N' (by omega) (by omega) hN'
  exact mX_seq (mX_say 48) (mX_seq (mX_say 120) h2) th of N hN
/-! operands -/
def rgL (x : Int32) : List Int32 := rgT (x.toNatClampNeg * 4) 4
def isR (x : Int32) : Prop := ∃ m, m < 32 ∧ x = nI m
theorem rgL_len {x : Int32} (h : isR x) : (rgL x).length ≤ 4 := by
  obtain ⟨m, hm, rfl⟩ := h
  unfold rgL
  rw [nI_clamp (by omega)]
  exact (zt_rg2 m hm).2.2
theorem cW_rg {x : Int32} (h : isR x) : cW (fun f n => f_C_writeRegister f n x) (rgL x) := by
  obtain ⟨m, hm, rfl⟩ := h
  unfold rgL
  rw [nI_clamp (by omega)]
  exact cW_reg hm
theorem mX_rgn {pf : Nat → Int32} {b x : Int32} (h : isR x) : mX pf (fun th pf of sz bg => (f_M_registerOf x).bind fun r => f_M_sayName th pf of sz bg r) (rgL x) b b := by
  obtain ⟨m, hm, rfl⟩ := h
  obtain ⟨e1, e2, e3⟩ := zt_rg2 m hm
  have := mX_name (pf := pf) (b := b) (X := (rgT (m * 4) 4).length) (by omega) e2
  rw [zt_rg3 m hm] at this
  unfold rgL
  rw [nI_clamp (by omega), e1]
  exact this
def sep (b : Int32) : List Int32 := if b = 0 then [32] else [44, 32]
theorem mX_ahead {pf : Nat → Int32} (b : Int32) : mX pf (fun th pf of sz bg => f_M_ahead th pf of sz bg) (sep b) b 1 := by
  have tl : ∀ b0 : Int32, mX pf (fun th pf of sz bg => f_M_ahead_L13 th pf of sz bg th pf of sz bg) [32] b0 1 := by
    intro b0 th of N hN
    have h1 : N + 1 ≤ 80 := hN
    show f_M_ahead_L13 th pf of (nI N) b0 th pf of (nI N) b0 = _
    unfold f_M_ahead_L13
    rw [q_say (by omega), Option.bind_some]; rfl
  intro th of N hN
  show f_M_ahead th pf of (nI N) b = _
  unfold f_M_ahead
  unfold sep at hN ⊢
  by_cases c : b = 0
  · rw [if_pos c] at hN ⊢
    rw [if_pos c]
    exact tl b th of N hN
  · rw [if_neg c] at hN ⊢
    rw [if_neg c]
    exact mX_seq (mX_say 44) (fun th' of' N' hN' => tl b th' of' N' hN') th of N hN
theorem mX_register {pf : Nat → Int32} {b x : Int32} (h : isR x) : mX pf (fun th pf of sz bg => f_M_register th pf of sz bg x) (sep b ++ rgL x) b 1 := by
  intro th of N hN
  have := mX_seq (mX_ahead b) (mX_tl (mX_rgn (pf := pf) (b := 1) h)) th of N hN
  refine Eq.trans ?_ this
  show f_M_register th pf of (nI N) b x = _
  unfold f_M_register
  congr 1
  funext r
  cases f_M_registerOf x <;> rfl
theorem mX_num {pf : Nat → Int32} {b : Int32} (h1 : -2048 ≤ (pf 3).toInt) (h2 : (pf 3).toInt ≤ 2047) : mX pf (fun th pf of sz bg => f_M_number th pf of sz bg) (sep b ++ dcL (pf 3)) b 1 := by
  intro th of N hN
  have hl := hN
  rw [List.length_append] at hl
  show f_M_number th pf of (nI N) b = _
  unfold f_M_number
  rw [show f_M_ahead th pf of (nI N) b = some (th, pf, ap of N (sep b), nI (N + (sep b).length), 1) from mX_ahead b th of N (by omega), Option.bind_some, if_neg n_p3, show (3 : Int32).toNatClampNeg = 3 from by decide]
  dsimp only
  rw [show f_M_sayDecimal th pf (ap of N (sep b)) (nI (N + (sep b).length)) 1 (pf 3) = _ from mX_dec h1 h2 th (ap of N (sep b)) (N + (sep b).length) (by omega), Option.bind_some, ap_app, List.length_append, Nat.add_assoc]
theorem mX_place {pf : Nat → Int32} {b : Int32} (pl : Int32) : mX pf (fun th pf of sz bg => f_M_place th pf of sz bg pl) (sep b ++ hxL (pl + pf 3)) b 1 := by
  intro th of N hN
  have hl := hN
  rw [List.length_append] at hl
  show f_M_place th pf of (nI N) b pl = _
  unfold f_M_place
  rw [show f_M_ahead th pf of (nI N) b = some (th, pf, ap of N (sep b), nI (N + (sep b).length), 1) from mX_ahead b th of N (by omega), Option.bind_some, if_neg n_p3, show (3 : Int32).toNatClampNeg = 3 from by decide]
  dsimp only
  rw [show f_M_sayHexadecimal th pf (ap of N (sep b)) (nI (N + (sep b).length)) 1 (pl + pf 3) = _ from mX_hex (pl + pf 3) th (ap of N (sep b)) (N + (sep b).length) (by omega), Option.bind_some, ap_app, List.length_append, Nat.add_assoc]
def mXX : mOp := fun th pf of sz bg => (f_M_ahead th pf of sz bg ).bind fun r_29 => if (3 : Int32) < 0 ∨ 4 ≤ (3 : Int32).toNatClampNeg then none else (f_M_sayHexadecimal r_29.1 r_29.2.1 r_29.2.2.1 r_29.2.2.2.1 r_29.2.2.2.2 (r_29.2.1 (3 : Int32).toNatClampNeg)).bind fun r_32 => some (r_32.1, r_32.2.1, r_32.2.2.1, r_32.2.2.2.1, r_32.2.2.2.2)
theorem mX_X {pf : Nat → Int32} {b : Int32} : mX pf mXX (sep b ++ hxL (pf 3)) b 1 := by
  intro th of N hN
  have hl := hN
  rw [List.length_append] at hl
  unfold mXX
  rw [show f_M_ahead th pf of (nI N) b = some (th, pf, ap of N (sep b), nI (N + (sep b).length), 1) from mX_ahead b th of N (by omega), Option.bind_some, if_neg n_p3, show (3 : Int32).toNatClampNeg = 3 from by decide]
  dsimp only
  rw [show f_M_sayHexadecimal th pf (ap of N (sep b)) (nI (N + (sep b).length)) 1 (pf 3) = _ from mX_hex (pf 3) th (ap of N (sep b)) (N + (sep b).length) (by omega), Option.bind_some, ap_app, List.length_append, Nat.add_assoc]
def ofL (v x : Int32) : List Int32 := dcL v ++ ([40] ++ (rgL x ++ [41]))
theorem ofL_len {v x : Int32} (h : isR x) : (ofL v x).length ≤ 11 := by
  have h1 := dcL_len v
  have h2 := rgL_len h
  unfold ofL
  simp only [List.length_append, List.length_cons, List.length_nil]
  omega
theorem mX_off {pf : Nat → Int32} {b x : Int32} (h1 : -2048 ≤ (pf 3).toInt) (h2 : (pf 3).toInt ≤ 2047) (hx : isR x) : mX pf (fun th pf of sz bg => f_M_offset th pf of sz bg x) (sep b ++ ofL (pf 3) x) b 1 := by
  have tl : mX pf (fun th pf of sz bg => (f_M_sayDecimal th pf of sz bg (pf 3)).bind fun r => (f_M_say r.1 r.2.1 r.2.2.1 r.2.2.2.1 r.2.2.2.2 40).bind fun r => ((f_M_registerOf x).bind fun q => f_M_sayName r.1 r.2.1 r.2.2.1 r.2.2.2.1 r.2.2.2.2 q).bind fun r => (f_M_say r.1 r.2.1 r.2.2.1 r.2.2.2.1 r.2.2.2.2 41).bind fun r => some (r.1, r.2.1, r.2.2.1, r.2.2.2.1, r.2.2.2.2)) (ofL (pf 3) x) 1 1 := by
    intro th of N hN
    exact mX_seq (mX_dec (pf := pf) (b := 1) h1 h2) (mX_seq (mX_say 40) (mX_seq (mX_rgn hx) (mX_tl (mX_say 41)))) th of N hN
  intro th of N hN
  have hl := hN
  rw [List.length_append] at hl
  show f_M_offset th pf of (nI N) b x = _
  unfold f_M_offset
  rw [show f_M_ahead th pf of (nI N) b = some (th, pf, ap of N (sep b), nI (N + (sep b).length), 1) from mX_ahead b th of N (by omega), Option.bind_some, if_neg n_p3, show (3 : Int32).toNatClampNeg = 3 from by decide]
  dsimp only
  rw [ap_app, List.length_append, ← Nat.add_assoc]
  refine Eq.trans ?_ (tl th (ap of N (sep b)) (N + (sep b).length) (by omega))
  dsimp only
  congr 1
  funext r
  congr 1
  funext r
  cases f_M_registerOf x <;> rfl
theorem mX_rq {pf : Nat → Int32} {b : Int32} {t : Nat} (h : isR (pf t)) : mX pf (fun th q of sz bg => f_M_register th q of sz bg (q t)) (sep b ++ rgL (pf t)) b 1 := fun th of N hN => mX_register h th of N hN
theorem mX_oq {pf : Nat → Int32} {b : Int32} {t : Nat} (h1 : -2048 ≤ (pf 3).toInt) (h2 : (pf 3).toInt ≤ 2047) (h : isR (pf t)) : mX pf (fun th q of sz bg => f_M_offset th q of sz bg (q t)) (sep b ++ ofL (pf 3) (pf t)) b 1 := fun th of N hN => mX_off h1 h2 h th of N hN
def oL (P : Nat → Int32) (pl c : Int32) : List Int32 := if c = 73 then dcL (P 3) else if c = 79 then ofL (P 3) (P 1) else if c = 80 then hxL (pl + P 3) else if c = 83 then ofL (P 3) 2 else if c = 97 then rgL (P 1) else if c = 98 then rgL (P 2) else if c = 100 then rgL (P 0) else if c = 115 then rgL 2 else hxL (P 3)
def okc (P : Nat → Int32) (c : Int32) : Prop := ((c = 73 ∨ c = 79 ∨ c = 83) → -2048 ≤ (P 3).toInt ∧ (P 3).toInt ≤ 2047) ∧ ((c = 79 ∨ c = 97) → isR (P 1)) ∧ (c = 98 → isR (P 2)) ∧ (c = 100 → isR (P 0))
theorem isR2 : isR 2 := ⟨2, by omega, rfl⟩
def oln (c : Int32) : Nat := if c = 73 then 5 else if c = 79 then 11 else if c = 80 then 10 else if c = 83 then 11 else if c = 97 then 4 else if c = 98 then 4 else if c = 100 then 4 else if c = 115 then 4 else 10
theorem oL_len {P : Nat → Int32} {pl c : Int32} (h : okc P c) : (oL P pl c).length ≤ oln c := by
  obtain ⟨o1, o2, o3, o4⟩ := h
  unfold oL oln
  by_cases c1 : c = 73
  · rw [if_pos c1, if_pos c1]; exact dcL_len _
  rw [if_neg c1, if_neg c1]
  by_cases c2 : c = 79
  · rw [if_pos c2, if_pos c2]; exact ofL_len (o2 (Or.inl c2))
  rw [if_neg c2, if_neg c2]
  by_cases c3 : c = 80
  · rw [if_pos c3, if_pos c3]; exact hxL_len _
  rw [if_neg c3, if_neg c3]
  by_cases c4 : c = 83
  · rw [if_pos c4, if_pos c4]; exact ofL_len isR2
  rw [if_neg c4, if_neg c4]
  by_cases c5 : c = 97
  · rw [if_pos c5, if_pos c5]; exact rgL_len (o2 (Or.inr c5))
  rw [if_neg c5, if_neg c5]
  by_cases c6 : c = 98
  · rw [if_pos c6, if_pos c6]; exact rgL_len (o3 c6)
  rw [if_neg c6, if_neg c6]
  by_cases c7 : c = 100
  · rw [if_pos c7, if_pos c7]; exact rgL_len (o4 c7)
  rw [if_neg c7, if_neg c7]
  by_cases c8 : c = 115
  · rw [if_pos c8, if_pos c8]; exact rgL_len isR2
  rw [if_neg c8, if_neg c8]; exact hxL_len _
theorem cW_off {v x : Int32} (h1 : -2048 ≤ v.toInt) (h2 : v.toInt ≤ 2047) (hx : isR x) : cW (fun f n => f_C_writeOffset f n v x) (ofL v x) := by
  intro f N hN
  exact cW_seq (cW_dec h1 h2) (cW_seq (cW_wr (x := 40) (by decide)) (cW_seq (cW_rg hx) (cW_tl (cW_wr (x := 41) (by decide))))) f N hN
theorem cW_op {i : Nat} {w : Int32} {P : Nat → Int32} (hd : dcd i w P) {pl c : Int32} (h : okc P c) : cW (fun f n => f_C_writeOperand f n c i w pl) (oL P pl c) := by
  obtain ⟨o1, o2, o3, o4⟩ := h
  intro f N hN
  show f_C_writeOperand f (nI N) c i w pl = _
  unfold f_C_writeOperand
  unfold oL at hN ⊢
  rw [hd.2, show f_K_register i w 1 = some (P 0) from hd.1 0 (by omega), show f_K_register i w 2 = some (P 1) from hd.1 1 (by omega), show f_K_register i w 4 = some (P 2) from hd.1 2 (by omega)]
  simp only [Option.bind_some]
  by_cases c1 : c = 73
  · rw [if_pos c1] at hN ⊢; rw [if_pos c1]; exact cW_tl (cW_dec (o1 (Or.inl c1)).1 (o1 (Or.inl c1)).2) f N hN
  rw [if_neg c1] at hN ⊢; rw [if_neg c1]
  by_cases c2 : c = 79
  · rw [if_pos c2] at hN ⊢; rw [if_pos c2]; exact cW_tl (cW_off (o1 (Or.inr (Or.inl c2))).1 (o1 (Or.inr (Or.inl c2))).2 (o2 (Or.inl c2))) f N hN
  rw [if_neg c2] at hN ⊢; rw [if_neg c2]
  by_cases c3 : c = 80
  · rw [if_pos c3] at hN ⊢; rw [if_pos c3]; exact cW_tl (cW_hex (pl + P 3)) f N hN
  rw [if_neg c3] at hN ⊢; rw [if_neg c3]
  by_cases c4 : c = 83
  · rw [if_pos c4] at hN ⊢; rw [if_pos c4]; exact cW_tl (cW_off (o1 (Or.inr (Or.inr c4))).1 (o1 (Or.inr (Or.inr c4))).2 isR2) f N hN
  rw [if_neg c4] at hN ⊢; rw [if_neg c4]
  by_cases c5 : c = 97
  · rw [if_pos c5] at hN ⊢; rw [if_pos c5]; exact cW_tl (cW_rg (o2 (Or.inr c5))) f N hN
  rw [if_neg c5] at hN ⊢; rw [if_neg c5]
  by_cases c6 : c = 98
  · rw [if_pos c6] at hN ⊢; rw [if_pos c6]; exact cW_tl (cW_rg (o3 c6)) f N hN
  rw [if_neg c6] at hN ⊢; rw [if_neg c6]
  by_cases c7 : c = 100
  · rw [if_pos c7] at hN ⊢; rw [if_pos c7]; exact cW_tl (cW_rg (o4 c7)) f N hN
  rw [if_neg c7] at hN ⊢; rw [if_neg c7]
  by_cases c8 : c = 115
  · rw [if_pos c8] at hN ⊢; rw [if_pos c8]; exact cW_tl (cW_rg isR2) f N hN
  rw [if_neg c8] at hN ⊢; rw [if_neg c8]
  exact cW_tl (cW_hex (P 3)) f N hN
/-! the whole text -/
def oc (p k : Nat) : Int32 := sC 3 (p * 3 + k)
def sepC (k : Nat) : List Int32 := if k = 0 then [32] else [44, 32]
def lgT (P : Nat → Int32) (pl : Int32) (p : Nat) : Nat → Nat → List Int32
  | _, 0 => []
  | k, d + 1 => if oc p k = 32 then lgT P pl p (k + 1) d else (sepC k ++ oL P pl (oc p k)) ++ lgT P pl p (k + 1) d
def pt (i : Nat) : Nat := (k_pattern i).toNatClampNeg
set_option maxRecDepth 100000 in
theorem zt_pat : ∀ i, i < 75 → k_pattern i = nI (pt i) ∧ pt i < 17 := by decide +kernel
set_option maxRecDepth 100000 in
theorem zt_oc : ∀ p, p < 17 → ∀ k, k < 3 → f_C_operandAt (nI (p * 3 + k)) = some (oc p k) := by decide +kernel
theorem cW_sep {k : Nat} : cW (fun f n => if nI k = 0 then f_C_writeString f n 4 else f_C_writeString f n 5) (if nI k = 0 then [32] else [44, 32]) := by
  intro f N hN
  by_cases c : nI k = 0
  · rw [if_pos c] at hN ⊢
    show (if nI k = 0 then f_C_writeString f (nI N) 4 else f_C_writeString f (nI N) 5) = _
    rw [if_pos c]
    exact cW_s (j := 4) (by omega) (by omega) f N hN
  · rw [if_neg c] at hN ⊢
    show (if nI k = 0 then f_C_writeString f (nI N) 4 else f_C_writeString f (nI N) 5) = _
    rw [if_neg c]
    exact cW_s (j := 5) (by omega) (by omega) f N hN
theorem q_sepC {k : Nat} (hk : k < 3) : (if nI k = 0 then [32] else [44, 32] : List Int32) = sepC k := by
  unfold sepC
  rcases (show k = 0 ∨ k = 1 ∨ k = 2 by omega) with e | e | e <;> subst e <;> decide
theorem q_leg {i : Nat} (hi : i < 75) {w pl : Int32} {P : Nat → Int32} (hd : dcd i w P) (hk : ∀ k, k < 3 → okc P (oc (pt i) k)) (f0 : Nat → Int32) (n0 : Int32) : ∀ (d n k : Nat) (f : Nat → Int32) (N : Nat), k + d = 3 → d < n → N + (lgT P pl (pt i) k d).length ≤ 48 → f_C_writeLegal_L11 f0 n0 i w pl n (nI k) f (nI N) = some (ap f N (lgT P pl (pt i) k d), nI (N + (lgT P pl (pt i) k d).length)) := by
  obtain ⟨p1, p2⟩ := zt_pat i hi
  intro d
  induction d with
  | zero =>
    intro n k f N g1 g2 g3
    obtain ⟨n, rfl⟩ : ∃ k, n = k + 1 := ⟨n - 1, by omega⟩
    have : k = 3 := by omega
    subst this
    rw [f_C_writeLegal_L11, if_pos (show (3 : Int32) ≤ nI 3 by decide)]; rfl
  | succ d ih =>
    intro n k f N g1 g2 g3
    obtain ⟨n, rfl⟩ : ∃ k, n = k + 1 := ⟨n - 1, by omega⟩
    have eq : lgT P pl (pt i) k (d + 1) = if oc (pt i) k = 32 then lgT P pl (pt i) (k + 1) d else (sepC k ++ oL P pl (oc (pt i) k)) ++ lgT P pl (pt i) (k + 1) d := rfl
    rw [eq] at g3 ⊢
    have ix : ((k_pattern i * 3) + nI k : Int32) = nI (pt i * 3 + k) := by
      rw [p1, show (nI (pt i) * 3 : Int32) = nI (pt i * 3) from pk_mul (pt i) 3]; exact nI_add _ _
    rw [f_C_writeLegal_L11, if_neg (show ¬ (3 : Int32) ≤ nI k from nI_ge (b := 3) (by omega) (by decide)), ix, zt_oc (pt i) p2 k (by omega), Option.bind_some, nI_1]
    by_cases c : oc (pt i) k = 32
    · rw [if_pos c] at g3 ⊢
      rw [if_pos c]
      exact ih n (k + 1) f N (by omega) (by omega) g3
    · rw [if_neg c] at g3 ⊢
      rw [if_neg c]
      have rest : cW (fun f n' => f_C_writeLegal_L11 f0 n0 i w pl n (nI (k + 1)) f n') (lgT P pl (pt i) (k + 1) d) := fun f' N' hN' => ih n (k + 1) f' N' (by omega) (by omega) hN'
      have all := cW_seq (cW_sep (k := k)) (cW_seq (cW_op (pl := pl) hd (hk k (by omega))) rest) f N
      rw [q_sepC (by omega), ← List.append_assoc] at all
      refine Eq.trans ?_ (all g3)
      by_cases c0 : nI k = 0
      · rw [if_pos c0]; dsimp only; rw [if_pos c0]
      · rw [if_neg c0]; dsimp only; rw [if_neg c0]
theorem m_pat_0 {pf : Nat → Int32} {pl : Int32} (hk : ∀ k, k < 3 → okc pf (oc 0 k)) : mX pf (fun th pf of sz bg => f_M_operands th pf of sz bg (nI 0) pl) (lgT pf pl 0 0 3) 0 0 := by
  have e1 : (nI 0 = 1) = False := eq_false (by decide)
  have e2 : (nI 0 = 2) = False := eq_false (by decide)
  have e3 : (nI 0 = 3) = False := eq_false (by decide)
  have e4 : (nI 0 = 4) = False := eq_false (by decide)
  have e5 : (nI 0 = 5) = False := eq_false (by decide)
  have e6 : (nI 0 = 6) = False := eq_false (by decide)
  have e7 : (nI 0 = 7) = False := eq_false (by decide)
  have e8 : (nI 0 = 8) = False := eq_false (by decide)
  have e9 : (nI 0 = 9) = False := eq_false (by decide)
  have e10 : (nI 0 = 10) = False := eq_false (by decide)
  have e11 : (nI 0 = 11) = False := eq_false (by decide)
  have e12 : (nI 0 = 12) = False := eq_false (by decide)
  have e13 : (nI 0 = 13) = False := eq_false (by decide)
  have e14 : (nI 0 = 14) = False := eq_false (by decide)
  have e15 : (nI 0 = 15) = False := eq_false (by decide)
  have e16 : (nI 0 = 16) = False := eq_false (by decide)
  have l0 : (nI 0 ≤ 0) = True := eq_true (by decide)
  have l4 : (nI 0 < 4) = True := eq_true (by decide)
  intro th of N hN
  refine Eq.trans ?_ (mX_id th of N hN)
  simp only [mXX, f_M_operands, f_M_operands_L9, f_M_operands_L45, f_M_operands_L50, f_M_operands_L65, f_M_operands_L92, f_M_operands_L102, f_M_operands_L129, f_M_operands_L139, f_M_operands_L151, f_M_operands_L156, f_M_operands_L166, f_M_operands_L176, f_M_operands_L188, f_M_operands_L193, f_M_operands_L216, f_M_operands_L220, f_M_operands_L243, f_M_operands_L248, e1, e2, e3, e4, e5, e6, e7, e8, e9, e10, e11, e12, e13, e14, e15, e16, l0, l4, eq_false n_p0, eq_false n_p1, eq_false n_p2, eq_false n_p3, cl0, cl1, cl2, cl3, nq0, nq1, nq2, nq3, i10, i00, ↓reduceIte]
theorem m_pat_1 {pf : Nat → Int32} {pl : Int32} (hk : ∀ k, k < 3 → okc pf (oc 1 k)) : mX pf (fun th pf of sz bg => f_M_operands th pf of sz bg (nI 1) pl) (lgT pf pl 1 0 3) 0 1 := by
  have e1 : (nI 1 = 1) = True := eq_true rfl
  have e2 : (nI 1 = 2) = False := eq_false (by decide)
  have e3 : (nI 1 = 3) = False := eq_false (by decide)
  have e4 : (nI 1 = 4) = False := eq_false (by decide)
  have e5 : (nI 1 = 5) = False := eq_false (by decide)
  have e6 : (nI 1 = 6) = False := eq_false (by decide)
  have e7 : (nI 1 = 7) = False := eq_false (by decide)
  have e8 : (nI 1 = 8) = False := eq_false (by decide)
  have e9 : (nI 1 = 9) = False := eq_false (by decide)
  have e10 : (nI 1 = 10) = False := eq_false (by decide)
  have e11 : (nI 1 = 11) = False := eq_false (by decide)
  have e12 : (nI 1 = 12) = False := eq_false (by decide)
  have e13 : (nI 1 = 13) = False := eq_false (by decide)
  have e14 : (nI 1 = 14) = False := eq_false (by decide)
  have e15 : (nI 1 = 15) = False := eq_false (by decide)
  have e16 : (nI 1 = 16) = False := eq_false (by decide)
  have l0 : (nI 1 ≤ 0) = False := eq_false (by decide)
  have l4 : (nI 1 < 4) = True := eq_true (by decide)
  intro th of N hN
  refine Eq.trans ?_ ((mX_seq (mX_rq (pf := pf) (b := 0) (t := 0) ((hk 0 (by omega)).2.2.2 (by decide))) (mX_seq (mX_rq (pf := pf) (b := 1) (t := 1) ((hk 1 (by omega)).2.1 (Or.inr (by decide)))) (mX_seq (mX_rq (pf := pf) (b := 1) (t := 2) ((hk 2 (by omega)).2.2.1 (by decide))) mX_id))) th of N hN)
  simp only [mXX, f_M_operands, f_M_operands_L9, f_M_operands_L45, f_M_operands_L50, f_M_operands_L65, f_M_operands_L92, f_M_operands_L102, f_M_operands_L129, f_M_operands_L139, f_M_operands_L151, f_M_operands_L156, f_M_operands_L166, f_M_operands_L176, f_M_operands_L188, f_M_operands_L193, f_M_operands_L216, f_M_operands_L220, f_M_operands_L243, f_M_operands_L248, e1, e2, e3, e4, e5, e6, e7, e8, e9, e10, e11, e12, e13, e14, e15, e16, l0, l4, eq_false n_p0, eq_false n_p1, eq_false n_p2, eq_false n_p3, cl0, cl1, cl2, cl3, nq0, nq1, nq2, nq3, i10, i00, ↓reduceIte]
theorem m_pat_2 {pf : Nat → Int32} {pl : Int32} (hk : ∀ k, k < 3 → okc pf (oc 2 k)) : mX pf (fun th pf of sz bg => f_M_operands th pf of sz bg (nI 2) pl) (lgT pf pl 2 0 3) 0 1 := by
  have e1 : (nI 2 = 1) = False := eq_false (by decide)
  have e2 : (nI 2 = 2) = True := eq_true rfl
  have e3 : (nI 2 = 3) = False := eq_false (by decide)
  have e4 : (nI 2 = 4) = False := eq_false (by decide)
  have e5 : (nI 2 = 5) = False := eq_false (by decide)
  have e6 : (nI 2 = 6) = False := eq_false (by decide)
  have e7 : (nI 2 = 7) = False := eq_false (by decide)
  have e8 : (nI 2 = 8) = False := eq_false (by decide)
  have e9 : (nI 2 = 9) = False := eq_false (by decide)
  have e10 : (nI 2 = 10) = False := eq_false (by decide)
  have e11 : (nI 2 = 11) = False := eq_false (by decide)
  have e12 : (nI 2 = 12) = False := eq_false (by decide)
  have e13 : (nI 2 = 13) = False := eq_false (by decide)
  have e14 : (nI 2 = 14) = False := eq_false (by decide)
  have e15 : (nI 2 = 15) = False := eq_false (by decide)
  have e16 : (nI 2 = 16) = False := eq_false (by decide)
  have l0 : (nI 2 ≤ 0) = False := eq_false (by decide)
  have l4 : (nI 2 < 4) = True := eq_true (by decide)
  intro th of N hN
  refine Eq.trans ?_ ((mX_seq (mX_rq (pf := pf) (b := 0) (t := 0) ((hk 0 (by omega)).2.2.2 (by decide))) (mX_seq (mX_rq (pf := pf) (b := 1) (t := 1) ((hk 1 (by omega)).2.1 (Or.inr (by decide)))) (mX_seq (mX_num (pf := pf) (b := 1) ((hk 2 (by omega)).1 (Or.inl (by decide))).1 ((hk 2 (by omega)).1 (Or.inl (by decide))).2) mX_id))) th of N hN)
  simp only [mXX, f_M_operands, f_M_operands_L9, f_M_operands_L45, f_M_operands_L50, f_M_operands_L65, f_M_operands_L92, f_M_operands_L102, f_M_operands_L129, f_M_operands_L139, f_M_operands_L151, f_M_operands_L156, f_M_operands_L166, f_M_operands_L176, f_M_operands_L188, f_M_operands_L193, f_M_operands_L216, f_M_operands_L220, f_M_operands_L243, f_M_operands_L248, e1, e2, e3, e4, e5, e6, e7, e8, e9, e10, e11, e12, e13, e14, e15, e16, l0, l4, eq_false n_p0, eq_false n_p1, eq_false n_p2, eq_false n_p3, cl0, cl1, cl2, cl3, nq0, nq1, nq2, nq3, i10, i00, ↓reduceIte]
theorem m_pat_3 {pf : Nat → Int32} {pl : Int32} (hk : ∀ k, k < 3 → okc pf (oc 3 k)) : mX pf (fun th pf of sz bg => f_M_operands th pf of sz bg (nI 3) pl) (lgT pf pl 3 0 3) 0 1 := by
  have e1 : (nI 3 = 1) = False := eq_false (by decide)
  have e2 : (nI 3 = 2) = False := eq_false (by decide)
  have e3 : (nI 3 = 3) = True := eq_true rfl
  have e4 : (nI 3 = 4) = False := eq_false (by decide)
  have e5 : (nI 3 = 5) = False := eq_false (by decide)
  have e6 : (nI 3 = 6) = False := eq_false (by decide)
  have e7 : (nI 3 = 7) = False := eq_false (by decide)
  have e8 : (nI 3 = 8) = False := eq_false (by decide)
  have e9 : (nI 3 = 9) = False := eq_false (by decide)
  have e10 : (nI 3 = 10) = False := eq_false (by decide)
  have e11 : (nI 3 = 11) = False := eq_false (by decide)
  have e12 : (nI 3 = 12) = False := eq_false (by decide)
  have e13 : (nI 3 = 13) = False := eq_false (by decide)
  have e14 : (nI 3 = 14) = False := eq_false (by decide)
  have e15 : (nI 3 = 15) = False := eq_false (by decide)
  have e16 : (nI 3 = 16) = False := eq_false (by decide)
  have l0 : (nI 3 ≤ 0) = False := eq_false (by decide)
  have l4 : (nI 3 < 4) = True := eq_true (by decide)
  intro th of N hN
  refine Eq.trans ?_ ((mX_seq (mX_rq (pf := pf) (b := 0) (t := 0) ((hk 0 (by omega)).2.2.2 (by decide))) (mX_seq (mX_oq (pf := pf) (b := 1) (t := 1) ((hk 1 (by omega)).1 (Or.inr (Or.inl (by decide)))).1 ((hk 1 (by omega)).1 (Or.inr (Or.inl (by decide)))).2 ((hk 1 (by omega)).2.1 (Or.inl (by decide)))) mX_id)) th of N hN)
  simp only [mXX, f_M_operands, f_M_operands_L9, f_M_operands_L45, f_M_operands_L50, f_M_operands_L65, f_M_operands_L92, f_M_operands_L102, f_M_operands_L129, f_M_operands_L139, f_M_operands_L151, f_M_operands_L156, f_M_operands_L166, f_M_operands_L176, f_M_operands_L188, f_M_operands_L193, f_M_operands_L216, f_M_operands_L220, f_M_operands_L243, f_M_operands_L248, e1, e2, e3, e4, e5, e6, e7, e8, e9, e10, e11, e12, e13, e14, e15, e16, l0, l4, eq_false n_p0, eq_false n_p1, eq_false n_p2, eq_false n_p3, cl0, cl1, cl2, cl3, nq0, nq1, nq2, nq3, i10, i00, ↓reduceIte]
theorem m_pat_4 {pf : Nat → Int32} {pl : Int32} (hk : ∀ k, k < 3 → okc pf (oc 4 k)) : mX pf (fun th pf of sz bg => f_M_operands th pf of sz bg (nI 4) pl) (lgT pf pl 4 0 3) 0 1 := by
  have e1 : (nI 4 = 1) = False := eq_false (by decide)
  have e2 : (nI 4 = 2) = False := eq_false (by decide)
  have e3 : (nI 4 = 3) = False := eq_false (by decide)
  have e4 : (nI 4 = 4) = True := eq_true rfl
  have e5 : (nI 4 = 5) = False := eq_false (by decide)
  have e6 : (nI 4 = 6) = False := eq_false (by decide)
  have e7 : (nI 4 = 7) = False := eq_false (by decide)
  have e8 : (nI 4 = 8) = False := eq_false (by decide)
  have e9 : (nI 4 = 9) = False := eq_false (by decide)
  have e10 : (nI 4 = 10) = False := eq_false (by decide)
  have e11 : (nI 4 = 11) = False := eq_false (by decide)
  have e12 : (nI 4 = 12) = False := eq_false (by decide)
  have e13 : (nI 4 = 13) = False := eq_false (by decide)
  have e14 : (nI 4 = 14) = False := eq_false (by decide)
  have e15 : (nI 4 = 15) = False := eq_false (by decide)
  have e16 : (nI 4 = 16) = False := eq_false (by decide)
  have l0 : (nI 4 ≤ 0) = False := eq_false (by decide)
  have l4 : (nI 4 < 4) = False := eq_false (by decide)
  intro th of N hN
  refine Eq.trans ?_ ((mX_seq (mX_rq (pf := pf) (b := 0) (t := 2) ((hk 0 (by omega)).2.2.1 (by decide))) (mX_seq (mX_oq (pf := pf) (b := 1) (t := 1) ((hk 1 (by omega)).1 (Or.inr (Or.inl (by decide)))).1 ((hk 1 (by omega)).1 (Or.inr (Or.inl (by decide)))).2 ((hk 1 (by omega)).2.1 (Or.inl (by decide)))) mX_id)) th of N hN)
  simp only [mXX, f_M_operands, f_M_operands_L9, f_M_operands_L45, f_M_operands_L50, f_M_operands_L65, f_M_operands_L92, f_M_operands_L102, f_M_operands_L129, f_M_operands_L139, f_M_operands_L151, f_M_operands_L156, f_M_operands_L166, f_M_operands_L176, f_M_operands_L188, f_M_operands_L193, f_M_operands_L216, f_M_operands_L220, f_M_operands_L243, f_M_operands_L248, e1, e2, e3, e4, e5, e6, e7, e8, e9, e10, e11, e12, e13, e14, e15, e16, l0, l4, eq_false n_p0, eq_false n_p1, eq_false n_p2, eq_false n_p3, cl0, cl1, cl2, cl3, nq0, nq1, nq2, nq3, i10, i00, ↓reduceIte]
theorem m_pat_5 {pf : Nat → Int32} {pl : Int32} (hk : ∀ k, k < 3 → okc pf (oc 5 k)) : mX pf (fun th pf of sz bg => f_M_operands th pf of sz bg (nI 5) pl) (lgT pf pl 5 0 3) 0 1 := by
  have e1 : (nI 5 = 1) = False := eq_false (by decide)
  have e2 : (nI 5 = 2) = False := eq_false (by decide)
  have e3 : (nI 5 = 3) = False := eq_false (by decide)
  have e4 : (nI 5 = 4) = False := eq_false (by decide)
  have e5 : (nI 5 = 5) = True := eq_true rfl
  have e6 : (nI 5 = 6) = False := eq_false (by decide)
  have e7 : (nI 5 = 7) = False := eq_false (by decide)
  have e8 : (nI 5 = 8) = False := eq_false (by decide)
  have e9 : (nI 5 = 9) = False := eq_false (by decide)
  have e10 : (nI 5 = 10) = False := eq_false (by decide)
  have e11 : (nI 5 = 11) = False := eq_false (by decide)
  have e12 : (nI 5 = 12) = False := eq_false (by decide)
  have e13 : (nI 5 = 13) = False := eq_false (by decide)
  have e14 : (nI 5 = 14) = False := eq_false (by decide)
  have e15 : (nI 5 = 15) = False := eq_false (by decide)
  have e16 : (nI 5 = 16) = False := eq_false (by decide)
  have l0 : (nI 5 ≤ 0) = False := eq_false (by decide)
  have l4 : (nI 5 < 4) = False := eq_false (by decide)
  intro th of N hN
  refine Eq.trans ?_ ((mX_seq (mX_rq (pf := pf) (b := 0) (t := 1) ((hk 0 (by omega)).2.1 (Or.inr (by decide)))) (mX_seq (mX_rq (pf := pf) (b := 1) (t := 2) ((hk 1 (by omega)).2.2.1 (by decide))) (mX_seq (mX_place (pf := pf) (b := 1) pl) mX_id))) th of N hN)
  simp only [mXX, f_M_operands, f_M_operands_L9, f_M_operands_L45, f_M_operands_L50, f_M_operands_L65, f_M_operands_L92, f_M_operands_L102, f_M_operands_L129, f_M_operands_L139, f_M_operands_L151, f_M_operands_L156, f_M_operands_L166, f_M_operands_L176, f_M_operands_L188, f_M_operands_L193, f_M_operands_L216, f_M_operands_L220, f_M_operands_L243, f_M_operands_L248, e1, e2, e3, e4, e5, e6, e7, e8, e9, e10, e11, e12, e13, e14, e15, e16, l0, l4, eq_false n_p0, eq_false n_p1, eq_false n_p2, eq_false n_p3, cl0, cl1, cl2, cl3, nq0, nq1, nq2, nq3, i10, i00, ↓reduceIte]
theorem m_pat_6 {pf : Nat → Int32} {pl : Int32} (hk : ∀ k, k < 3 → okc pf (oc 6 k)) : mX pf (fun th pf of sz bg => f_M_operands th pf of sz bg (nI 6) pl) (lgT pf pl 6 0 3) 0 1 := by
  have e : lgT pf pl 6 0 3 = ((sep 0 ++ oL pf pl (oc 6 0)) ++ (sep 1 ++ oL pf pl (oc 6 1))) := (by show _ ++ (_ ++ []) = _; rw [List.append_nil]; rfl)
  rw [e]
  have e1 : (nI 6 = 1) = False := eq_false (by decide)
  have e2 : (nI 6 = 2) = False := eq_false (by decide)
  have e3 : (nI 6 = 3) = False := eq_false (by decide)
  have e4 : (nI 6 = 4) = False := eq_false (by decide)
  have e5 : (nI 6 = 5) = False := eq_false (by decide)
  have e6 : (nI 6 = 6) = True := eq_true rfl
  have e7 : (nI 6 = 7) = False := eq_false (by decide)
  have e8 : (nI 6 = 8) = False := eq_false (by decide)
  have e9 : (nI 6 = 9) = False := eq_false (by decide)
  have e10 : (nI 6 = 10) = False := eq_false (by decide)
  have e11 : (nI 6 = 11) = False := eq_false (by decide)
  have e12 : (nI 6 = 12) = False := eq_false (by decide)
  have e13 : (nI 6 = 13) = False := eq_false (by decide)
  have e14 : (nI 6 = 14) = False := eq_false (by decide)
  have e15 : (nI 6 = 15) = False := eq_false (by decide)
  have e16 : (nI 6 = 16) = False := eq_false (by decide)
  have l0 : (nI 6 ≤ 0) = False := eq_false (by decide)
  have l4 : (nI 6 < 4) = False := eq_false (by decide)
  intro th of N hN
  refine Eq.trans ?_ ((mX_seq (mX_rq (pf := pf) (b := 0) (t := 0) ((hk 0 (by omega)).2.2.2 (by decide))) (mX_X (pf := pf) (b := 1))) th of N hN)
  simp only [mXX, f_M_operands, f_M_operands_L9, f_M_operands_L45, f_M_operands_L50, f_M_operands_L65, f_M_operands_L92, f_M_operands_L102, f_M_operands_L129, f_M_operands_L139, f_M_operands_L151, f_M_operands_L156, f_M_operands_L166, f_M_operands_L176, f_M_operands_L188, f_M_operands_L193, f_M_operands_L216, f_M_operands_L220, f_M_operands_L243, f_M_operands_L248, e1, e2, e3, e4, e5, e6, e7, e8, e9, e10, e11, e12, e13, e14, e15, e16, l0, l4, eq_false n_p0, eq_false n_p1, eq_false n_p2, eq_false n_p3, cl0, cl1, cl2, cl3, nq0, nq1, nq2, nq3, i10, i00, ↓reduceIte]
theorem m_pat_7 {pf : Nat → Int32} {pl : Int32} (hk : ∀ k, k < 3 → okc pf (oc 7 k)) : mX pf (fun th pf of sz bg => f_M_operands th pf of sz bg (nI 7) pl) (lgT pf pl 7 0 3) 0 1 := by
  have e1 : (nI 7 = 1) = False := eq_false (by decide)
  have e2 : (nI 7 = 2) = False := eq_false (by decide)
  have e3 : (nI 7 = 3) = False := eq_false (by decide)
  have e4 : (nI 7 = 4) = False := eq_false (by decide)
  have e5 : (nI 7 = 5) = False := eq_false (by decide)
  have e6 : (nI 7 = 6) = False := eq_false (by decide)
  have e7 : (nI 7 = 7) = True := eq_true rfl
  have e8 : (nI 7 = 8) = False := eq_false (by decide)
  have e9 : (nI 7 = 9) = False := eq_false (by decide)
  have e10 : (nI 7 = 10) = False := eq_false (by decide)
  have e11 : (nI 7 = 11) = False := eq_false (by decide)
  have e12 : (nI 7 = 12) = False := eq_false (by decide)
  have e13 : (nI 7 = 13) = False := eq_false (by decide)
  have e14 : (nI 7 = 14) = False := eq_false (by decide)
  have e15 : (nI 7 = 15) = False := eq_false (by decide)
  have e16 : (nI 7 = 16) = False := eq_false (by decide)
  have l0 : (nI 7 ≤ 0) = False := eq_false (by decide)
  have l4 : (nI 7 < 4) = False := eq_false (by decide)
  intro th of N hN
  refine Eq.trans ?_ ((mX_seq (mX_rq (pf := pf) (b := 0) (t := 0) ((hk 0 (by omega)).2.2.2 (by decide))) (mX_seq (mX_place (pf := pf) (b := 1) pl) mX_id)) th of N hN)
  simp only [mXX, f_M_operands, f_M_operands_L9, f_M_operands_L45, f_M_operands_L50, f_M_operands_L65, f_M_operands_L92, f_M_operands_L102, f_M_operands_L129, f_M_operands_L139, f_M_operands_L151, f_M_operands_L156, f_M_operands_L166, f_M_operands_L176, f_M_operands_L188, f_M_operands_L193, f_M_operands_L216, f_M_operands_L220, f_M_operands_L243, f_M_operands_L248, e1, e2, e3, e4, e5, e6, e7, e8, e9, e10, e11, e12, e13, e14, e15, e16, l0, l4, eq_false n_p0, eq_false n_p1, eq_false n_p2, eq_false n_p3, cl0, cl1, cl2, cl3, nq0, nq1, nq2, nq3, i10, i00, ↓reduceIte]
theorem m_pat_8 {pf : Nat → Int32} {pl : Int32} (hk : ∀ k, k < 3 → okc pf (oc 8 k)) : mX pf (fun th pf of sz bg => f_M_operands th pf of sz bg (nI 8) pl) (lgT pf pl 8 0 3) 0 1 := by
  have e1 : (nI 8 = 1) = False := eq_false (by decide)
  have e2 : (nI 8 = 2) = False := eq_false (by decide)
  have e3 : (nI 8 = 3) = False := eq_false (by decide)
  have e4 : (nI 8 = 4) = False := eq_false (by decide)
  have e5 : (nI 8 = 5) = False := eq_false (by decide)
  have e6 : (nI 8 = 6) = False := eq_false (by decide)
  have e7 : (nI 8 = 7) = False := eq_false (by decide)
  have e8 : (nI 8 = 8) = True := eq_true rfl
  have e9 : (nI 8 = 9) = False := eq_false (by decide)
  have e10 : (nI 8 = 10) = False := eq_false (by decide)
  have e11 : (nI 8 = 11) = False := eq_false (by decide)
  have e12 : (nI 8 = 12) = False := eq_false (by decide)
  have e13 : (nI 8 = 13) = False := eq_false (by decide)
  have e14 : (nI 8 = 14) = False := eq_false (by decide)
  have e15 : (nI 8 = 15) = False := eq_false (by decide)
  have e16 : (nI 8 = 16) = False := eq_false (by decide)
  have l0 : (nI 8 ≤ 0) = False := eq_false (by decide)
  have l4 : (nI 8 < 4) = False := eq_false (by decide)
  intro th of N hN
  refine Eq.trans ?_ ((mX_seq (mX_place (pf := pf) (b := 0) pl) mX_id) th of N hN)
  simp only [mXX, f_M_operands, f_M_operands_L9, f_M_operands_L45, f_M_operands_L50, f_M_operands_L65, f_M_operands_L92, f_M_operands_L102, f_M_operands_L129, f_M_operands_L139, f_M_operands_L151, f_M_operands_L156, f_M_operands_L166, f_M_operands_L176, f_M_operands_L188, f_M_operands_L193, f_M_operands_L216, f_M_operands_L220, f_M_operands_L243, f_M_operands_L248, e1, e2, e3, e4, e5, e6, e7, e8, e9, e10, e11, e12, e13, e14, e15, e16, l0, l4, eq_false n_p0, eq_false n_p1, eq_false n_p2, eq_false n_p3, cl0, cl1, cl2, cl3, nq0, nq1, nq2, nq3, i10, i00, ↓reduceIte]
theorem m_pat_9 {pf : Nat → Int32} {pl : Int32} (hk : ∀ k, k < 3 → okc pf (oc 9 k)) : mX pf (fun th pf of sz bg => f_M_operands th pf of sz bg (nI 9) pl) (lgT pf pl 9 0 3) 0 1 := by
  have e1 : (nI 9 = 1) = False := eq_false (by decide)
  have e2 : (nI 9 = 2) = False := eq_false (by decide)
  have e3 : (nI 9 = 3) = False := eq_false (by decide)
  have e4 : (nI 9 = 4) = False := eq_false (by decide)
  have e5 : (nI 9 = 5) = False := eq_false (by decide)
  have e6 : (nI 9 = 6) = False := eq_false (by decide)
  have e7 : (nI 9 = 7) = False := eq_false (by decide)
  have e8 : (nI 9 = 8) = False := eq_false (by decide)
  have e9 : (nI 9 = 9) = True := eq_true rfl
  have e10 : (nI 9 = 10) = False := eq_false (by decide)
  have e11 : (nI 9 = 11) = False := eq_false (by decide)
  have e12 : (nI 9 = 12) = False := eq_false (by decide)
  have e13 : (nI 9 = 13) = False := eq_false (by decide)
  have e14 : (nI 9 = 14) = False := eq_false (by decide)
  have e15 : (nI 9 = 15) = False := eq_false (by decide)
  have e16 : (nI 9 = 16) = False := eq_false (by decide)
  have l0 : (nI 9 ≤ 0) = False := eq_false (by decide)
  have l4 : (nI 9 < 4) = False := eq_false (by decide)
  intro th of N hN
  refine Eq.trans ?_ ((mX_seq (mX_rq (pf := pf) (b := 0) (t := 1) ((hk 0 (by omega)).2.1 (Or.inr (by decide)))) (mX_seq (mX_place (pf := pf) (b := 1) pl) mX_id)) th of N hN)
  simp only [mXX, f_M_operands, f_M_operands_L9, f_M_operands_L45, f_M_operands_L50, f_M_operands_L65, f_M_operands_L92, f_M_operands_L102, f_M_operands_L129, f_M_operands_L139, f_M_operands_L151, f_M_operands_L156, f_M_operands_L166, f_M_operands_L176, f_M_operands_L188, f_M_operands_L193, f_M_operands_L216, f_M_operands_L220, f_M_operands_L243, f_M_operands_L248, e1, e2, e3, e4, e5, e6, e7, e8, e9, e10, e11, e12, e13, e14, e15, e16, l0, l4, eq_false n_p0, eq_false n_p1, eq_false n_p2, eq_false n_p3, cl0, cl1, cl2, cl3, nq0, nq1, nq2, nq3, i10, i00, ↓reduceIte]
theorem m_pat_10 {pf : Nat → Int32} {pl : Int32} (hk : ∀ k, k < 3 → okc pf (oc 10 k)) : mX pf (fun th pf of sz bg => f_M_operands th pf of sz bg (nI 10) pl) (lgT pf pl 10 0 3) 0 1 := by
  have e1 : (nI 10 = 1) = False := eq_false (by decide)
  have e2 : (nI 10 = 2) = False := eq_false (by decide)
  have e3 : (nI 10 = 3) = False := eq_false (by decide)
  have e4 : (nI 10 = 4) = False := eq_false (by decide)
  have e5 : (nI 10 = 5) = False := eq_false (by decide)
  have e6 : (nI 10 = 6) = False := eq_false (by decide)
  have e7 : (nI 10 = 7) = False := eq_false (by decide)
  have e8 : (nI 10 = 8) = False := eq_false (by decide)
  have e9 : (nI 10 = 9) = False := eq_false (by decide)
  have e10 : (nI 10 = 10) = True := eq_true rfl
  have e11 : (nI 10 = 11) = False := eq_false (by decide)
  have e12 : (nI 10 = 12) = False := eq_false (by decide)
  have e13 : (nI 10 = 13) = False := eq_false (by decide)
  have e14 : (nI 10 = 14) = False := eq_false (by decide)
  have e15 : (nI 10 = 15) = False := eq_false (by decide)
  have e16 : (nI 10 = 16) = False := eq_false (by decide)
  have l0 : (nI 10 ≤ 0) = False := eq_false (by decide)
  have l4 : (nI 10 < 4) = False := eq_false (by decide)
  intro th of N hN
  refine Eq.trans ?_ ((mX_seq (mX_rq (pf := pf) (b := 0) (t := 0) ((hk 0 (by omega)).2.2.2 (by decide))) (mX_seq (mX_rq (pf := pf) (b := 1) (t := 2) ((hk 1 (by omega)).2.2.1 (by decide))) mX_id)) th of N hN)
  simp only [mXX, f_M_operands, f_M_operands_L9, f_M_operands_L45, f_M_operands_L50, f_M_operands_L65, f_M_operands_L92, f_M_operands_L102, f_M_operands_L129, f_M_operands_L139, f_M_operands_L151, f_M_operands_L156, f_M_operands_L166, f_M_operands_L176, f_M_operands_L188, f_M_operands_L193, f_M_operands_L216, f_M_operands_L220, f_M_operands_L243, f_M_operands_L248, e1, e2, e3, e4, e5, e6, e7, e8, e9, e10, e11, e12, e13, e14, e15, e16, l0, l4, eq_false n_p0, eq_false n_p1, eq_false n_p2, eq_false n_p3, cl0, cl1, cl2, cl3, nq0, nq1, nq2, nq3, i10, i00, ↓reduceIte]
theorem m_pat_11 {pf : Nat → Int32} {pl : Int32} (hk : ∀ k, k < 3 → okc pf (oc 11 k)) : mX pf (fun th pf of sz bg => f_M_operands th pf of sz bg (nI 11) pl) (lgT pf pl 11 0 3) 0 1 := by
  have e1 : (nI 11 = 1) = False := eq_false (by decide)
  have e2 : (nI 11 = 2) = False := eq_false (by decide)
  have e3 : (nI 11 = 3) = False := eq_false (by decide)
  have e4 : (nI 11 = 4) = False := eq_false (by decide)
  have e5 : (nI 11 = 5) = False := eq_false (by decide)
  have e6 : (nI 11 = 6) = False := eq_false (by decide)
  have e7 : (nI 11 = 7) = False := eq_false (by decide)
  have e8 : (nI 11 = 8) = False := eq_false (by decide)
  have e9 : (nI 11 = 9) = False := eq_false (by decide)
  have e10 : (nI 11 = 10) = False := eq_false (by decide)
  have e11 : (nI 11 = 11) = True := eq_true rfl
  have e12 : (nI 11 = 12) = False := eq_false (by decide)
  have e13 : (nI 11 = 13) = False := eq_false (by decide)
  have e14 : (nI 11 = 14) = False := eq_false (by decide)
  have e15 : (nI 11 = 15) = False := eq_false (by decide)
  have e16 : (nI 11 = 16) = False := eq_false (by decide)
  have l0 : (nI 11 ≤ 0) = False := eq_false (by decide)
  have l4 : (nI 11 < 4) = False := eq_false (by decide)
  intro th of N hN
  refine Eq.trans ?_ ((mX_seq (mX_rq (pf := pf) (b := 0) (t := 1) ((hk 0 (by omega)).2.1 (Or.inr (by decide)))) mX_id) th of N hN)
  simp only [mXX, f_M_operands, f_M_operands_L9, f_M_operands_L45, f_M_operands_L50, f_M_operands_L65, f_M_operands_L92, f_M_operands_L102, f_M_operands_L129, f_M_operands_L139, f_M_operands_L151, f_M_operands_L156, f_M_operands_L166, f_M_operands_L176, f_M_operands_L188, f_M_operands_L193, f_M_operands_L216, f_M_operands_L220, f_M_operands_L243, f_M_operands_L248, e1, e2, e3, e4, e5, e6, e7, e8, e9, e10, e11, e12, e13, e14, e15, e16, l0, l4, eq_false n_p0, eq_false n_p1, eq_false n_p2, eq_false n_p3, cl0, cl1, cl2, cl3, nq0, nq1, nq2, nq3, i10, i00, ↓reduceIte]
theorem m_pat_12 {pf : Nat → Int32} {pl : Int32} (hk : ∀ k, k < 3 → okc pf (oc 12 k)) : mX pf (fun th pf of sz bg => f_M_operands th pf of sz bg (nI 12) pl) (lgT pf pl 12 0 3) 0 1 := by
  have e1 : (nI 12 = 1) = False := eq_false (by decide)
  have e2 : (nI 12 = 2) = False := eq_false (by decide)
  have e3 : (nI 12 = 3) = False := eq_false (by decide)
  have e4 : (nI 12 = 4) = False := eq_false (by decide)
  have e5 : (nI 12 = 5) = False := eq_false (by decide)
  have e6 : (nI 12 = 6) = False := eq_false (by decide)
  have e7 : (nI 12 = 7) = False := eq_false (by decide)
  have e8 : (nI 12 = 8) = False := eq_false (by decide)
  have e9 : (nI 12 = 9) = False := eq_false (by decide)
  have e10 : (nI 12 = 10) = False := eq_false (by decide)
  have e11 : (nI 12 = 11) = False := eq_false (by decide)
  have e12 : (nI 12 = 12) = True := eq_true rfl
  have e13 : (nI 12 = 13) = False := eq_false (by decide)
  have e14 : (nI 12 = 14) = False := eq_false (by decide)
  have e15 : (nI 12 = 15) = False := eq_false (by decide)
  have e16 : (nI 12 = 16) = False := eq_false (by decide)
  have l0 : (nI 12 ≤ 0) = False := eq_false (by decide)
  have l4 : (nI 12 < 4) = False := eq_false (by decide)
  intro th of N hN
  refine Eq.trans ?_ ((mX_seq (mX_rq (pf := pf) (b := 0) (t := 0) ((hk 0 (by omega)).2.2.2 (by decide))) (mX_seq (mX_num (pf := pf) (b := 1) ((hk 1 (by omega)).1 (Or.inl (by decide))).1 ((hk 1 (by omega)).1 (Or.inl (by decide))).2) mX_id)) th of N hN)
  simp only [mXX, f_M_operands, f_M_operands_L9, f_M_operands_L45, f_M_operands_L50, f_M_operands_L65, f_M_operands_L92, f_M_operands_L102, f_M_operands_L129, f_M_operands_L139, f_M_operands_L151, f_M_operands_L156, f_M_operands_L166, f_M_operands_L176, f_M_operands_L188, f_M_operands_L193, f_M_operands_L216, f_M_operands_L220, f_M_operands_L243, f_M_operands_L248, e1, e2, e3, e4, e5, e6, e7, e8, e9, e10, e11, e12, e13, e14, e15, e16, l0, l4, eq_false n_p0, eq_false n_p1, eq_false n_p2, eq_false n_p3, cl0, cl1, cl2, cl3, nq0, nq1, nq2, nq3, i10, i00, ↓reduceIte]
theorem m_pat_13 {pf : Nat → Int32} {pl : Int32} (hk : ∀ k, k < 3 → okc pf (oc 13 k)) : mX pf (fun th pf of sz bg => f_M_operands th pf of sz bg (nI 13) pl) (lgT pf pl 13 0 3) 0 1 := by
  have e1 : (nI 13 = 1) = False := eq_false (by decide)
  have e2 : (nI 13 = 2) = False := eq_false (by decide)
  have e3 : (nI 13 = 3) = False := eq_false (by decide)
  have e4 : (nI 13 = 4) = False := eq_false (by decide)
  have e5 : (nI 13 = 5) = False := eq_false (by decide)
  have e6 : (nI 13 = 6) = False := eq_false (by decide)
  have e7 : (nI 13 = 7) = False := eq_false (by decide)
  have e8 : (nI 13 = 8) = False := eq_false (by decide)
  have e9 : (nI 13 = 9) = False := eq_false (by decide)
  have e10 : (nI 13 = 10) = False := eq_false (by decide)
  have e11 : (nI 13 = 11) = False := eq_false (by decide)
  have e12 : (nI 13 = 12) = False := eq_false (by decide)
  have e13 : (nI 13 = 13) = True := eq_true rfl
  have e14 : (nI 13 = 14) = False := eq_false (by decide)
  have e15 : (nI 13 = 15) = False := eq_false (by decide)
  have e16 : (nI 13 = 16) = False := eq_false (by decide)
  have l0 : (nI 13 ≤ 0) = False := eq_false (by decide)
  have l4 : (nI 13 < 4) = False := eq_false (by decide)
  intro th of N hN
  refine Eq.trans ?_ ((mX_seq (mX_rq (pf := pf) (b := 0) (t := 0) ((hk 0 (by omega)).2.2.2 (by decide))) (mX_seq (mX_off (pf := pf) (b := 1) ((hk 1 (by omega)).1 (Or.inr (Or.inr (by decide)))).1 ((hk 1 (by omega)).1 (Or.inr (Or.inr (by decide)))).2 isR2) mX_id)) th of N hN)
  simp only [mXX, f_M_operands, f_M_operands_L9, f_M_operands_L45, f_M_operands_L50, f_M_operands_L65, f_M_operands_L92, f_M_operands_L102, f_M_operands_L129, f_M_operands_L139, f_M_operands_L151, f_M_operands_L156, f_M_operands_L166, f_M_operands_L176, f_M_operands_L188, f_M_operands_L193, f_M_operands_L216, f_M_operands_L220, f_M_operands_L243, f_M_operands_L248, e1, e2, e3, e4, e5, e6, e7, e8, e9, e10, e11, e12, e13, e14, e15, e16, l0, l4, eq_false n_p0, eq_false n_p1, eq_false n_p2, eq_false n_p3, cl0, cl1, cl2, cl3, nq0, nq1, nq2, nq3, i10, i00, ↓reduceIte]
theorem m_pat_14 {pf : Nat → Int32} {pl : Int32} (hk : ∀ k, k < 3 → okc pf (oc 14 k)) : mX pf (fun th pf of sz bg => f_M_operands th pf of sz bg (nI 14) pl) (lgT pf pl 14 0 3) 0 1 := by
  have e1 : (nI 14 = 1) = False := eq_false (by decide)
  have e2 : (nI 14 = 2) = False := eq_false (by decide)
  have e3 : (nI 14 = 3) = False := eq_false (by decide)
  have e4 : (nI 14 = 4) = False := eq_false (by decide)
  have e5 : (nI 14 = 5) = False := eq_false (by decide)
  have e6 : (nI 14 = 6) = False := eq_false (by decide)
  have e7 : (nI 14 = 7) = False := eq_false (by decide)
  have e8 : (nI 14 = 8) = False := eq_false (by decide)
  have e9 : (nI 14 = 9) = False := eq_false (by decide)
  have e10 : (nI 14 = 10) = False := eq_false (by decide)
  have e11 : (nI 14 = 11) = False := eq_false (by decide)
  have e12 : (nI 14 = 12) = False := eq_false (by decide)
  have e13 : (nI 14 = 13) = False := eq_false (by decide)
  have e14 : (nI 14 = 14) = True := eq_true rfl
  have e15 : (nI 14 = 15) = False := eq_false (by decide)
  have e16 : (nI 14 = 16) = False := eq_false (by decide)
  have l0 : (nI 14 ≤ 0) = False := eq_false (by decide)
  have l4 : (nI 14 < 4) = False := eq_false (by decide)
  intro th of N hN
  refine Eq.trans ?_ ((mX_seq (mX_rq (pf := pf) (b := 0) (t := 2) ((hk 0 (by omega)).2.2.1 (by decide))) (mX_seq (mX_off (pf := pf) (b := 1) ((hk 1 (by omega)).1 (Or.inr (Or.inr (by decide)))).1 ((hk 1 (by omega)).1 (Or.inr (Or.inr (by decide)))).2 isR2) mX_id)) th of N hN)
  simp only [mXX, f_M_operands, f_M_operands_L9, f_M_operands_L45, f_M_operands_L50, f_M_operands_L65, f_M_operands_L92, f_M_operands_L102, f_M_operands_L129, f_M_operands_L139, f_M_operands_L151, f_M_operands_L156, f_M_operands_L166, f_M_operands_L176, f_M_operands_L188, f_M_operands_L193, f_M_operands_L216, f_M_operands_L220, f_M_operands_L243, f_M_operands_L248, e1, e2, e3, e4, e5, e6, e7, e8, e9, e10, e11, e12, e13, e14, e15, e16, l0, l4, eq_false n_p0, eq_false n_p1, eq_false n_p2, eq_false n_p3, cl0, cl1, cl2, cl3, nq0, nq1, nq2, nq3, i10, i00, ↓reduceIte]
theorem m_pat_15 {pf : Nat → Int32} {pl : Int32} (hk : ∀ k, k < 3 → okc pf (oc 15 k)) : mX pf (fun th pf of sz bg => f_M_operands th pf of sz bg (nI 15) pl) (lgT pf pl 15 0 3) 0 1 := by
  have e1 : (nI 15 = 1) = False := eq_false (by decide)
  have e2 : (nI 15 = 2) = False := eq_false (by decide)
  have e3 : (nI 15 = 3) = False := eq_false (by decide)
  have e4 : (nI 15 = 4) = False := eq_false (by decide)
  have e5 : (nI 15 = 5) = False := eq_false (by decide)
  have e6 : (nI 15 = 6) = False := eq_false (by decide)
  have e7 : (nI 15 = 7) = False := eq_false (by decide)
  have e8 : (nI 15 = 8) = False := eq_false (by decide)
  have e9 : (nI 15 = 9) = False := eq_false (by decide)
  have e10 : (nI 15 = 10) = False := eq_false (by decide)
  have e11 : (nI 15 = 11) = False := eq_false (by decide)
  have e12 : (nI 15 = 12) = False := eq_false (by decide)
  have e13 : (nI 15 = 13) = False := eq_false (by decide)
  have e14 : (nI 15 = 14) = False := eq_false (by decide)
  have e15 : (nI 15 = 15) = True := eq_true rfl
  have e16 : (nI 15 = 16) = False := eq_false (by decide)
  have l0 : (nI 15 ≤ 0) = False := eq_false (by decide)
  have l4 : (nI 15 < 4) = False := eq_false (by decide)
  intro th of N hN
  refine Eq.trans ?_ ((mX_seq (mX_rq (pf := pf) (b := 0) (t := 0) ((hk 0 (by omega)).2.2.2 (by decide))) (mX_seq (mX_register (pf := pf) (b := 1) isR2) (mX_seq (mX_num (pf := pf) (b := 1) ((hk 2 (by omega)).1 (Or.inl (by decide))).1 ((hk 2 (by omega)).1 (Or.inl (by decide))).2) mX_id))) th of N hN)
  simp only [mXX, f_M_operands, f_M_operands_L9, f_M_operands_L45, f_M_operands_L50, f_M_operands_L65, f_M_operands_L92, f_M_operands_L102, f_M_operands_L129, f_M_operands_L139, f_M_operands_L151, f_M_operands_L156, f_M_operands_L166, f_M_operands_L176, f_M_operands_L188, f_M_operands_L193, f_M_operands_L216, f_M_operands_L220, f_M_operands_L243, f_M_operands_L248, e1, e2, e3, e4, e5, e6, e7, e8, e9, e10, e11, e12, e13, e14, e15, e16, l0, l4, eq_false n_p0, eq_false n_p1, eq_false n_p2, eq_false n_p3, cl0, cl1, cl2, cl3, nq0, nq1, nq2, nq3, i10, i00, ↓reduceIte]
theorem m_pat_16 {pf : Nat → Int32} {pl : Int32} (hk : ∀ k, k < 3 → okc pf (oc 16 k)) : mX pf (fun th pf of sz bg => f_M_operands th pf of sz bg (nI 16) pl) (lgT pf pl 16 0 3) 0 1 := by
  have e1 : (nI 16 = 1) = False := eq_false (by decide)
  have e2 : (nI 16 = 2) = False := eq_false (by decide)
  have e3 : (nI 16 = 3) = False := eq_false (by decide)
  have e4 : (nI 16 = 4) = False := eq_false (by decide)
  have e5 : (nI 16 = 5) = False := eq_false (by decide)
  have e6 : (nI 16 = 6) = False := eq_false (by decide)
  have e7 : (nI 16 = 7) = False := eq_false (by decide)
  have e8 : (nI 16 = 8) = False := eq_false (by decide)
  have e9 : (nI 16 = 9) = False := eq_false (by decide)
  have e10 : (nI 16 = 10) = False := eq_false (by decide)
  have e11 : (nI 16 = 11) = False := eq_false (by decide)
  have e12 : (nI 16 = 12) = False := eq_false (by decide)
  have e13 : (nI 16 = 13) = False := eq_false (by decide)
  have e14 : (nI 16 = 14) = False := eq_false (by decide)
  have e15 : (nI 16 = 15) = False := eq_false (by decide)
  have e16 : (nI 16 = 16) = True := eq_true rfl
  have l0 : (nI 16 ≤ 0) = False := eq_false (by decide)
  have l4 : (nI 16 < 4) = False := eq_false (by decide)
  intro th of N hN
  refine Eq.trans ?_ ((mX_seq (mX_register (pf := pf) (b := 0) isR2) (mX_seq (mX_num (pf := pf) (b := 1) ((hk 1 (by omega)).1 (Or.inl (by decide))).1 ((hk 1 (by omega)).1 (Or.inl (by decide))).2) mX_id)) th of N hN)
  simp only [mXX, f_M_operands, f_M_operands_L9, f_M_operands_L45, f_M_operands_L50, f_M_operands_L65, f_M_operands_L92, f_M_operands_L102, f_M_operands_L129, f_M_operands_L139, f_M_operands_L151, f_M_operands_L156, f_M_operands_L166, f_M_operands_L176, f_M_operands_L188, f_M_operands_L193, f_M_operands_L216, f_M_operands_L220, f_M_operands_L243, f_M_operands_L248, e1, e2, e3, e4, e5, e6, e7, e8, e9, e10, e11, e12, e13, e14, e15, e16, l0, l4, eq_false n_p0, eq_false n_p1, eq_false n_p2, eq_false n_p3, cl0, cl1, cl2, cl3, nq0, nq1, nq2, nq3, i10, i00, ↓reduceIte]
theorem m_pat {p : Nat} (hp : p < 17) {pf : Nat → Int32} {pl : Int32} (hk : ∀ k, k < 3 → okc pf (oc p k)) : ∃ b1, mX pf (fun th pf of sz bg => f_M_operands th pf of sz bg (nI p) pl) (lgT pf pl p 0 3) 0 b1 :=
  match p, hp, hk with
  | 0, _, hk => ⟨_, m_pat_0 hk⟩
  | 1, _, hk => ⟨_, m_pat_1 hk⟩
  | 2, _, hk => ⟨_, m_pat_2 hk⟩
  | 3, _, hk => ⟨_, m_pat_3 hk⟩
  | 4, _, hk => ⟨_, m_pat_4 hk⟩
  | 5, _, hk => ⟨_, m_pat_5 hk⟩
  | 6, _, hk => ⟨_, m_pat_6 hk⟩
  | 7, _, hk => ⟨_, m_pat_7 hk⟩
  | 8, _, hk => ⟨_, m_pat_8 hk⟩
  | 9, _, hk => ⟨_, m_pat_9 hk⟩
  | 10, _, hk => ⟨_, m_pat_10 hk⟩
  | 11, _, hk => ⟨_, m_pat_11 hk⟩
  | 12, _, hk => ⟨_, m_pat_12 hk⟩
  | 13, _, hk => ⟨_, m_pat_13 hk⟩
  | 14, _, hk => ⟨_, m_pat_14 hk⟩
  | 15, _, hk => ⟨_, m_pat_15 hk⟩
  | 16, _, hk => ⟨_, m_pat_16 hk⟩
  | n + 17, h, _ => absurd h (by omega)
set_option maxRecDepth 100000 in
theorem zt_ok1 : ∀ i, i < 75 → ∀ k, k < 3 → (oc (pt i) k = 79 ∨ oc (pt i) k = 97 → zh i 1 = true) ∧ (oc (pt i) k = 98 → zh i 2 = true) ∧ (oc (pt i) k = 100 → zh i 0 = true) := by decide +kernel
set_option maxRecDepth 100000 in
theorem zt_ok2 : ∀ i, i < 75 → ∀ k, k < 3 → (oc (pt i) k = 73 ∨ oc (pt i) k = 79 ∨ oc (pt i) k = 83) → i ≠ 56 ∧ zh i 3 = true ∧ -2048 ≤ (m_lo i).toInt ∧ (m_hi i).toInt ≤ 2047 := by decide +kernel
set_option maxRecDepth 100000 in
theorem zt_ok3 : ∀ i, i < 75 → sL (k_title i) + (if oc (pt i) 0 = 32 then 0 else 1 + oln (oc (pt i) 0)) + (if oc (pt i) 1 = 32 then 0 else 2 + oln (oc (pt i) 1)) + (if oc (pt i) 2 = 32 then 0 else 2 + oln (oc (pt i) 2)) ≤ 48 := by decide +kernel
theorem q_isR {i t : Nat} (hi : i < 75) {x : Int32} (h : rok i t x = true) : isR x := by
  unfold rok at h
  have : 0 ≤ x.toInt ∧ x.toInt ≤ 31 := by
    by_cases c : zn i t = true
    · rw [if_pos c] at h; have := of_decide_eq_true h; omega
    · rw [if_neg c] at h; have := of_decide_eq_true h; omega
  exact ⟨x.toInt.toNat, by omega, Int32.toInt_inj.mp (by rw [nI_toInt (by omega)]; omega)⟩
theorem q_okc {i : Nat} (hi : i < 75) {P : Nat → Int32} (hg : gd i (P 0) (P 1) (P 2) (P 3) = true) : ∀ k, k < 3 → okc P (oc (pt i) k) := by
  intro k hk
  obtain ⟨g1, g2⟩ := q_gd hg
  obtain ⟨z1, z2, z3⟩ := zt_ok1 i hi k hk
  refine ⟨fun h => ?_, fun h => q_isR hi (g1 1 (by omega) (z1 h)), fun h => q_isR hi (g1 2 (by omega) (z2 h)), fun h => q_isR hi (g1 0 (by omega) (z3 h))⟩
  obtain ⟨y1, y2, y3, y4⟩ := zt_ok2 i hi k hk h
  obtain ⟨r1, r2, _⟩ := q_imr hi y1 y2 (g2 y2)
  rw [Int32.toInt_toInt64] at r1 r2
  omega
theorem q_llen {i : Nat} (hi : i < 75) {P : Nat → Int32} {pl : Int32} (hk : ∀ k, k < 3 → okc P (oc (pt i) k)) : sL (k_title i) + (lgT P pl (pt i) 0 3).length ≤ 48 := by
  have t := zt_ok3 i hi
  have l0 := oL_len (pl := pl) (hk 0 (by omega))
  have l1 := oL_len (pl := pl) (hk 1 (by omega))
  have l2 := oL_len (pl := pl) (hk 2 (by omega))
  have s2 : (lgT P pl (pt i) 2 1).length ≤ (if oc (pt i) 2 = 32 then 0 else 2 + oln (oc (pt i) 2)) := by
    show (if oc (pt i) 2 = 32 then [] else (sepC 2 ++ oL P pl (oc (pt i) 2)) ++ []).length ≤ _
    by_cases c : oc (pt i) 2 = 32
    · rw [if_pos c, if_pos c]; exact Nat.le_refl 0
    · rw [if_neg c, if_neg c, List.append_nil, List.length_append, show (sepC 2).length = 2 from rfl]; omega
  have s1 : (lgT P pl (pt i) 1 2).length ≤ (if oc (pt i) 1 = 32 then 0 else 2 + oln (oc (pt i) 1)) + (if oc (pt i) 2 = 32 then 0 else 2 + oln (oc (pt i) 2)) := by
    show (if oc (pt i) 1 = 32 then lgT P pl (pt i) 2 1 else (sepC 1 ++ oL P pl (oc (pt i) 1)) ++ lgT P pl (pt i) 2 1).length ≤ _
    by_cases c : oc (pt i) 1 = 32
    · rw [if_pos c, if_pos c]; omega
    · rw [if_neg c, if_neg c, List.length_append, List.length_append, show (sepC 1).length = 2 from rfl]; omega
  have s0 : (lgT P pl (pt i) 0 3).length ≤ (if oc (pt i) 0 = 32 then 0 else 1 + oln (oc (pt i) 0)) + ((if oc (pt i) 1 = 32 then 0 else 2 + oln (oc (pt i) 1)) + (if oc (pt i) 2 = 32 then 0 else 2 + oln (oc (pt i) 2))) := by
    show (if oc (pt i) 0 = 32 then lgT P pl (pt i) 1 2 else (sepC 0 ++ oL P pl (oc (pt i) 0)) ++ lgT P pl (pt i) 1 2).length ≤ _
    by_cases c : oc (pt i) 0 = 32
    · rw [if_pos c, if_pos c]; omega
    · rw [if_neg c, if_neg c, List.length_append, List.length_append, show (sepC 0).length = 1 from rfl]; omega
  omega
set_option maxRecDepth 100000 in
theorem zt_ill : f_M_lettersOf 514086 = some (nI 4) ∧ f_M_lettersOf 1496724 = some (nI 4) ∧ [46] ++ (nmT 514086 4 0 4 ++ [32]) = stT 2 0 (sL 2) ∧ [46] ++ (nmT 1496724 4 0 4 ++ [32]) = stT 0 0 (sL 0) ∧ sL 2 = 6 ∧ sL 0 = 6 := by decide +kernel
theorem q_tell (f : Nat → Int32) (n th : Int32) (pf of : Nat → Int32) (sz bg w pl : Int32) : ∃ (l : List Int32) (t : Int32) (pf' : Nat → Int32) (b : Int32), l.length ≤ 48 ∧ f_M_tell th pf of sz bg w pl = some (nI l.length, t, pf', ap of 0 l, nI l.length, b) ∧ f_C_tell f n w pl = some (nI l.length, ap f 0 l, nI l.length) := by
  obtain ⟨k, p1, hM, hC, hr⟩ := q_find w 0 pf of 0 0
  unfold f_M_tell f_C_tell
  rw [hM, hC, Option.bind_some, Option.bind_some]
  dsimp only
  rcases hr with ⟨rfl, _⟩ | ⟨i, hi, rfl, hd, ha, _, _⟩
  · rw [if_pos rfl, if_pos rfl]
    obtain ⟨i1, i2, i3, i4, i5, i6⟩ := zt_ill
    have ill : ∀ (a0 : Int64) (j : Nat) (v : Int32), f_M_lettersOf a0 = some (nI 4) → [46] ++ (nmT a0 4 0 4 ++ [32]) = stT j 0 (sL j) → sL j = 6 → j < 6 → ¬ j = 3 → (stT j 0 (sL j) ++ hxL v).length ≤ 48 ∧ ((f_M_say 0 p1 of 0 0 46).bind fun r => (f_M_sayName r.1 r.2.1 r.2.2.1 r.2.2.2.1 r.2.2.2.2 a0).bind fun r => (f_M_say r.1 r.2.1 r.2.2.1 r.2.2.2.1 r.2.2.2.2 32).bind fun r => f_M_sayHexadecimal r.1 r.2.1 r.2.2.1 r.2.2.2.1 r.2.2.2.2 v) = some (0, p1, ap of 0 (stT j 0 (sL j) ++ hxL v), nI (stT j 0 (sL j) ++ hxL v).length, 0) ∧ ((f_C_writeString f 0 j).bind fun r => f_C_writeHex r.1 r.2 v) = some (ap f 0 (stT j 0 (sL j) ++ hxL v), nI (stT j 0 (sL j) ++ hxL v).length) := by
      intro a0 j v e1 e2 e3 e4 e5
      have hl : (stT j 0 (sL j) ++ hxL v).length ≤ 48 := by
        have := hxL_len v
        rw [List.length_append, stT_len, e3]; omega
      have m := mX_seq (mX_say (pf := p1) (b := 0) 46) (mX_seq (mX_name (a0 := a0) (X := 4) (by omega) e1) (mX_seq (mX_say 32) (mX_hex v)))
      have el : [46] ++ (nmT a0 4 0 4 ++ ([32] ++ hxL v)) = stT j 0 (sL j) ++ hxL v := by
        rw [← e2]; simp
      rw [el] at m
      refine ⟨hl, ?_, ?_⟩
      · have := m 0 of 0 (by omega)
        rw [Nat.zero_add] at this
        exact this
      · have := cW_seq (cW_s (j := j) e4 e5) (cW_hex v) f 0 (by omega)
        rw [Nat.zero_add] at this
        exact this
    unfold f_M_tell_L71 f_C_writeIllegal f_M_isLong f_C_isLong
    by_cases hl : w &&& 3 = 3
    · rw [if_pos hl]
      obtain ⟨a1, a2, a3⟩ := ill 1496724 0 w i2 i4 i6 (by omega) (by omega)
      refine ⟨_, 0, p1, 0, a1, ?_, ?_⟩
      · cases hs : f_M_say 0 p1 of 0 0 46 with
        | none => rw [hs] at a2; exact absurd a2 (by simp)
        | some r1 =>
          rw [hs, Option.bind_some] at a2
          simp only [Option.bind_some, if_neg n_t]
          cases hs2 : f_M_sayName r1.1 r1.2.1 r1.2.2.1 r1.2.2.2.1 r1.2.2.2.2 1496724 with
          | none => rw [hs2] at a2; exact absurd a2 (by simp)
          | some r2 =>
            rw [hs2, Option.bind_some] at a2
            simp only [Option.bind_some]
            cases hs3 : f_M_say r2.1 r2.2.1 r2.2.2.1 r2.2.2.2.1 r2.2.2.2.2 32 with
            | none => rw [hs3] at a2; exact absurd a2 (by simp)
            | some r3 =>
              rw [hs3, Option.bind_some] at a2
              simp only [Option.bind_some]
              rw [a2]; rfl
      · simp only [Option.bind_some, if_neg n_t]
        cases hs : f_C_writeString f 0 0 with
        | none => rw [hs] at a3; exact absurd a3 (by simp)
        | some r1 =>
          rw [hs, Option.bind_some] at a3
          simp only [Option.bind_some]
          rw [a3]; rfl
    · rw [if_neg hl]
      obtain ⟨a1, a2, a3⟩ := ill 514086 2 (w &&& 65535) i1 i3 i5 (by omega) (by omega)
      refine ⟨_, 0, p1, 0, a1, ?_, ?_⟩
      · cases hs : f_M_say 0 p1 of 0 0 46 with
        | none => rw [hs] at a2; exact absurd a2 (by simp)
        | some r1 =>
          rw [hs, Option.bind_some] at a2
          simp only [Option.bind_some, if_pos n_f]
          cases hs2 : f_M_sayName r1.1 r1.2.1 r1.2.2.1 r1.2.2.2.1 r1.2.2.2.2 514086 with
          | none => rw [hs2] at a2; exact absurd a2 (by simp)
          | some r2 =>
            rw [hs2, Option.bind_some] at a2
            simp only [Option.bind_some]
            cases hs3 : f_M_say r2.1 r2.2.1 r2.2.2.1 r2.2.2.2.1 r2.2.2.2.2 32 with
            | none => rw [hs3] at a2; exact absurd a2 (by simp)
            | some r3 =>
              rw [hs3, Option.bind_some] at a2
              simp only [Option.bind_some]
              rw [a2]; rfl
      · simp only [Option.bind_some, if_pos n_f]
        cases hs : f_C_writeString f 0 2 with
        | none => rw [hs] at a3; exact absurd a3 (by simp)
        | some r1 =>
          rw [hs, Option.bind_some] at a3
          simp only [Option.bind_some]
          rw [a3]; rfl
  · obtain ⟨_, hg⟩ := q_adg hi ha hd
    have hk := q_okc hi hg
    obtain ⟨p1e, p2e⟩ := zt_pat i hi
    obtain ⟨a3, a4, a5⟩ := zt_ab2 i hi
    have hlen := q_llen (pl := pl) hi hk
    obtain ⟨b1, mp⟩ := m_pat (pl := pl) p2e hk
    have mn := mX_name (pf := p1) (b := 0) (a0 := nm i) (X := sL (k_title i)) (by have := (zt_st1 i hi).2; omega) a4
    rw [zt_nmT i hi] at mn
    have m1 := mn 0 of 0 (by rw [stT_len]; omega)
    have m2 := mp 0 (ap of 0 (stT (k_title i) 0 (sL (k_title i)))) (sL (k_title i)) (by omega)
    rw [stT_len, Nat.zero_add] at m1
    have c1 := cW_t hi f 0 (by rw [stT_len]; omega)
    rw [stT_len, Nat.zero_add] at c1
    have c2 := q_leg (pl := pl) hi hd hk f 0 3 40 0 (ap f 0 (stT (k_title i) 0 (sL (k_title i)))) (sL (k_title i)) (by omega) (by omega) hlen
    refine ⟨stT (k_title i) 0 (sL (k_title i)) ++ lgT p1 pl (pt i) 0 3, 0, p1, b1, ?_, ?_, ?_⟩
    · rw [List.length_append, stT_len]; exact hlen
    · rw [if_neg (zt_nm1 i hi), a3, Option.bind_some, show f_M_sayName 0 p1 of 0 0 (nm i) = some (0, p1, ap of 0 (stT (k_title i) 0 (sL (k_title i))), nI (sL (k_title i)), 0) from m1, Option.bind_some, (zt_ab1 i hi).1, Option.bind_some, p1e]
      dsimp only
      rw [show f_M_operands 0 p1 (ap of 0 (stT (k_title i) 0 (sL (k_title i)))) (nI (sL (k_title i))) 0 (nI (pt i)) pl = _ from m2, Option.bind_some, ap_app, List.length_append, stT_len, Nat.zero_add]
    · rw [if_neg (zt_nm1 i hi), if_neg (nI_in (N := 75) hi (by omega)), nI_clamp (by omega)]
      unfold f_C_writeLegal
      rw [show f_C_writeString f 0 (k_title i) = some (ap f 0 (stT (k_title i) 0 (sL (k_title i))), nI (sL (k_title i))) from c1, Option.bind_some]
      dsimp only
      rw [show f_C_writeLegal_L11 f 0 i w pl 40 0 (ap f 0 (stT (k_title i) 0 (sL (k_title i)))) (nI (sL (k_title i))) = _ from c2, Option.bind_some, ap_app, List.length_append, stT_len, Nat.zero_add]
