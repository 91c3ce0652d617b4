/-! positions of the parts' bits in the words of each kind, and what the tables say (by evaluation) -/
def pzl : List (List (List Nat)) := [[[7, 8, 9, 10, 11], [], [], [12, 13, 14, 15, 16, 17, 18, 19, 20, 21, 22, 23, 24, 25, 26, 27, 28, 29, 30, 31]], [[7, 8, 9, 10, 11], [], [], [12, 13, 14, 15, 16, 17, 18, 19, 20, 21, 22, 23, 24, 25, 26, 27, 28, 29, 30, 31]], [[7, 8, 9, 10, 11], [], [], [99, 21, 22, 23, 24, 25, 26, 27, 28, 29, 30, 20, 12, 13, 14, 15, 16, 17, 18, 19, 31]], [[7, 8, 9, 10, 11], [15, 16, 17, 18, 19], [], [20, 21, 22, 23, 24, 25, 26, 27, 28, 29, 30, 31]], [[], [15, 16, 17, 18, 19], [20, 21, 22, 23, 24], [99, 8, 9, 10, 11, 25, 26, 27, 28, 29, 30, 7, 31]], [[], [15, 16, 17, 18, 19], [20, 21, 22, 23, 24], [99, 8, 9, 10, 11, 25, 26, 27, 28, 29, 30, 7, 31]], [[], [15, 16, 17, 18, 19], [20, 21, 22, 23, 24], [99, 8, 9, 10, 11, 25, 26, 27, 28, 29, 30, 7, 31]], [[], [15, 16, 17, 18, 19], [20, 21, 22, 23, 24], [99, 8, 9, 10, 11, 25, 26, 27, 28, 29, 30, 7, 31]], [[], [15, 16, 17, 18, 19], [20, 21, 22, 23, 24], [99, 8, 9, 10, 11, 25, 26, 27, 28, 29, 30, 7, 31]], [[], [15, 16, 17, 18, 19], [20, 21, 22, 23, 24], [99, 8, 9, 10, 11, 25, 26, 27, 28, 29, 30, 7, 31]], [[7, 8, 9, 10, 11], [15, 16, 17, 18, 19], [], [20, 21, 22, 23, 24, 25, 26, 27, 28, 29, 30, 31]], [[7, 8, 9, 10, 11], [15, 16, 17, 18, 19], [], [20, 21, 22, 23, 24, 25, 26, 27, 28, 29, 30, 31]], [[7, 8, 9, 10, 11], [15, 16, 17, 18, 19], [], [20, 21, 22, 23, 24, 25, 26, 27, 28, 29, 30, 31]], [[7, 8, 9, 10, 11], [15, 16, 17, 18, 19], [], [20, 21, 22, 23, 24, 25, 26, 27, 28, 29, 30, 31]], [[7, 8, 9, 10, 11], [15, 16, 17, 18, 19], [], [20, 21, 22, 23, 24, 25, 26, 27, 28, 29, 30, 31]], [[], [15, 16, 17, 18, 19], [20, 21, 22, 23, 24], [7, 8, 9, 10, 11, 25, 26, 27, 28, 29, 30, 31]], [[], [15, 16, 17, 18, 19], [20, 21, 22, 23, 24], [7, 8, 9, 10, 11, 25, 26, 27, 28, 29, 30, 31]], [[], [15, 16, 17, 18, 19], [20, 21, 22, 23, 24], [7, 8, 9, 10, 11, 25, 26, 27, 28, 29, 30, 31]], [[7, 8, 9, 10, 11], [15, 16, 17, 18, 19], [], [20, 21, 22, 23, 24, 25, 26, 27, 28, 29, 30, 31]], [[7, 8, 9, 10, 11], [15, 16, 17, 18, 19], [], [20, 21, 22, 23, 24, 25, 26, 27, 28, 29, 30, 31]], [[7, 8, 9, 10, 11], [15, 16, 17, 18, 19], [], [20, 21, 22, 23, 24, 25, 26, 27, 28, 29, 30, 31]], [[7, 8, 9, 10, 11], [15, 16, 17, 18, 19], [], [20, 21, 22, 23, 24, 25, 26, 27, 28, 29, 30, 31]], [[7, 8, 9, 10, 11], [15, 16, 17, 18, 19], [], [20, 21, 22, 23, 24, 25, 26, 27, 28, 29, 30, 31]], [[7, 8, 9, 10, 11], [15, 16, 17, 18, 19], [], [20, 21, 22, 23, 24, 25, 26, 27, 28, 29, 30, 31]], [[7, 8, 9, 10, 11], [15, 16, 17, 18, 19], [], [20, 21, 22, 23, 24]], [[7, 8, 9, 10, 11], [15, 16, 17, 18, 19], [], [20, 21, 22, 23, 24]], [[7, 8, 9, 10, 11], [15, 16, 17, 18, 19], [], [20, 21, 22, 23, 24]], [[7, 8, 9, 10, 11], [15, 16, 17, 18, 19], [20, 21, 22, 23, 24], []], [[7, 8, 9, 10, 11], [15, 16, 17, 18, 19], [20, 21, 22, 23, 24], []], [[7, 8, 9, 10, 11], [15, 16, 17, 18, 19], [20, 21, 22, 23, 24], []], [[7, 8, 9, 10, 11], [15, 16, 17, 18, 19], [20, 21, 22, 23, 24], []], [[7, 8, 9, 10, 11], [15, 16, 17, 18, 19], [20, 21, 22, 23, 24], []], [[7, 8, 9, 10, 11], [15, 16, 17, 18, 19], [20, 21, 22, 23, 24], []], [[7, 8, 9, 10, 11], [15, 16, 17, 18, 19], [20, 21, 22, 23, 24], []], [[7, 8, 9, 10, 11], [15, 16, 17, 18, 19], [20, 21, 22, 23, 24], []], [[7, 8, 9, 10, 11], [15, 16, 17, 18, 19], [20, 21, 22, 23, 24], []], [[7, 8, 9, 10, 11], [15, 16, 17, 18, 19], [20, 21, 22, 23, 24], []], [[7, 8, 9, 10, 11], [15, 16, 17, 18, 19], [20, 21, 22, 23, 24], []], [[7, 8, 9, 10, 11], [15, 16, 17, 18, 19], [20, 21, 22, 23, 24], []], [[7, 8, 9, 10, 11], [15, 16, 17, 18, 19], [20, 21, 22, 23, 24], []], [[7, 8, 9, 10, 11], [15, 16, 17, 18, 19], [20, 21, 22, 23, 24], []], [[7, 8, 9, 10, 11], [15, 16, 17, 18, 19], [20, 21, 22, 23, 24], []], [[7, 8, 9, 10, 11], [15, 16, 17, 18, 19], [20, 21, 22, 23, 24], []], [[7, 8, 9, 10, 11], [15, 16, 17, 18, 19], [20, 21, 22, 23, 24], []], [[7, 8, 9, 10, 11], [15, 16, 17, 18, 19], [20, 21, 22, 23, 24], []], [[], [], [], []], [[], [], [], []], [[], [], [], []], [[2, 3, 4], [], [], [99, 99, 6, 5, 11, 12, 7, 8, 9, 10]], [[2, 3, 4], [7, 8, 9], [], [99, 99, 6, 10, 11, 12, 5]], [[], [7, 8, 9], [2, 3, 4], [99, 99, 6, 10, 11, 12, 5]], [[], [], [], []], [[7, 8, 9, 10, 11], [], [], [2, 3, 4, 5, 6, 12]], [[], [], [], [99, 3, 4, 5, 11, 2, 7, 6, 9, 10, 8, 12]], [[7, 8, 9, 10, 11], [], [], [2, 3, 4, 5, 6, 12]], [[], [], [], [99, 99, 99, 99, 6, 2, 5, 3, 4, 12]], [[7, 8, 9, 10, 11], [], [], [2, 3, 4, 5, 6, 12]], [[7, 8, 9], [], [], [2, 3, 4, 5, 6]], [[7, 8, 9], [], [], [2, 3, 4, 5, 6]], [[7, 8, 9], [], [], [2, 3, 4, 5, 6, 12]], [[7, 8, 9], [], [2, 3, 4], []], [[7, 8, 9], [], [2, 3, 4], []], [[7, 8, 9], [], [2, 3, 4], []], [[7, 8, 9], [], [2, 3, 4], []], [[], [], [], [99, 3, 4, 5, 11, 2, 7, 6, 9, 10, 8, 12]], [[], [7, 8, 9], [], [99, 3, 4, 10, 11, 2, 5, 6, 12]], [[], [7, 8, 9], [], [99, 3, 4, 10, 11, 2, 5, 6, 12]], [[7, 8, 9, 10, 11], [], [], [2, 3, 4, 5, 6]], [[7, 8, 9, 10, 11], [], [], [99, 99, 4, 5, 6, 12, 2, 3]], [[], [7, 8, 9, 10, 11], [], []], [[7, 8, 9, 10, 11], [], [2, 3, 4, 5, 6], []], [[], [], [], []], [[], [7, 8, 9, 10, 11], [], []], [[7, 8, 9, 10, 11], [], [2, 3, 4, 5, 6], []], [[], [], [2, 3, 4, 5, 6], [99, 99, 9, 10, 11, 12, 7, 8]]]
def pz (i w e : Nat) : Nat := ((pzl.getD i []).getD w []).getD e 99
def zB (i : Nat) : Nat := if i < 48 then 32 else 16
def cz (i k : Nat) : Nat := (mR (32 * i + k)).toNatClampNeg
def cw (c : Nat) : Nat := if c < 500 then c / 100 - 1 else c / 100 - 5
def ce (c : Nat) : Nat := c % 100
def lz (i k : Nat) : Int32 := sC (k_layout i) (zB i - 1 - k)
def zh (i j : Nat) : Bool := (k_parts i).toNatClampNeg.testBit j
def zn (i j : Nat) : Bool := decide (pz i j 3 = 99)
def zhb (i : Nat) : Nat := (k_highestBit i).toNatClampNeg
set_option maxRecDepth 100000 in
theorem zt_code : ∀ i, i < 75 → ∀ k, k < 32 → mR (32 * i + k) = nI (cz i k) := by decide +kernel
set_option maxRecDepth 100000 in
theorem zt_cod2 : ∀ i, i < 75 → ∀ k, k < 32 → (cz i k < 2 ∨ (100 ≤ cz i k ∧ cz i k < 500) ∨ (500 ≤ cz i k ∧ cz i k < 800)) := by decide +kernel
set_option maxRecDepth 100000 in
theorem zt_cod3 : ∀ i, i < 75 → ∀ k, k < 32 → 2 ≤ cz i k → ce (cz i k) < 21 ∧ (cw (cz i k) < 3 → ce (cz i k) < 5) ∧ (500 ≤ cz i k → ce (cz i k) < 3) := by decide +kernel
set_option maxRecDepth 100000 in
theorem zt_pos : ∀ i, i < 75 → ∀ k, k < 32 → 2 ≤ cz i k → k < zB i ∧ pz i (cw (cz i k)) (ce (cz i k)) = k := by decide +kernel
set_option maxRecDepth 100000 in
theorem zt_inv : ∀ i, i < 75 → ∀ w, w < 4 → ∀ e, e < 32 → pz i w e = 99 ∨ (pz i w e < zB i ∧ 2 ≤ cz i (pz i w e) ∧ cw (cz i (pz i w e)) = w ∧ ce (cz i (pz i w e)) = e) := by decide +kernel
set_option maxRecDepth 100000 in
theorem zt_own : ∀ i, i < 75 → ∀ k, k < 32 → bt (k_ownMask i) k = decide (k < zB i ∧ cz i k < 2) ∧ bt (k_ownBits i) k = decide (cz i k = 1) := by decide +kernel
set_option maxRecDepth 100000 in
theorem zt_len : ∀ i, i < 75 → sL (k_layout i) = zB i := by decide +kernel
set_option maxRecDepth 100000 in
theorem zt_lay : ∀ i, i < 75 → ∀ k, k < zB i → f_S_charAt (k_layout i) (nI (zB i - 1 - k)) = some (lz i k) := by decide +kernel
set_option maxRecDepth 100000 in
theorem zt_letI : ∀ i, i < 75 → ∀ k, k < zB i → (400 ≤ cz i k ∧ cz i k < 500) → f_K_partOf (lz i k) = some 8 ∧ lz i k - 65 = nI (ce (cz i k)) := by decide +kernel
set_option maxRecDepth 100000 in
theorem zt_letN : ∀ i, i < 75 → ∀ k, k < zB i → ¬ (400 ≤ cz i k ∧ cz i k < 500) → f_K_partOf (lz i k) = some 0 ∨ f_K_partOf (lz i k) = some 1 ∨ f_K_partOf (lz i k) = some 2 ∨ f_K_partOf (lz i k) = some 4 := by decide +kernel
set_option maxRecDepth 100000 in
theorem zt_has : ∀ i, i < 75 → ∀ j, j < 4 → f_K_has i (nI (2 ^ j)) = some (zh i j) := by decide +kernel
set_option maxRecDepth 100000 in
theorem zt_reg : ∀ i, i < 75 → ∀ j, j < 3 → zh i j = true → f_K_isNarrow i (nI (2 ^ j)) = some (zn i j) ∧ f_K_placeOf i (nI (2 ^ j)) = some (nI (pz i j 0)) ∧ pz i j 0 < 27 ∧ ∀ e, e < 32 → pz i j e = if e < (if zn i j then 3 else 5) then pz i j 0 + e else 99 := by decide +kernel
set_option maxRecDepth 100000 in
theorem zt_nreg : ∀ i, i < 75 → ∀ j, j < 4 → zh i j = false → ∀ e, e < 32 → pz i j e = 99 := by decide +kernel
set_option maxRecDepth 100000 in
theorem zt_hb : ∀ i, i < 75 → k_highestBit i = nI (zhb i) ∧ zhb i < 21 ∧ ∀ e, e < 32 → zhb i < e → pz i 3 e = 99 := by decide +kernel
abbrev z0 : Nat → Int32 := fun _ => 0
theorem i_has_L5 (th : Int32) (pf of : Nat → Int32) (sz bg a0 a1 : Int32) : ∀ (n : Nat) (x : Int32), f_M_has_L5 th pf of sz bg a0 a1 n x = f_M_has_L5 0 z0 z0 0 0 a0 a1 n x := by
  intro n
  induction n with
  | zero => intro x; rfl
  | succ n ih => intro x; unfold f_M_has_L5; simp only [f_M_has_L56, ih]
theorem i_isShortPart_L5 (th : Int32) (pf of : Nat → Int32) (sz bg a0 a1 : Int32) : ∀ (n : Nat) (x : Int32), f_M_isShortPart_L5 th pf of sz bg a0 a1 n x = f_M_isShortPart_L5 0 z0 z0 0 0 a0 a1 n x := by
  intro n
  induction n with
  | zero => intro x; rfl
  | succ n ih => intro x; unfold f_M_isShortPart_L5; simp only [ih]
set_option maxRecDepth 100000 in
theorem zt_mhas0 : ∀ i, i < 75 → ∀ j, j < 4 → f_M_has 0 z0 z0 0 0 (nI i) (nI j) = some (zh i j) := by decide +kernel
set_option maxRecDepth 100000 in
theorem zt_mshort0 : ∀ i, i < 75 → ∀ j, j < 3 → f_M_isShortPart 0 z0 z0 0 0 (nI i) (nI j) = some (zh i j && zn i j) := by decide +kernel
theorem zt_mhas {i j : Nat} (hi : i < 75) (hj : j < 4) (th : Int32) (pf of : Nat → Int32) (sz bg : Int32) : f_M_has th pf of sz bg (nI i) (nI j) = some (zh i j) := by
  rw [← zt_mhas0 i hi j hj]; exact i_has_L5 th pf of sz bg _ _ _ _
theorem zt_mshort {i j : Nat} (hi : i < 75) (hj : j < 3) (th : Int32) (pf of : Nat → Int32) (sz bg : Int32) : f_M_isShortPart th pf of sz bg (nI i) (nI j) = some (zh i j && zn i j) := by
  rw [← zt_mshort0 i hi j hj]; exact i_isShortPart_L5 th pf of sz bg _ _ _ _
set_option maxRecDepth 100000 in
theorem zt_mbits : ∀ i, i < 75 → f_M_bitsOf (nI i) = some (nI (zB i)) := by decide +kernel
