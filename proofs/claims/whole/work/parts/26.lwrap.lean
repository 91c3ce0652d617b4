def w_L_word : Int32 ⊕ String → (Nat → Int64) → Option (Int32 × (Nat → Int64))
  | .inl v, g => some (0, vp_updL g (0 : Int32).toNatClampNeg v.toInt64)
  | .inr E, g => if E = "java/lang/IndexOutOfBoundsException" then some (1, g) else if E = "java/lang/IllegalArgumentException" then some (2, g) else none
def f_L_word (g : Nat → Int64) (a0 : Int32) (a1 : Int32) (a2 : Int32) (a3 : Int32) (a4 : Int32) : Option (Int32 × (Nat → Int64)) := (f_C_word a0 a1 a2 a3 a4).bind fun r => w_L_word r g
theorem c_L_word (l : Launch) (hfl : l.stackTraces = false) {ad sk sv : Nat → Nat} {tK : Nat} (dC : Nat → ClassId) (dI : Nat → Nat → Nat) (cL : ClassId) (x oa sz : Nat) (g : Nat → Int64) (A : Nat → Prop) (a0 : Int32) (a1 : Int32) (a2 : Int32) (a3 : Int32) (a4 : Int32) (r : Int32 × (Nat → Int64)) (hf : f_L_word g a0 a1 a2 a3 a4 = some r) : Met l y_L_word (Cond.codeWith y_L_word b_L_word 8 (Option.some FieldType.int) [(0, 16, 19, 13), (0, 16, 23, 15)] :: aw) ({ frames := 8, cells := 1, slots := 6, locals := 178 } : Room) (va_Pc [.ref (x), .int (a0), .int (a1), .int (a2), .int (a3), .int (a4), .ref (oa)] (xPc dC dI ad sk sv tK cL x oa sz g A)) (va_Qi (fun (k : Int32) (u : Nat → Int64) => k = r.1 ∧ u = r.2) (fun u t => va_P (dC, dI) cls2 (wO cL oa u) t.heap) A) 1 6 A := by
  rw [f_L_word] at hf
  obtain ⟨z, hz, hf⟩ := Option.bind_eq_some_iff.mp hf
  cases z with
  | inl v =>
    rw [w_L_word] at hf
    obtain rfl := Option.some.inj hf
    exact r_L_word l hfl dC dI cL x oa sz g A a0 a1 a2 a3 a4 v hz
  | inr E =>
    rw [w_L_word] at hf
    by_cases e0 : E = "java/lang/IndexOutOfBoundsException"
    · rw [if_pos e0] at hf
      obtain rfl := Option.some.inj hf
      subst e0
      exact t1_L_word l hfl dC dI cL x oa sz g A a0 a1 a2 a3 a4 hz
    · rw [if_neg e0] at hf
      by_cases e1 : E = "java/lang/IllegalArgumentException"
      · rw [if_pos e1] at hf
        obtain rfl := Option.some.inj hf
        subst e1
        exact t2_L_word l hfl dC dI cL x oa sz g A a0 a1 a2 a3 a4 hz
      · rw [if_neg e1] at hf
        cases hf
def w_L_part : Int32 ⊕ String → (Nat → Int64) → Option (Int32 × (Nat → Int64))
  | .inl v, g => some (0, vp_updL g (0 : Int32).toNatClampNeg v.toInt64)
  | .inr E, g => if E = "java/util/NoSuchElementException" then some (1, g) else none
def f_L_part (g : Nat → Int64) (a0 : Int32) (a1 : Int32) : Option (Int32 × (Nat → Int64)) := (f_C_part a0 a1).bind fun r => w_L_part r g
theorem c_L_part (l : Launch) (hfl : l.stackTraces = false) {ad sk sv : Nat → Nat} {tK : Nat} (dC : Nat → ClassId) (dI : Nat → Nat → Nat) (cL : ClassId) (x oa sz : Nat) (g : Nat → Int64) (A : Nat → Prop) (a0 : Int32) (a1 : Int32) (r : Int32 × (Nat → Int64)) (hf : f_L_part g a0 a1 = some r) : Met l y_L_part (Cond.codeWith y_L_part b_L_part 5 (Option.some FieldType.int) [(0, 10, 13, 21)] :: aw) ({ frames := 10, cells := 1, slots := 6, locals := 218 } : Room) (va_Pc [.ref (x), .int (a0), .int (a1), .ref (oa)] (xPc dC dI ad sk sv tK cL x oa sz g A)) (va_Qi (fun (k : Int32) (u : Nat → Int64) => k = r.1 ∧ u = r.2) (fun u t => va_P (dC, dI) cls2 (wO cL oa u) t.heap) A) 1 6 A := by
  rw [f_L_part] at hf
  obtain ⟨z, hz, hf⟩ := Option.bind_eq_some_iff.mp hf
  cases z with
  | inl v =>
    rw [w_L_part] at hf
    obtain rfl := Option.some.inj hf
    exact r_L_part l hfl dC dI cL x oa sz g A a0 a1 v hz
  | inr E =>
    rw [w_L_part] at hf
    by_cases e0 : E = "java/util/NoSuchElementException"
    · rw [if_pos e0] at hf
      obtain rfl := Option.some.inj hf
      subst e0
      exact t1_L_part l hfl dC dI cL x oa sz g A a0 a1 hz
    · rw [if_neg e0] at hf
      cases hf
def w_L_longer : Int32 ⊕ String → (Nat → Int64) → Option (Int32 × (Nat → Int64))
  | .inl v, g => some (0, vp_updL g (0 : Int32).toNatClampNeg v.toInt64)
  | .inr E, g => if E = "java/util/NoSuchElementException" then some (1, g) else none
def f_L_longer (g : Nat → Int64) (a0 : Int32) : Option (Int32 × (Nat → Int64)) := (f_C_longer a0).bind fun r => w_L_longer r g
theorem c_L_longer (l : Launch) (hfl : l.stackTraces = false) {ad sk sv : Nat → Nat} {tK : Nat} (dC : Nat → ClassId) (dI : Nat → Nat → Nat) (cL : ClassId) (x oa sz : Nat) (g : Nat → Int64) (A : Nat → Prop) (a0 : Int32) (r : Int32 × (Nat → Int64)) (hf : f_L_longer g a0 = some r) : Met l y_L_longer (Cond.codeWith y_L_longer b_L_longer 4 (Option.some FieldType.int) [(0, 9, 12, 21)] :: aw) ({ frames := 10, cells := 1, slots := 6, locals := 218 } : Room) (va_Pc [.ref (x), .int (a0), .ref (oa)] (xPc dC dI ad sk sv tK cL x oa sz g A)) (va_Qi (fun (k : Int32) (u : Nat → Int64) => k = r.1 ∧ u = r.2) (fun u t => va_P (dC, dI) cls2 (wO cL oa u) t.heap) A) 1 6 A := by
  rw [f_L_longer] at hf
  obtain ⟨z, hz, hf⟩ := Option.bind_eq_some_iff.mp hf
  cases z with
  | inl v =>
    rw [w_L_longer] at hf
    obtain rfl := Option.some.inj hf
    exact r_L_longer l hfl dC dI cL x oa sz g A a0 v hz
  | inr E =>
    rw [w_L_longer] at hf
    by_cases e0 : E = "java/util/NoSuchElementException"
    · rw [if_pos e0] at hf
      obtain rfl := Option.some.inj hf
      subst e0
      exact t1_L_longer l hfl dC dI cL x oa sz g A a0 hz
    · rw [if_neg e0] at hf
      cases hf
def w_L_fit : Int32 ⊕ String → (Nat → Int64) → Option (Int32 × (Nat → Int64))
  | .inl v, g => some (0, vp_updL g (0 : Int32).toNatClampNeg v.toInt64)
  | .inr E, g => if E = "java/lang/IllegalArgumentException" then some (1, g) else none
def f_L_fit (g : Nat → Int64) (a0 : Int32) (a1 : Int64) : Option (Int32 × (Nat → Int64)) := (f_C_fit a0 a1).bind fun r => w_L_fit r g
theorem c_L_fit (l : Launch) (hfl : l.stackTraces = false) {ad sk sv : Nat → Nat} {tK : Nat} (dC : Nat → ClassId) (dI : Nat → Nat → Nat) (cL : ClassId) (x oa sz : Nat) (g : Nat → Int64) (A : Nat → Prop) (a0 : Int32) (a1 : Int64) (r : Int32 × (Nat → Int64)) (hf : f_L_fit g a0 a1 = some r) : Met l y_L_fit (Cond.codeWith y_L_fit b_L_fit 6 (Option.some FieldType.int) [(0, 11, 14, 15)] :: aw) ({ frames := 10, cells := 1, slots := 6, locals := 220 } : Room) (va_Pc [.ref (x), .int (a0), .long (a1), .ref (oa)] (xPc dC dI ad sk sv tK cL x oa sz g A)) (va_Qi (fun (k : Int32) (u : Nat → Int64) => k = r.1 ∧ u = r.2) (fun u t => va_P (dC, dI) cls2 (wO cL oa u) t.heap) A) 1 6 A := by
  rw [f_L_fit] at hf
  obtain ⟨z, hz, hf⟩ := Option.bind_eq_some_iff.mp hf
  cases z with
  | inl v =>
    rw [w_L_fit] at hf
    obtain rfl := Option.some.inj hf
    exact r_L_fit l hfl dC dI cL x oa sz g A a0 a1 v hz
  | inr E =>
    rw [w_L_fit] at hf
    by_cases e0 : E = "java/lang/IllegalArgumentException"
    · rw [if_pos e0] at hf
      obtain rfl := Option.some.inj hf
      subst e0
      exact t1_L_fit l hfl dC dI cL x oa sz g A a0 a1 hz
    · rw [if_neg e0] at hf
      cases hf
