/-! the objects' worlds: the class's, and what a world is made of -/
def F_C : u_T := fun k => match k with
  | 0 => ("CodeWords", "out", "[C", true)
  | _ => ("CodeWords", "outLength", "I", false)
def ty_C : Nat → FieldType := fun k => match k with
  | 0 => .array .char
  | _ => .int
theorem nm_C : ∀ a, a < 2 → ∀ b, b < 2 → a ≠ b → (F_C a).2.1 ≠ (F_C b).2.1 := by decide +kernel
theorem tyok_C : ∀ k, k < 2 → parseFieldDescriptor (F_C k).2.2.1 = some (ty_C k) := by decide +kernel
theorem in0_C : ∀ w ∈ u_ws "CodeWords" F_C 2, w ∈ aw := (List.forall_mem_cons.mpr ⟨aw_25, (List.forall_mem_cons.mpr ⟨aw_27, (fun _ h => absurd h List.not_mem_nil)⟩)⟩)
theorem in_C (c0 : Cond) : ∀ w ∈ u_ws "CodeWords" F_C 2, w ∈ c0 :: aw := fun w h => List.mem_cons_of_mem _ (in0_C w h)
def F_M : u_T := fun k => match k with
  | 0 => ("CodeWordsModel", "thrown", "I", false)
  | 1 => ("CodeWordsModel", "row", "[I", true)
  | 2 => ("CodeWordsModel", "part", "[I", true)
  | 3 => ("CodeWordsModel", "out", "[I", true)
  | 4 => ("CodeWordsModel", "size", "I", false)
  | _ => ("CodeWordsModel", "begun", "Z", false)
def ty_M : Nat → FieldType := fun k => match k with
  | 0 => .int
  | 1 => .array .int
  | 2 => .array .int
  | 3 => .array .int
  | 4 => .int
  | _ => .boolean
theorem nm_M : ∀ a, a < 6 → ∀ b, b < 6 → a ≠ b → (F_M a).2.1 ≠ (F_M b).2.1 := by decide +kernel
theorem tyok_M : ∀ k, k < 6 → parseFieldDescriptor (F_M k).2.2.1 = some (ty_M k) := by decide +kernel
theorem in0_M : ∀ w ∈ u_ws "CodeWordsModel" F_M 6, w ∈ aw := (List.forall_mem_cons.mpr ⟨aw_445, (List.forall_mem_cons.mpr ⟨aw_447, (List.forall_mem_cons.mpr ⟨aw_449, (List.forall_mem_cons.mpr ⟨aw_451, (List.forall_mem_cons.mpr ⟨aw_453, (List.forall_mem_cons.mpr ⟨aw_455, (fun _ h => absurd h List.not_mem_nil)⟩)⟩)⟩)⟩)⟩)⟩)
theorem in_M (c0 : Cond) : ∀ w ∈ u_ws "CodeWordsModel" F_M 6, w ∈ c0 :: aw := fun w h => List.mem_cons_of_mem _ (in0_M w h)
abbrev cls2 : List vw_C := [("CodeWords", F_C, 2), ("CodeWordsModel", F_M, 6)]
abbrev aC (h0 o : Nat) : Nat → Prop := fun q => q = h0 ∨ q = o
abbrev wC (cA : ClassId) (h0 o : Nat) (f : Nat → Int32) (n : Int32) : va_W := [(h0, .inr (0, [.ref o, .int n])), (o, .inl (cA, 48, .inl f))]
theorem dD {A : Nat → Prop} {ws ws' : va_W} (h : va_D A ws) (e : ws'.map Prod.fst = ws.map Prod.fst) : va_D A ws' := by
  have key : ∀ (k : Nat) (q : Nat × va_E), ws'[k]? = some q → ∃ z, ws[k]? = some z ∧ z.1 = q.1 := by
    intro k q hq
    have h1 : (ws'.map Prod.fst)[k]? = some q.1 := by rw [List.getElem?_map, hq]; rfl
    rw [e, List.getElem?_map] at h1
    cases hz : ws[k]? with
    | none => rw [hz] at h1; cases h1
    | some z => rw [hz] at h1; exact ⟨z, rfl, Option.some.inj h1⟩
  refine ⟨fun i j p q hp hq hpq => ?_, fun k q hq => ?_⟩
  · obtain ⟨z1, a1, b1⟩ := key i p hp
    obtain ⟨z2, a2, b2⟩ := key j q hq
    exact h.1 i j z1 z2 a1 a2 (by rw [b1, b2, hpq])
  · obtain ⟨z, a1, b1⟩ := key k q hq
    rw [← b1]
    exact h.2 k z a1
theorem wBlind {av : List Value} {D : va_G} {cl : List vw_C} {ws : va_W} {tys : List (ClassId × FieldType)} {A : Nat → Prop} {ad sk sv : Nat → Nat} {tK : Nat} : FrameBlind (va_Pc av (fun U => va_P D cl ws U.heap ∧ va_K D cl tys U ∧ va_D A ws ∧ tb ad sk sv tK A U U.heap)) :=
  fun a U g mk q => ⟨q.1, q.2.1, va_K.moved (u := U) (U := U.calling g mk a) (Vm.Alike.refl U.vm) q.2.2.1, q.2.2.2.1, q.2.2.2.2.call⟩
theorem ju_fz (b : Bool) : fits .boolean (.int (bI b)) = true := by cases b <;> rfl
abbrev wW (p : Program) (l : Launch) (e : Env) (R : Room) (s : State) (m : MethodId) (args : Array Value) (below : List Frame) (meth : Method) (c : Code) (Qc : Array Value → State → Outcome → State → Prop) (free : Addr → Prop) (H : Heap) (locs : List Loc) (g : JFrame) : Prop := W p l e R s m args below meth c H locs 0 0 (MQ below Qc args s 0 0 free) g
