/-! THE CLAIM OUT OF ONE WALK OF THE LAW'S BODY. Your part is whole_start (and what it stands on); all else here is the same for every law, but numbers. -/
def R_law : String := "CodeWordsLaw"
def lw_P (b : Addr) (xs : List Int32) (args : Array Value) (s : State) : Prop := args = #[.ref b] ∧ s.IntsAt b xs ∧ xs.length ≤ 3072 ∧ (Jvm.Cond.and given_1 narrow_1).before args s = true
def lw_Q (_ : Array Value) (s : State) (o : Outcome) (t : State) : Prop := o = .returned (some (.int 1)) ∧ Framed s o t [] 1038 10775
def lw_Z (below : List Frame) (a : Array Value) (s : State) : State → Prop := fun t => ∃ o, t.status = .running ∧ Ended t below o ∧ lw_Q a s o t
/-- the law's own end, with 1 on the stack, nothing written that was there before, its room as the claim has it -/
theorem lw_ret {p : Program} {l : Launch} {e : Env} {s : State} {m : MethodId} {below : List Frame} {meth : Method} {c : Code} {b : Nat} (hx : p.tables.exec = Jvm.exec) (hb : c.code = code) (hr : meth.sig.returnType = ret) (hlocks : meth.locks = false) {pc : Nat} {H : Heap} {ls : Array Slot} (hdg : decode code pc = .ok (.ireturn, 1)) : W p l e room_1 s m #[Value.ref b] below meth c H [] 1038 10775 (lw_Z below #[Value.ref b] s) (F0 m pc ls [.int 1]) := by
  intro T hT X
  obtain ⟨fs, hret, hrun, hended, hW, hframe⟩ := X.leave (v := some (.int 1)) (hlocks := hlocks) (fun h => by rw [hr] at h; cases h)
  have hmeth' : T.vm.method? m = some meth := X.method'
  refine ⟨T.setFrames fs, ?_, .returned (some (.int 1)), hrun, hended, rfl, ⟨_, rfl⟩, hW, hframe⟩
  jvm_step X.here [X.here.top, hx, hb, hdg, hmeth', hr, ret, narrow_b1]
  (try refine ⟨rfl, ?_⟩); (try refine ⟨rfl, ?_⟩)
  first | (intro acts; rw [hret _ acts rfl rfl rfl]) | rw [hret _ _ rfl rfl rfl]
  exact Steps.refl _
/-- what holds at the law's entry: the machine, the code, the tables' words (any of lw_tbl by 'hts w (by decide +kernel)'), the script of L ints xs at the cell b, what the Statement gives of the start (any of its parts by flat_of_before) -/
def lw_At (p : Program) (s : State) (m : MethodId) (meth : Method) (c : Code) (b L : Nat) (xs : Nat → Int32) : Prop :=
  p.tables.exec = Jvm.exec ∧ c.code = code ∧ meth.sig.returnType = ret ∧ c.maxLocals = 7 ∧ s.vm.findClass R_law = some m.cls ∧ (∀ w ∈ lw_tbl, w.before #[Value.ref b] s = true) ∧ va_X b L xs s s.heap ∧ b < s.heap.size ∧ meth.locks = false ∧ (Jvm.Cond.and given_1 narrow_1).before #[Value.ref b] s = true

theorem aw_VL {cy : Cond} {own C : String} {idx : Nat} {y : MethodName} (h1 : Cond.methodLink own idx y ∈ aw) (h2 : Cond.instanceMethod y ∈ aw) (h3 : Cond.selects C y y ∈ aw) (h4 : Cond.initialized C ∈ aw) (h5 : cy ∈ aw) : GoodIn lw_tbl (wsV own idx C y (cy :: aw)) := by
  intro w hw
  have h : w ∈ aw := by
    simp only [wsV, List.cons_append, List.nil_append, List.mem_cons] at hw
    rcases hw with rfl | rfl | rfl | rfl | rfl | hw
    · exact h1
    · exact h2
    · exact h3
    · exact h4
    · exact h5
    · exact hw
  exact ⟨aw_tbl h, aw_good h⟩
theorem aw_CL {cy : Cond} (h5 : cy ∈ aw) {args : Array Value} {s : State} (hts : ∀ w ∈ lw_tbl, w.before args s = true) : ∀ w ∈ cy :: aw, ∀ (a' : Array Value) (U : State), s.WarmedH U.vm → w.before a' U = true := by
  refine pay_in hts (fun w hw => ?_)
  have h : w ∈ aw := by
    rcases List.mem_cons.mp hw with rfl | hw
    · exact h5
    · exact hw
  exact ⟨aw_tbl h, aw_good h⟩
theorem lk {D : va_G} {cl : List vw_C} {ws : va_W} {H H1 : Heap} {A1 : Nat → Prop} (hP : va_P D cl ws H) (hk : ∀ q : Nat, q < H.size → ¬ A1 q → H1[q]? = H[q]?) (hn : ∀ (k : Nat) (q : Nat × va_E), ws[k]? = some q → q.1 < H.size → ¬ A1 q.1) : va_P D cl ws H1 := hP.kept (fun k x hx => hk x.1 ((hP k x hx).lt) (hn k x hx ((hP k x hx).lt)))
/-- the places of the three things of the law: new ones, apart from each other -/
def lA (s : State) (cA cI cL : ClassId) (h0 o h1 rw pt ou oa : Nat) : Prop := va_D (aC h0 o) (wC cA h0 o (fun _ => 0) 0) ∧ va_D (aM h1 rw pt ou) (wM cI h1 rw pt ou 0 (fun _ => 0) (fun _ => 0) (fun _ => 0) 0 0) ∧ va_D (fun q => q = oa) (wO cL oa (fun _ => 0)) ∧ (∀ q, aC h0 o q → s.heap.size ≤ q) ∧ (∀ q, aM h1 rw pt ou q → s.heap.size ≤ q) ∧ s.heap.size ≤ oa ∧ (∀ q, aM h1 rw pt ou q → ¬ aC h0 o q) ∧ ¬ aC h0 o oa ∧ ¬ aM h1 rw pt ou oa
theorem ju_len {d : String} {sig : MethodDescriptor} {n : Nat} (h : parseMethodDescriptor d = some sig) (h2 : (parseMethodDescriptor d).map (fun q => q.parameters.length) = some n) : n = sig.parameters.length := by
  rw [h] at h2
  exact (Option.some.inj h2).symm
