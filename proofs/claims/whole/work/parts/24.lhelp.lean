/-! the law's four small methods: a call of the class, its answer or what it threw -/
theorem xl_table {p : Program} {l : Launch} {y : MethodName} {S : Spec} {cc bytes : ByteArray} {maxL maxL' : Nat} {ret ret' : Option FieldType} {e : Env} {s s₁ : State} {m : MethodId} {args : Array Value} {below : List Frame} {meth : Method} {c : Code} {hh : List (Nat × Nat × Nat × Nat)}
    (B : BodyLoose p l y S cc maxL ret e s m args below meth c s₁) (h : (Cond.codeWith y bytes maxL' ret' hh).before args s = true) : c.exceptionTable.toList = tableOf hh := by
  obtain ⟨m9, meth9, c9, hn9, h1, h2, -, -, h5, -, -, -⟩ := Cond.codeWith_spec h
  cases B.named.symm.trans hn9
  cases B.method.symm.trans h1
  cases (Stand.of_body B).code.symm.trans h2
  rw [← h5, table_eq]
theorem xl_runS {p : Program} {l : Launch} {e : Env} {R : Room} {s : State} {m : MethodId} {args : Array Value} {below : List Frame} {meth : Method} {c : Code} {H : Heap} {locs : List Loc} {cells slots : Nat} {Ts ws : List Cond} {cc bytes : ByteArray} {nL maxL index n mc ms : Nat} {own : String} {y : MethodName} {ret : Option FieldType} {hh : List (Nat × Nat × Nat × Nat)} {rm : Room} {Pc : Array Value → State → Prop} {Qc : Array Value → State → Outcome → State → Prop} {free : Addr → Prop} {As rest : List Value} {g : JFrame}
    (S0 : CallFix p m c cc nL s args Ts own) (hM : Met l y ws rm Pc Qc mc ms free) (hrc : rm.cells = mc) (hrs : rm.slots = ms) (hR : rm.frames + 1 ≤ R.frames ∧ 8 + (maxL + 11) + rm.locals ≤ R.locals) (hws : ∀ w ∈ ws, ∀ (a' : Array Value) (U : State), s.WarmedH U.vm → w.before a' U = true) (hcw : Cond.codeWith y bytes maxL ret hh ∈ ws)
    (hcode : (Cond.codeWith y bytes maxL ret hh).before args s = true) (hini : (Cond.initialized y.cls).before args s = true) (hy : y.cls ≠ "java/lang/invoke/MethodHandle" ∧ y.cls ≠ "java/lang/invoke/VarHandle") (hlen : ∀ sig, parseMethodDescriptor y.desc = some sig → n = sig.parameters.length) (hl : (Cond.methodLink own index y).before args s = true) (hstat : (Cond.static y).before args s = true) (hp : PreS s H Pc As)
    (hg : g.method = m) (hn : As.length = n) (hsize : g.locals.size = nL) (hstack : g.stack = As.reverse ++ rest) (hW : 2 * g.monitorRoom + (rest.map fun v => v.category).sum ≤ 8) (hdg : decode cc g.pc = .ok (.invokestatic index, 3)) (hf : cells + mc ≤ R.cells ∧ slots + ms ≤ R.slots) :
    va_Run p l e R s m args below meth c H locs cells slots mc ms g rest (Qc As.toArray) free := by
  have hK : Back l R p e below s args y 3 8 (PreOf R mc ms Pc) (PostOf Qc mc ms free) := va_backW (hh := hh) (bytes := bytes) (maxL := maxL) (ret := ret) hM hp.1 hrc hrs hR.1 hR.2 hws hcw (fun a' U hW => word_at hW (Or.inl (by first | rfl | simp [Cond.onTables, Cond.keeps, Cond.steady])) hini)
  obtain ⟨hx, hb, hml, ho, -⟩ := S0
  intro T hT X
  obtain ⟨mk, methM, cM, hnamed, hmethM, -, -, -, -, -, -, hsigM⟩ := Cond.codeWith_spec hcode
  have hstatic : methM.isStatic = true := Cond.static_spec hnamed hmethM hstat
  obtain ⟨kP, hkP, -⟩ := className_of_methodNamed hnamed
  have hinitP : kP.init = .initialized := Cond.initialized_spec (findClass_of_methodNamed hnamed) hkP hini
  obtain ⟨vm₁, X₁, hstep₁⟩ := X.invokestatic hx ho hl hnamed hmethM hstatic hkP hinitP hy (g := g) hg (argsL := As) (rest := rest) (hn.trans (hlen _ hsigM)) hstack (by rw [hb]; exact hdg)
  obtain ⟨v, ⟨U', l2, c2, s2⟩, X', ⟨g', mk', t, L, e1, e2, hq, h1, hL, h2, h3⟩, hsteps⟩ := hK m meth c ⟨T.setVm vm₁, locs, cells, slots⟩ { g with stack := rest } (.invokestatic index) mk As.toArray X₁ hg (hsize.trans hml.symm) (by rw [hb]; exact hdg) hW (X₁.named hnamed) ⟨hf.1, hf.2, hp.2 (T.setVm vm₁) hT X₁.warmed⟩
  dsimp only [Pt.U, Pt.locs, Pt.cells, Pt.slots] at X' e1 e2 h1 h2 h3 hsteps
  subst h1; subst h2; subst h3
  exact ⟨v, (T.setVm vm₁).calling g' mk' As.toArray, t, U', L, hT, X', hL, e1, e2, hq, fun target h => hstep₁ _ fun acts => by rw [doInvoke_state]; exact hsteps.trans h⟩
/-- an object of the class lies at x -/
def xR (x : Nat) (U : State) (H : Heap) : Prop := ∃ cell : Cell, H[x]? = some cell ∧ cell.vm.isStatics = false ∧ U.vm.findClass "CodeWords" = some cell.cls
/-- which of the three exceptions is which -/
def xN (U : State) : Prop := va_Nw (.castable "java/lang/IndexOutOfBoundsException" "java/lang/IndexOutOfBoundsException") U ∧ va_Nw (.castable "java/lang/IllegalArgumentException" "java/lang/IllegalArgumentException") U ∧ va_Nw (.castable "java/util/NoSuchElementException" "java/util/NoSuchElementException") U ∧ va_Nc "java/lang/IllegalArgumentException" "java/lang/IndexOutOfBoundsException" U
abbrev wO (cL : ClassId) (oa : Nat) (g : Nat → Int64) : va_W := [(oa, .inl (cL, 1, .inr (.inl g)))]
/-- what such a method is called with -/
def xPc (dC : Nat → ClassId) (dI : Nat → Nat → Nat) (ad sk sv : Nat → Nat) (tK : Nat) (cL : ClassId) (x oa sz : Nat) (g : Nat → Int64) (A : Nat → Prop) (U : State) : Prop := U.heap.size = sz ∧ va_P (dC, dI) cls2 (wO cL oa g) U.heap ∧ va_K (dC, dI) cls2 [(cL, .long)] U ∧ va_D A (wO cL oa g) ∧ (∀ q, sz ≤ q → A q) ∧ xR x U U.heap ∧ tb ad sk sv tK A U U.heap ∧ xb A U U.heap ∧ xN U
theorem xPc_blind {av : List Value} {dC : Nat → ClassId} {dI : Nat → Nat → Nat} {ad sk sv : Nat → Nat} {tK : Nat} {cL : ClassId} {x oa sz : Nat} {g : Nat → Int64} {A : Nat → Prop} : FrameBlind (va_Pc av (xPc dC dI ad sk sv tK cL x oa sz g A)) :=
  fun a U f mk q => ⟨q.1, q.2.1, q.2.2.1, va_K.moved (u := U) (U := U.calling f mk a) (Vm.Alike.refl U.vm) q.2.2.2.1, q.2.2.2.2.1, q.2.2.2.2.2.1, q.2.2.2.2.2.2.1, q.2.2.2.2.2.2.2.1.call, q.2.2.2.2.2.2.2.2.1.call, va_Nw.same rfl rfl q.2.2.2.2.2.2.2.2.2.1, va_Nw.same rfl rfl q.2.2.2.2.2.2.2.2.2.2.1, va_Nw.same rfl rfl q.2.2.2.2.2.2.2.2.2.2.2.1, va_Nc.moved (u := U) (U := U.calling f mk a) (Vm.Alike.refl U.vm) q.2.2.2.2.2.2.2.2.2.2.2.2⟩
theorem xc_rowT {e : Env} {s : State} {args : Array Value} {own E : String} {d : ClassId} {pc : Nat} {x : ExceptionTableEntry} (hpl : e.platform.magicAccessors = ({} : Platform).magicAccessors) (hown : s.vm.findClass own = some d) (hlink : (Cond.classLink own x.catchType E).before args s = true) (hc : va_Nw (.castable E E) s) (hx : covers x pc = true) (h0 : x.catchType ≠ 0) {k0 : ClassId} (hk : s.vm.findClass E = some k0) : xcRow e.platform s d pc k0 true x := by
  obtain ⟨c5, hc5, hcl5⟩ := Cond.classLink_spec hown hlink e.platform hpl
  obtain ⟨c3, c4, hc3, hc4, hasg⟩ := Cond.castable_spec hc
  cases Option.some.inj (hc3.symm.trans hk)
  cases Option.some.inj (hc4.symm.trans hc5)
  exact ⟨hx, h0, _, hcl5, hasg⟩
theorem xc_rowF {e : Env} {s : State} {args : Array Value} {own E N : String} {d : ClassId} {pc : Nat} {x : ExceptionTableEntry} (hpl : e.platform.magicAccessors = ({} : Platform).magicAccessors) (hown : s.vm.findClass own = some d) (hlink : (Cond.classLink own x.catchType N).before args s = true) (hc : va_Nc E N s) (hx : covers x pc = true) (h0 : x.catchType ≠ 0) {k0 : ClassId} (hk : s.vm.findClass E = some k0) : xcRow e.platform s d pc k0 false x := by
  obtain ⟨c5, hc5, hcl5⟩ := Cond.classLink_spec hown hlink e.platform hpl
  obtain ⟨a8, b8, h1, h2, h3⟩ := hc
  cases Option.some.inj (h1.symm.trans hk)
  cases Option.some.inj (h2.symm.trans hc5)
  exact ⟨hx, h0, _, hcl5, h3⟩

set_option maxHeartbeats 4000000 in
set_option maxRecDepth 100000 in
theorem r_L_word (l : Launch) (hfl : l.stackTraces = false) {ad sk sv : Nat → Nat} {tK : Nat} (dC : Nat → ClassId) (dI : Nat → Nat → Nat) (cL : ClassId) (x oa sz : Nat) (g : Nat → Int64) (A : Nat → Prop) (a0 : Int32) (a1 : Int32) (a2 : Int32) (a3 : Int32) (a4 : Int32) (v : Int32) (hf : f_C_word a0 a1 a2 a3 a4 = some (.inl v)) : Met l y_L_word (Cond.codeWith y_L_word b_L_word 8 (Option.some FieldType.int) [(0, 16, 19, 13), (0, 16, 23, 15)] :: aw) ({ frames := 8, cells := 1, slots := 6, locals := 178 } : Room) (va_Pc [.ref (x), .int (a0), .int (a1), .int (a2), .int (a3), .int (a4), .ref (oa)] (xPc dC dI ad sk sv tK cL x oa sz g A)) (va_Qi (fun (k : Int32) (u : Nat → Int64) => k = 0 ∧ u = vp_updL g (0 : Int32).toNatClampNeg v.toInt64) (fun u t => va_P (dC, dI) cls2 (wO cL oa u) t.heap) A) 1 6 A := by
  refine va_MetW (cc := b_L_word) (maxL := 8) (ret := (Option.some FieldType.int)) (hh := [(0, 16, 19, 13), (0, 16, 23, 15)]) (by decide) rfl ?_
  intro p e s m args below meth c s₁ B hml hv
  obtain ⟨rfl, hsz, hP, hK, hD, hA, hR, hT, hXb, hN⟩ := hv
  subst hsz
  have hx := B.exec
  have hb := B.bytes
  have hr := B.returns
  have hts := atoms_spec (ws := (Cond.codeWith y_L_word b_L_word 8 (Option.some FieldType.int) [(0, 16, 19, 13), (0, 16, 23, 15)] :: aw)) B.pre
  have ht : ∀ {w : Cond}, w ∈ aw → w.before ([.ref (x), .int (a0), .int (a1), .int (a2), .int (a3), .int (a4), .ref (oa)] : List Value).toArray s = true := fun h => hts _ (List.mem_cons_of_mem _ h)
  have hown : s.vm.findClass "CodeWordsLaw" = some m.cls := findClass_of_methodNamed B.named
  have hlocks := B.notSynchronized
  have hpl : e.platform.magicAccessors = ({} : Platform).magicAccessors := by rw [(Stand.of_body B).admits.platform]
  have hS : va_S A s.heap s.heap [] := va_S.rf
  have hl := lv_entry ([.ref (x), .int (a0), .int (a1), .int (a2), .int (a3), .int (a4), .ref (oa)]) (n := 8) (Nat.le_of_ble_eq_true rfl)
  rw [lg_entry_eq]
  generalize (lg_sl ([.ref (x), .int (a0), .int (a1), .int (a2), .int (a3), .int (a4), .ref (oa)]) ++ List.replicate (8 - (lg_sl ([.ref (x), .int (a0), .int (a1), .int (a2), .int (a3), .int (a4), .ref (oa)])).length) Slot.unset).toArray = ls at hl ⊢
  have hl : lv_has ls 8 [(0, .ref (x)), (1, .int (a0)), (2, .int (a1)), (3, .int (a2)), (4, .int (a3)), (5, .int (a4)), (6, .ref (oa))] := hl
  refine lv_aload hx hb d_L_word_0 (lv_at hl 6 rfl) ?_
  refine lv_iconst (v := 0) hx hb d_L_word_2 (by decide) ?_
  refine lv_aload_n hx hb d_L_word_3 rfl (lv_at hl 0 rfl) ?_
  refine lv_iload_n hx hb d_L_word_4 rfl (lv_at hl 1 rfl) ?_
  refine lv_iload_n hx hb d_L_word_5 rfl (lv_at hl 2 rfl) ?_
  refine lv_iload_n hx hb d_L_word_6 rfl (lv_at hl 3 rfl) ?_
  refine lv_iload hx hb d_L_word_7 (lv_at hl 4 rfl) ?_
  refine lv_iload hx hb d_L_word_9 (lv_at hl 5 rfl) ?_
  refine ju_calli (W.runV (As := [.int (a0), .int (a1), .int (a2), .int (a3), .int (a4)]) (rest := [.int 0, .ref oa]) ⟨hx, hb, hml, hown, hts⟩ (c_C_word l (ad := ad) (sk := sk) (sv := sv) (tK := tK) x a0 a1 a2 a3 a4 v hf) (cwV 5 hts (aw_V aw_257 aw_258 aw_259 aw_1 aw_260) rfl rfl rfl (by decide +kernel) ⟨Nat.le_of_ble_eq_true rfl, Nat.le_of_ble_eq_true rfl⟩) ⟨fun a U g mk q => ⟨q.1, q.2.call⟩, hR, fun U hU hW => ⟨rfl, hT.at hS hU hW (fun _ z => z.elim)⟩⟩ rfl rfl hl.1 rfl (lv_room (Nat.le_of_ble_eq_true rfl)) d_L_word_11 ⟨Nat.le_of_ble_eq_true rfl, Nat.le_of_ble_eq_true rfl⟩) ?_
  refine lv_i2l (v := v.toInt64) hx hb d_L_word_14 rfl ?_
  refine va_last hx hb hK hP hD hS 0 0 rfl rfl (i := 0) (by unfold vp_in; decide) d_L_word_15 (fun H locs hP hD hS => ?_)
  refine lv_goto (tgt := 27) hx hb d_L_word_16 (by decide) ?_
  refine lv_iconst (v := 0) hx hb d_L_word_27 (by decide) ?_
  refine W.widen (k := 1) (n := 6) (Nat.le_of_ble_eq_true rfl) (Nat.le_of_ble_eq_true rfl) ?_
  exact W.iret (v := 0) hx hb hr (fun t ht hW => ⟨⟨0, _, rfl, ⟨rfl, rfl⟩, by rw [← ht] at hP; exact hP⟩, hS.F ht⟩) hS.2.2 d_L_word_28
set_option maxHeartbeats 4000000 in
set_option maxRecDepth 100000 in
theorem t1_L_word (l : Launch) (hfl : l.stackTraces = false) {ad sk sv : Nat → Nat} {tK : Nat} (dC : Nat → ClassId) (dI : Nat → Nat → Nat) (cL : ClassId) (x oa sz : Nat) (g : Nat → Int64) (A : Nat → Prop) (a0 : Int32) (a1 : Int32) (a2 : Int32) (a3 : Int32) (a4 : Int32) (hf : f_C_word a0 a1 a2 a3 a4 = some (.inr "java/lang/IndexOutOfBoundsException")) : Met l y_L_word (Cond.codeWith y_L_word b_L_word 8 (Option.some FieldType.int) [(0, 16, 19, 13), (0, 16, 23, 15)] :: aw) ({ frames := 8, cells := 1, slots := 6, locals := 178 } : Room) (va_Pc [.ref (x), .int (a0), .int (a1), .int (a2), .int (a3), .int (a4), .ref (oa)] (xPc dC dI ad sk sv tK cL x oa sz g A)) (va_Qi (fun (k : Int32) (u : Nat → Int64) => k = 1 ∧ u = g) (fun u t => va_P (dC, dI) cls2 (wO cL oa u) t.heap) A) 1 6 A := by
  refine va_MetW (cc := b_L_word) (maxL := 8) (ret := (Option.some FieldType.int)) (hh := [(0, 16, 19, 13), (0, 16, 23, 15)]) (by decide) rfl ?_
  intro p e s m args below meth c s₁ B hml hv
  obtain ⟨rfl, hsz, hP, hK, hD, hA, hR, hT, hXb, hN⟩ := hv
  subst hsz
  have hx := B.exec
  have hb := B.bytes
  have hr := B.returns
  have hts := atoms_spec (ws := (Cond.codeWith y_L_word b_L_word 8 (Option.some FieldType.int) [(0, 16, 19, 13), (0, 16, 23, 15)] :: aw)) B.pre
  have ht : ∀ {w : Cond}, w ∈ aw → w.before ([.ref (x), .int (a0), .int (a1), .int (a2), .int (a3), .int (a4), .ref (oa)] : List Value).toArray s = true := fun h => hts _ (List.mem_cons_of_mem _ h)
  have hown : s.vm.findClass "CodeWordsLaw" = some m.cls := findClass_of_methodNamed B.named
  have hlocks := B.notSynchronized
  have hpl : e.platform.magicAccessors = ({} : Platform).magicAccessors := by rw [(Stand.of_body B).admits.platform]
  have hS : va_S A s.heap s.heap [] := va_S.rf
  have hl := lv_entry ([.ref (x), .int (a0), .int (a1), .int (a2), .int (a3), .int (a4), .ref (oa)]) (n := 8) (Nat.le_of_ble_eq_true rfl)
  rw [lg_entry_eq]
  generalize (lg_sl ([.ref (x), .int (a0), .int (a1), .int (a2), .int (a3), .int (a4), .ref (oa)]) ++ List.replicate (8 - (lg_sl ([.ref (x), .int (a0), .int (a1), .int (a2), .int (a3), .int (a4), .ref (oa)])).length) Slot.unset).toArray = ls at hl ⊢
  have hl : lv_has ls 8 [(0, .ref (x)), (1, .int (a0)), (2, .int (a1)), (3, .int (a2)), (4, .int (a3)), (5, .int (a4)), (6, .ref (oa))] := hl
  refine lv_aload hx hb d_L_word_0 (lv_at hl 6 rfl) ?_
  refine lv_iconst (v := 0) hx hb d_L_word_2 (by decide) ?_
  refine lv_aload_n hx hb d_L_word_3 rfl (lv_at hl 0 rfl) ?_
  refine lv_iload_n hx hb d_L_word_4 rfl (lv_at hl 1 rfl) ?_
  refine lv_iload_n hx hb d_L_word_5 rfl (lv_at hl 2 rfl) ?_
  refine lv_iload_n hx hb d_L_word_6 rfl (lv_at hl 3 rfl) ?_
  refine lv_iload hx hb d_L_word_7 (lv_at hl 4 rfl) ?_
  refine lv_iload hx hb d_L_word_9 (lv_at hl 5 rfl) ?_
  refine xc_callV (E := "java/lang/IndexOutOfBoundsException") (As := [.int (a0), .int (a1), .int (a2), .int (a3), .int (a4)]) (rest := [.int 0, .ref oa]) (pre := []) (x := (⟨0, 16, 19, 13⟩ : ExceptionTableEntry)) (suf := [(⟨0, 16, 23, 15⟩ : ExceptionTableEntry)]) ⟨hx, hb, hml, hown, hts⟩ (x_C_word l hfl (ad := ad) (sk := sk) (sv := sv) (tK := tK) x a0 a1 a2 a3 a4 _ hf) (cwV 5 hts (aw_V aw_257 aw_258 aw_259 aw_1 aw_260) rfl rfl rfl (by decide +kernel) ⟨Nat.le_of_ble_eq_true rfl, Nat.le_of_ble_eq_true rfl⟩) ⟨fun a U g mk q => ⟨q.1, q.2.1.call, q.2.2.call⟩, hR, fun U hU hW => ⟨rfl, hT.at hS hU hW (fun _ z => z.elim), hXb.at hS hU hW (fun _ z => z.elim)⟩⟩ rfl hl.1 (lv_room (Nat.le_of_ble_eq_true rfl)) d_L_word_11 ⟨Nat.le_of_ble_eq_true rfl, Nat.le_of_ble_eq_true rfl⟩ (xl_table B (hts _ List.mem_cons_self)) (fun k0 hk => ⟨(fun _ z => absurd z List.not_mem_nil), xc_rowT hpl hown (ht aw_255) hN.1 rfl (by decide) hk⟩) (fun q H1 hz1 hk1 => ?_)
  have hP : va_P (dC, dI) cls2 (wO cL oa g) H1 := hP.kept (fun k z hz => hk1 z.1 ((hP k z hz).lt))
  have hS : va_S A s.heap H1 [] := ⟨hz1, fun q h1 _ => hk1 q h1, fun _ z => nomatch z⟩
  refine lv_astore (lv' := [(7, .ref (q)), (0, .ref (x)), (1, .int (a0)), (2, .int (a1)), (3, .int (a2)), (4, .int (a3)), (5, .int (a4)), (6, .ref (oa))]) hx hb d_L_word_19 hl (by decide) rfl (fun ls hl => ?_)
  refine lv_iconst (v := 1) hx hb d_L_word_21 (by decide) ?_
  exact W.iret (v := 1) hx hb hr (fun t ht hW => ⟨⟨1, _, rfl, ⟨rfl, rfl⟩, by rw [← ht] at hP; exact hP⟩, hS.F ht⟩) hS.2.2 d_L_word_22
set_option maxHeartbeats 4000000 in
set_option maxRecDepth 100000 in
theorem t2_L_word (l : Launch) (hfl : l.stackTraces = false) {ad sk sv : Nat → Nat} {tK : Nat} (dC : Nat → ClassId) (dI : Nat → Nat → Nat) (cL : ClassId) (x oa sz : Nat) (g : Nat → Int64) (A : Nat → Prop) (a0 : Int32) (a1 : Int32) (a2 : Int32) (a3 : Int32) (a4 : Int32) (hf : f_C_word a0 a1 a2 a3 a4 = some (.inr "java/lang/IllegalArgumentException")) : Met l y_L_word (Cond.codeWith y_L_word b_L_word 8 (Option.some FieldType.int) [(0, 16, 19, 13), (0, 16, 23, 15)] :: aw) ({ frames := 8, cells := 1, slots := 6, locals := 178 } : Room) (va_Pc [.ref (x), .int (a0), .int (a1), .int (a2), .int (a3), .int (a4), .ref (oa)] (xPc dC dI ad sk sv tK cL x oa sz g A)) (va_Qi (fun (k : Int32) (u : Nat → Int64) => k = 2 ∧ u = g) (fun u t => va_P (dC, dI) cls2 (wO cL oa u) t.heap) A) 1 6 A := by
  refine va_MetW (cc := b_L_word) (maxL := 8) (ret := (Option.some FieldType.int)) (hh := [(0, 16, 19, 13), (0, 16, 23, 15)]) (by decide) rfl ?_
  intro p e s m args below meth c s₁ B hml hv
  obtain ⟨rfl, hsz, hP, hK, hD, hA, hR, hT, hXb, hN⟩ := hv
  subst hsz
  have hx := B.exec
  have hb := B.bytes
  have hr := B.returns
  have hts := atoms_spec (ws := (Cond.codeWith y_L_word b_L_word 8 (Option.some FieldType.int) [(0, 16, 19, 13), (0, 16, 23, 15)] :: aw)) B.pre
  have ht : ∀ {w : Cond}, w ∈ aw → w.before ([.ref (x), .int (a0), .int (a1), .int (a2), .int (a3), .int (a4), .ref (oa)] : List Value).toArray s = true := fun h => hts _ (List.mem_cons_of_mem _ h)
  have hown : s.vm.findClass "CodeWordsLaw" = some m.cls := findClass_of_methodNamed B.named
  have hlocks := B.notSynchronized
  have hpl : e.platform.magicAccessors = ({} : Platform).magicAccessors := by rw [(Stand.of_body B).admits.platform]
  have hS : va_S A s.heap s.heap [] := va_S.rf
  have hl := lv_entry ([.ref (x), .int (a0), .int (a1), .int (a2), .int (a3), .int (a4), .ref (oa)]) (n := 8) (Nat.le_of_ble_eq_true rfl)
  rw [lg_entry_eq]
  generalize (lg_sl ([.ref (x), .int (a0), .int (a1), .int (a2), .int (a3), .int (a4), .ref (oa)]) ++ List.replicate (8 - (lg_sl ([.ref (x), .int (a0), .int (a1), .int (a2), .int (a3), .int (a4), .ref (oa)])).length) Slot.unset).toArray = ls at hl ⊢
  have hl : lv_has ls 8 [(0, .ref (x)), (1, .int (a0)), (2, .int (a1)), (3, .int (a2)), (4, .int (a3)), (5, .int (a4)), (6, .ref (oa))] := hl
  refine lv_aload hx hb d_L_word_0 (lv_at hl 6 rfl) ?_
  refine lv_iconst (v := 0) hx hb d_L_word_2 (by decide) ?_
  refine lv_aload_n hx hb d_L_word_3 rfl (lv_at hl 0 rfl) ?_
  refine lv_iload_n hx hb d_L_word_4 rfl (lv_at hl 1 rfl) ?_
  refine lv_iload_n hx hb d_L_word_5 rfl (lv_at hl 2 rfl) ?_
  refine lv_iload_n hx hb d_L_word_6 rfl (lv_at hl 3 rfl) ?_
  refine lv_iload hx hb d_L_word_7 (lv_at hl 4 rfl) ?_
  refine lv_iload hx hb d_L_word_9 (lv_at hl 5 rfl) ?_
  refine xc_callV (E := "java/lang/IllegalArgumentException") (As := [.int (a0), .int (a1), .int (a2), .int (a3), .int (a4)]) (rest := [.int 0, .ref oa]) (pre := [(⟨0, 16, 19, 13⟩ : ExceptionTableEntry)]) (x := (⟨0, 16, 23, 15⟩ : ExceptionTableEntry)) (suf := []) ⟨hx, hb, hml, hown, hts⟩ (x_C_word l hfl (ad := ad) (sk := sk) (sv := sv) (tK := tK) x a0 a1 a2 a3 a4 _ hf) (cwV 5 hts (aw_V aw_257 aw_258 aw_259 aw_1 aw_260) rfl rfl rfl (by decide +kernel) ⟨Nat.le_of_ble_eq_true rfl, Nat.le_of_ble_eq_true rfl⟩) ⟨fun a U g mk q => ⟨q.1, q.2.1.call, q.2.2.call⟩, hR, fun U hU hW => ⟨rfl, hT.at hS hU hW (fun _ z => z.elim), hXb.at hS hU hW (fun _ z => z.elim)⟩⟩ rfl hl.1 (lv_room (Nat.le_of_ble_eq_true rfl)) d_L_word_11 ⟨Nat.le_of_ble_eq_true rfl, Nat.le_of_ble_eq_true rfl⟩ (xl_table B (hts _ List.mem_cons_self)) (fun k0 hk => ⟨(List.forall_mem_cons.mpr ⟨xc_rowF hpl hown (ht aw_255) hN.2.2.2 rfl (by decide) hk, (fun _ z => absurd z List.not_mem_nil)⟩), xc_rowT hpl hown (ht aw_256) hN.2.1 rfl (by decide) hk⟩) (fun q H1 hz1 hk1 => ?_)
  have hP : va_P (dC, dI) cls2 (wO cL oa g) H1 := hP.kept (fun k z hz => hk1 z.1 ((hP k z hz).lt))
  have hS : va_S A s.heap H1 [] := ⟨hz1, fun q h1 _ => hk1 q h1, fun _ z => nomatch z⟩
  refine lv_astore (lv' := [(7, .ref (q)), (0, .ref (x)), (1, .int (a0)), (2, .int (a1)), (3, .int (a2)), (4, .int (a3)), (5, .int (a4)), (6, .ref (oa))]) hx hb d_L_word_23 hl (by decide) rfl (fun ls hl => ?_)
  refine lv_iconst (v := 2) hx hb d_L_word_25 (by decide) ?_
  exact W.iret (v := 2) hx hb hr (fun t ht hW => ⟨⟨2, _, rfl, ⟨rfl, rfl⟩, by rw [← ht] at hP; exact hP⟩, hS.F ht⟩) hS.2.2 d_L_word_26

set_option maxHeartbeats 4000000 in
set_option maxRecDepth 100000 in
theorem r_L_part (l : Launch) (hfl : l.stackTraces = false) {ad sk sv : Nat → Nat} {tK : Nat} (dC : Nat → ClassId) (dI : Nat → Nat → Nat) (cL : ClassId) (x oa sz : Nat) (g : Nat → Int64) (A : Nat → Prop) (a0 : Int32) (a1 : Int32) (v : Int32) (hf : f_C_part a0 a1 = some (.inl v)) : Met l y_L_part (Cond.codeWith y_L_part b_L_part 5 (Option.some FieldType.int) [(0, 10, 13, 21)] :: aw) ({ frames := 10, cells := 1, slots := 6, locals := 218 } : Room) (va_Pc [.ref (x), .int (a0), .int (a1), .ref (oa)] (xPc dC dI ad sk sv tK cL x oa sz g A)) (va_Qi (fun (k : Int32) (u : Nat → Int64) => k = 0 ∧ u = vp_updL g (0 : Int32).toNatClampNeg v.toInt64) (fun u t => va_P (dC, dI) cls2 (wO cL oa u) t.heap) A) 1 6 A := by
  refine va_MetW (cc := b_L_part) (maxL := 5) (ret := (Option.some FieldType.int)) (hh := [(0, 10, 13, 21)]) (by decide) rfl ?_
  intro p e s m args below meth c s₁ B hml hv
  obtain ⟨rfl, hsz, hP, hK, hD, hA, hR, hT, hXb, hN⟩ := hv
  subst hsz
  have hx := B.exec
  have hb := B.bytes
  have hr := B.returns
  have hts := atoms_spec (ws := (Cond.codeWith y_L_part b_L_part 5 (Option.some FieldType.int) [(0, 10, 13, 21)] :: aw)) B.pre
  have ht : ∀ {w : Cond}, w ∈ aw → w.before ([.ref (x), .int (a0), .int (a1), .ref (oa)] : List Value).toArray s = true := fun h => hts _ (List.mem_cons_of_mem _ h)
  have hown : s.vm.findClass "CodeWordsLaw" = some m.cls := findClass_of_methodNamed B.named
  have hlocks := B.notSynchronized
  have hpl : e.platform.magicAccessors = ({} : Platform).magicAccessors := by rw [(Stand.of_body B).admits.platform]
  have hS : va_S A s.heap s.heap [] := va_S.rf
  have hl := lv_entry ([.ref (x), .int (a0), .int (a1), .ref (oa)]) (n := 5) (Nat.le_of_ble_eq_true rfl)
  rw [lg_entry_eq]
  generalize (lg_sl ([.ref (x), .int (a0), .int (a1), .ref (oa)]) ++ List.replicate (5 - (lg_sl ([.ref (x), .int (a0), .int (a1), .ref (oa)])).length) Slot.unset).toArray = ls at hl ⊢
  have hl : lv_has ls 5 [(0, .ref (x)), (1, .int (a0)), (2, .int (a1)), (3, .ref (oa))] := hl
  refine lv_aload_n hx hb d_L_part_0 rfl (lv_at hl 3 rfl) ?_
  refine lv_iconst (v := 0) hx hb d_L_part_1 (by decide) ?_
  refine lv_aload_n hx hb d_L_part_2 rfl (lv_at hl 0 rfl) ?_
  refine lv_iload_n hx hb d_L_part_3 rfl (lv_at hl 1 rfl) ?_
  refine lv_iload_n hx hb d_L_part_4 rfl (lv_at hl 2 rfl) ?_
  refine ju_calli (W.runV (As := [.int (a0), .int (a1)]) (rest := [.int 0, .ref oa]) ⟨hx, hb, hml, hown, hts⟩ (c_C_part l (ad := ad) (sk := sk) (sv := sv) (tK := tK) x a0 a1 v hf) (cwV 2 hts (aw_V aw_348 aw_349 aw_350 aw_1 aw_351) rfl rfl rfl (by decide +kernel) ⟨Nat.le_of_ble_eq_true rfl, Nat.le_of_ble_eq_true rfl⟩) ⟨fun a U g mk q => ⟨q.1, q.2.call⟩, hR, fun U hU hW => ⟨rfl, hT.at hS hU hW (fun _ z => z.elim)⟩⟩ rfl rfl hl.1 rfl (lv_room (Nat.le_of_ble_eq_true rfl)) d_L_part_5 ⟨Nat.le_of_ble_eq_true rfl, Nat.le_of_ble_eq_true rfl⟩) ?_
  refine lv_i2l (v := v.toInt64) hx hb d_L_part_8 rfl ?_
  refine va_last hx hb hK hP hD hS 0 0 rfl rfl (i := 0) (by unfold vp_in; decide) d_L_part_9 (fun H locs hP hD hS => ?_)
  refine lv_goto (tgt := 17) hx hb d_L_part_10 (by decide) ?_
  refine lv_iconst (v := 0) hx hb d_L_part_17 (by decide) ?_
  refine W.widen (k := 1) (n := 6) (Nat.le_of_ble_eq_true rfl) (Nat.le_of_ble_eq_true rfl) ?_
  exact W.iret (v := 0) hx hb hr (fun t ht hW => ⟨⟨0, _, rfl, ⟨rfl, rfl⟩, by rw [← ht] at hP; exact hP⟩, hS.F ht⟩) hS.2.2 d_L_part_18
set_option maxHeartbeats 4000000 in
set_option maxRecDepth 100000 in
theorem t1_L_part (l : Launch) (hfl : l.stackTraces = false) {ad sk sv : Nat → Nat} {tK : Nat} (dC : Nat → ClassId) (dI : Nat → Nat → Nat) (cL : ClassId) (x oa sz : Nat) (g : Nat → Int64) (A : Nat → Prop) (a0 : Int32) (a1 : Int32) (hf : f_C_part a0 a1 = some (.inr "java/util/NoSuchElementException")) : Met l y_L_part (Cond.codeWith y_L_part b_L_part 5 (Option.some FieldType.int) [(0, 10, 13, 21)] :: aw) ({ frames := 10, cells := 1, slots := 6, locals := 218 } : Room) (va_Pc [.ref (x), .int (a0), .int (a1), .ref (oa)] (xPc dC dI ad sk sv tK cL x oa sz g A)) (va_Qi (fun (k : Int32) (u : Nat → Int64) => k = 1 ∧ u = g) (fun u t => va_P (dC, dI) cls2 (wO cL oa u) t.heap) A) 1 6 A := by
  refine va_MetW (cc := b_L_part) (maxL := 5) (ret := (Option.some FieldType.int)) (hh := [(0, 10, 13, 21)]) (by decide) rfl ?_
  intro p e s m args below meth c s₁ B hml hv
  obtain ⟨rfl, hsz, hP, hK, hD, hA, hR, hT, hXb, hN⟩ := hv
  subst hsz
  have hx := B.exec
  have hb := B.bytes
  have hr := B.returns
  have hts := atoms_spec (ws := (Cond.codeWith y_L_part b_L_part 5 (Option.some FieldType.int) [(0, 10, 13, 21)] :: aw)) B.pre
  have ht : ∀ {w : Cond}, w ∈ aw → w.before ([.ref (x), .int (a0), .int (a1), .ref (oa)] : List Value).toArray s = true := fun h => hts _ (List.mem_cons_of_mem _ h)
  have hown : s.vm.findClass "CodeWordsLaw" = some m.cls := findClass_of_methodNamed B.named
  have hlocks := B.notSynchronized
  have hpl : e.platform.magicAccessors = ({} : Platform).magicAccessors := by rw [(Stand.of_body B).admits.platform]
  have hS : va_S A s.heap s.heap [] := va_S.rf
  have hl := lv_entry ([.ref (x), .int (a0), .int (a1), .ref (oa)]) (n := 5) (Nat.le_of_ble_eq_true rfl)
  rw [lg_entry_eq]
  generalize (lg_sl ([.ref (x), .int (a0), .int (a1), .ref (oa)]) ++ List.replicate (5 - (lg_sl ([.ref (x), .int (a0), .int (a1), .ref (oa)])).length) Slot.unset).toArray = ls at hl ⊢
  have hl : lv_has ls 5 [(0, .ref (x)), (1, .int (a0)), (2, .int (a1)), (3, .ref (oa))] := hl
  refine lv_aload_n hx hb d_L_part_0 rfl (lv_at hl 3 rfl) ?_
  refine lv_iconst (v := 0) hx hb d_L_part_1 (by decide) ?_
  refine lv_aload_n hx hb d_L_part_2 rfl (lv_at hl 0 rfl) ?_
  refine lv_iload_n hx hb d_L_part_3 rfl (lv_at hl 1 rfl) ?_
  refine lv_iload_n hx hb d_L_part_4 rfl (lv_at hl 2 rfl) ?_
  refine xc_callV (E := "java/util/NoSuchElementException") (As := [.int (a0), .int (a1)]) (rest := [.int 0, .ref oa]) (pre := []) (x := (⟨0, 10, 13, 21⟩ : ExceptionTableEntry)) (suf := []) ⟨hx, hb, hml, hown, hts⟩ (x_C_part l hfl (ad := ad) (sk := sk) (sv := sv) (tK := tK) x a0 a1 _ hf) (cwV 2 hts (aw_V aw_348 aw_349 aw_350 aw_1 aw_351) rfl rfl rfl (by decide +kernel) ⟨Nat.le_of_ble_eq_true rfl, Nat.le_of_ble_eq_true rfl⟩) ⟨fun a U g mk q => ⟨q.1, q.2.1.call, q.2.2.call⟩, hR, fun U hU hW => ⟨rfl, hT.at hS hU hW (fun _ z => z.elim), hXb.at hS hU hW (fun _ z => z.elim)⟩⟩ rfl hl.1 (lv_room (Nat.le_of_ble_eq_true rfl)) d_L_part_5 ⟨Nat.le_of_ble_eq_true rfl, Nat.le_of_ble_eq_true rfl⟩ (xl_table B (hts _ List.mem_cons_self)) (fun k0 hk => ⟨(fun _ z => absurd z List.not_mem_nil), xc_rowT hpl hown (ht aw_347) hN.2.2.1 rfl (by decide) hk⟩) (fun q H1 hz1 hk1 => ?_)
  have hP : va_P (dC, dI) cls2 (wO cL oa g) H1 := hP.kept (fun k z hz => hk1 z.1 ((hP k z hz).lt))
  have hS : va_S A s.heap H1 [] := ⟨hz1, fun q h1 _ => hk1 q h1, fun _ z => nomatch z⟩
  refine lv_astore (lv' := [(4, .ref (q)), (0, .ref (x)), (1, .int (a0)), (2, .int (a1)), (3, .ref (oa))]) hx hb d_L_part_13 hl (by decide) rfl (fun ls hl => ?_)
  refine lv_iconst (v := 1) hx hb d_L_part_15 (by decide) ?_
  exact W.iret (v := 1) hx hb hr (fun t ht hW => ⟨⟨1, _, rfl, ⟨rfl, rfl⟩, by rw [← ht] at hP; exact hP⟩, hS.F ht⟩) hS.2.2 d_L_part_16

set_option maxHeartbeats 4000000 in
set_option maxRecDepth 100000 in
theorem r_L_longer (l : Launch) (hfl : l.stackTraces = false) {ad sk sv : Nat → Nat} {tK : Nat} (dC : Nat → ClassId) (dI : Nat → Nat → Nat) (cL : ClassId) (x oa sz : Nat) (g : Nat → Int64) (A : Nat → Prop) (a0 : Int32) (v : Int32) (hf : f_C_longer a0 = some (.inl v)) : Met l y_L_longer (Cond.codeWith y_L_longer b_L_longer 4 (Option.some FieldType.int) [(0, 9, 12, 21)] :: aw) ({ frames := 10, cells := 1, slots := 6, locals := 218 } : Room) (va_Pc [.ref (x), .int (a0), .ref (oa)] (xPc dC dI ad sk sv tK cL x oa sz g A)) (va_Qi (fun (k : Int32) (u : Nat → Int64) => k = 0 ∧ u = vp_updL g (0 : Int32).toNatClampNeg v.toInt64) (fun u t => va_P (dC, dI) cls2 (wO cL oa u) t.heap) A) 1 6 A := by
  refine va_MetW (cc := b_L_longer) (maxL := 4) (ret := (Option.some FieldType.int)) (hh := [(0, 9, 12, 21)]) (by decide) rfl ?_
  intro p e s m args below meth c s₁ B hml hv
  obtain ⟨rfl, hsz, hP, hK, hD, hA, hR, hT, hXb, hN⟩ := hv
  subst hsz
  have hx := B.exec
  have hb := B.bytes
  have hr := B.returns
  have hts := atoms_spec (ws := (Cond.codeWith y_L_longer b_L_longer 4 (Option.some FieldType.int) [(0, 9, 12, 21)] :: aw)) B.pre
  have ht : ∀ {w : Cond}, w ∈ aw → w.before ([.ref (x), .int (a0), .ref (oa)] : List Value).toArray s = true := fun h => hts _ (List.mem_cons_of_mem _ h)
  have hown : s.vm.findClass "CodeWordsLaw" = some m.cls := findClass_of_methodNamed B.named
  have hlocks := B.notSynchronized
  have hpl : e.platform.magicAccessors = ({} : Platform).magicAccessors := by rw [(Stand.of_body B).admits.platform]
  have hS : va_S A s.heap s.heap [] := va_S.rf
  have hl := lv_entry ([.ref (x), .int (a0), .ref (oa)]) (n := 4) (Nat.le_of_ble_eq_true rfl)
  rw [lg_entry_eq]
  generalize (lg_sl ([.ref (x), .int (a0), .ref (oa)]) ++ List.replicate (4 - (lg_sl ([.ref (x), .int (a0), .ref (oa)])).length) Slot.unset).toArray = ls at hl ⊢
  have hl : lv_has ls 4 [(0, .ref (x)), (1, .int (a0)), (2, .ref (oa))] := hl
  refine lv_aload_n hx hb d_L_longer_0 rfl (lv_at hl 2 rfl) ?_
  refine lv_iconst (v := 0) hx hb d_L_longer_1 (by decide) ?_
  refine lv_aload_n hx hb d_L_longer_2 rfl (lv_at hl 0 rfl) ?_
  refine lv_iload_n hx hb d_L_longer_3 rfl (lv_at hl 1 rfl) ?_
  refine ju_calli (W.runV (As := [.int (a0)]) (rest := [.int 0, .ref oa]) ⟨hx, hb, hml, hown, hts⟩ (c_C_longer l (ad := ad) (sk := sk) (sv := sv) (tK := tK) x a0 v hf) (cwV 1 hts (aw_V aw_372 aw_373 aw_374 aw_1 aw_375) rfl rfl rfl (by decide +kernel) ⟨Nat.le_of_ble_eq_true rfl, Nat.le_of_ble_eq_true rfl⟩) ⟨fun a U g mk q => ⟨q.1, q.2.call⟩, hR, fun U hU hW => ⟨rfl, hT.at hS hU hW (fun _ z => z.elim)⟩⟩ rfl rfl hl.1 rfl (lv_room (Nat.le_of_ble_eq_true rfl)) d_L_longer_4 ⟨Nat.le_of_ble_eq_true rfl, Nat.le_of_ble_eq_true rfl⟩) ?_
  refine lv_i2l (v := v.toInt64) hx hb d_L_longer_7 rfl ?_
  refine va_last hx hb hK hP hD hS 0 0 rfl rfl (i := 0) (by unfold vp_in; decide) d_L_longer_8 (fun H locs hP hD hS => ?_)
  refine lv_goto (tgt := 15) hx hb d_L_longer_9 (by decide) ?_
  refine lv_iconst (v := 0) hx hb d_L_longer_15 (by decide) ?_
  refine W.widen (k := 1) (n := 6) (Nat.le_of_ble_eq_true rfl) (Nat.le_of_ble_eq_true rfl) ?_
  exact W.iret (v := 0) hx hb hr (fun t ht hW => ⟨⟨0, _, rfl, ⟨rfl, rfl⟩, by rw [← ht] at hP; exact hP⟩, hS.F ht⟩) hS.2.2 d_L_longer_16
set_option maxHeartbeats 4000000 in
set_option maxRecDepth 100000 in
theorem t1_L_longer (l : Launch) (hfl : l.stackTraces = false) {ad sk sv : Nat → Nat} {tK : Nat} (dC : Nat → ClassId) (dI : Nat → Nat → Nat) (cL : ClassId) (x oa sz : Nat) (g : Nat → Int64) (A : Nat → Prop) (a0 : Int32) (hf : f_C_longer a0 = some (.inr "java/util/NoSuchElementException")) : Met l y_L_longer (Cond.codeWith y_L_longer b_L_longer 4 (Option.some FieldType.int) [(0, 9, 12, 21)] :: aw) ({ frames := 10, cells := 1, slots := 6, locals := 218 } : Room) (va_Pc [.ref (x), .int (a0), .ref (oa)] (xPc dC dI ad sk sv tK cL x oa sz g A)) (va_Qi (fun (k : Int32) (u : Nat → Int64) => k = 1 ∧ u = g) (fun u t => va_P (dC, dI) cls2 (wO cL oa u) t.heap) A) 1 6 A := by
  refine va_MetW (cc := b_L_longer) (maxL := 4) (ret := (Option.some FieldType.int)) (hh := [(0, 9, 12, 21)]) (by decide) rfl ?_
  intro p e s m args below meth c s₁ B hml hv
  obtain ⟨rfl, hsz, hP, hK, hD, hA, hR, hT, hXb, hN⟩ := hv
  subst hsz
  have hx := B.exec
  have hb := B.bytes
  have hr := B.returns
  have hts := atoms_spec (ws := (Cond.codeWith y_L_longer b_L_longer 4 (Option.some FieldType.int) [(0, 9, 12, 21)] :: aw)) B.pre
  have ht : ∀ {w : Cond}, w ∈ aw → w.before ([.ref (x), .int (a0), .ref (oa)] : List Value).toArray s = true := fun h => hts _ (List.mem_cons_of_mem _ h)
  have hown : s.vm.findClass "CodeWordsLaw" = some m.cls := findClass_of_methodNamed B.named
  have hlocks := B.notSynchronized
  have hpl : e.platform.magicAccessors = ({} : Platform).magicAccessors := by rw [(Stand.of_body B).admits.platform]
  have hS : va_S A s.heap s.heap [] := va_S.rf
  have hl := lv_entry ([.ref (x), .int (a0), .ref (oa)]) (n := 4) (Nat.le_of_ble_eq_true rfl)
  rw [lg_entry_eq]
  generalize (lg_sl ([.ref (x), .int (a0), .ref (oa)]) ++ List.replicate (4 - (lg_sl ([.ref (x), .int (a0), .ref (oa)])).length) Slot.unset).toArray = ls at hl ⊢
  have hl : lv_has ls 4 [(0, .ref (x)), (1, .int (a0)), (2, .ref (oa))] := hl
  refine lv_aload_n hx hb d_L_longer_0 rfl (lv_at hl 2 rfl) ?_
  refine lv_iconst (v := 0) hx hb d_L_longer_1 (by decide) ?_
  refine lv_aload_n hx hb d_L_longer_2 rfl (lv_at hl 0 rfl) ?_
  refine lv_iload_n hx hb d_L_longer_3 rfl (lv_at hl 1 rfl) ?_
  refine xc_callV (E := "java/util/NoSuchElementException") (As := [.int (a0)]) (rest := [.int 0, .ref oa]) (pre := []) (x := (⟨0, 9, 12, 21⟩ : ExceptionTableEntry)) (suf := []) ⟨hx, hb, hml, hown, hts⟩ (x_C_longer l hfl (ad := ad) (sk := sk) (sv := sv) (tK := tK) x a0 _ hf) (cwV 1 hts (aw_V aw_372 aw_373 aw_374 aw_1 aw_375) rfl rfl rfl (by decide +kernel) ⟨Nat.le_of_ble_eq_true rfl, Nat.le_of_ble_eq_true rfl⟩) ⟨fun a U g mk q => ⟨q.1, q.2.1.call, q.2.2.call⟩, hR, fun U hU hW => ⟨rfl, hT.at hS hU hW (fun _ z => z.elim), hXb.at hS hU hW (fun _ z => z.elim)⟩⟩ rfl hl.1 (lv_room (Nat.le_of_ble_eq_true rfl)) d_L_longer_4 ⟨Nat.le_of_ble_eq_true rfl, Nat.le_of_ble_eq_true rfl⟩ (xl_table B (hts _ List.mem_cons_self)) (fun k0 hk => ⟨(fun _ z => absurd z List.not_mem_nil), xc_rowT hpl hown (ht aw_347) hN.2.2.1 rfl (by decide) hk⟩) (fun q H1 hz1 hk1 => ?_)
  have hP : va_P (dC, dI) cls2 (wO cL oa g) H1 := hP.kept (fun k z hz => hk1 z.1 ((hP k z hz).lt))
  have hS : va_S A s.heap H1 [] := ⟨hz1, fun q h1 _ => hk1 q h1, fun _ z => nomatch z⟩
  refine lv_astore_n (lv' := [(3, .ref (q)), (0, .ref (x)), (1, .int (a0)), (2, .ref (oa))]) hx hb d_L_longer_12 rfl hl (by decide) rfl (fun ls hl => ?_)
  refine lv_iconst (v := 1) hx hb d_L_longer_13 (by decide) ?_
  exact W.iret (v := 1) hx hb hr (fun t ht hW => ⟨⟨1, _, rfl, ⟨rfl, rfl⟩, by rw [← ht] at hP; exact hP⟩, hS.F ht⟩) hS.2.2 d_L_longer_14

set_option maxHeartbeats 4000000 in
set_option maxRecDepth 100000 in
theorem r_L_fit (l : Launch) (hfl : l.stackTraces = false) {ad sk sv : Nat → Nat} {tK : Nat} (dC : Nat → ClassId) (dI : Nat → Nat → Nat) (cL : ClassId) (x oa sz : Nat) (g : Nat → Int64) (A : Nat → Prop) (a0 : Int32) (a1 : Int64) (v : Int32) (hf : f_C_fit a0 a1 = some (.inl v)) : Met l y_L_fit (Cond.codeWith y_L_fit b_L_fit 6 (Option.some FieldType.int) [(0, 11, 14, 15)] :: aw) ({ frames := 10, cells := 1, slots := 6, locals := 220 } : Room) (va_Pc [.ref (x), .int (a0), .long (a1), .ref (oa)] (xPc dC dI ad sk sv tK cL x oa sz g A)) (va_Qi (fun (k : Int32) (u : Nat → Int64) => k = 0 ∧ u = vp_updL g (0 : Int32).toNatClampNeg v.toInt64) (fun u t => va_P (dC, dI) cls2 (wO cL oa u) t.heap) A) 1 6 A := by
  refine va_MetW (cc := b_L_fit) (maxL := 6) (ret := (Option.some FieldType.int)) (hh := [(0, 11, 14, 15)]) (by decide) rfl ?_
  intro p e s m args below meth c s₁ B hml hv
  obtain ⟨rfl, hsz, hP, hK, hD, hA, hR, hT, hXb, hN⟩ := hv
  subst hsz
  have hx := B.exec
  have hb := B.bytes
  have hr := B.returns
  have hts := atoms_spec (ws := (Cond.codeWith y_L_fit b_L_fit 6 (Option.some FieldType.int) [(0, 11, 14, 15)] :: aw)) B.pre
  have ht : ∀ {w : Cond}, w ∈ aw → w.before ([.ref (x), .int (a0), .long (a1), .ref (oa)] : List Value).toArray s = true := fun h => hts _ (List.mem_cons_of_mem _ h)
  have hown : s.vm.findClass "CodeWordsLaw" = some m.cls := findClass_of_methodNamed B.named
  have hlocks := B.notSynchronized
  have hpl : e.platform.magicAccessors = ({} : Platform).magicAccessors := by rw [(Stand.of_body B).admits.platform]
  have hS : va_S A s.heap s.heap [] := va_S.rf
  have hl := lv_entry ([.ref (x), .int (a0), .long (a1), .ref (oa)]) (n := 6) (Nat.le_of_ble_eq_true rfl)
  rw [lg_entry_eq]
  generalize (lg_sl ([.ref (x), .int (a0), .long (a1), .ref (oa)]) ++ List.replicate (6 - (lg_sl ([.ref (x), .int (a0), .long (a1), .ref (oa)])).length) Slot.unset).toArray = ls at hl ⊢
  have hl : lv_has ls 6 [(0, .ref (x)), (1, .int (a0)), (2, .long (a1)), (4, .ref (oa))] := hl
  refine lv_aload hx hb d_L_fit_0 (lv_at hl 3 rfl) ?_
  refine lv_iconst (v := 0) hx hb d_L_fit_2 (by decide) ?_
  refine lv_aload_n hx hb d_L_fit_3 rfl (lv_at hl 0 rfl) ?_
  refine lv_iload_n hx hb d_L_fit_4 rfl (lv_at hl 1 rfl) ?_
  refine lv_lload_n hx hb d_L_fit_5 rfl (lv_at hl 2 rfl) ?_
  refine ju_calli (W.runV (As := [.int (a0), .long (a1)]) (rest := [.int 0, .ref oa]) ⟨hx, hb, hml, hown, hts⟩ (c_C_fit l (ad := ad) (sk := sk) (sv := sv) (tK := tK) x a0 a1 v hf) (cwV 2 hts (aw_V aw_380 aw_381 aw_382 aw_1 aw_383) rfl rfl rfl (by decide +kernel) ⟨Nat.le_of_ble_eq_true rfl, Nat.le_of_ble_eq_true rfl⟩) ⟨fun a U g mk q => ⟨q.1, q.2.call⟩, hR, fun U hU hW => ⟨rfl, hT.at hS hU hW (fun _ z => z.elim)⟩⟩ rfl rfl hl.1 rfl (lv_room (Nat.le_of_ble_eq_true rfl)) d_L_fit_6 ⟨Nat.le_of_ble_eq_true rfl, Nat.le_of_ble_eq_true rfl⟩) ?_
  refine lv_i2l (v := v.toInt64) hx hb d_L_fit_9 rfl ?_
  refine va_last hx hb hK hP hD hS 0 0 rfl rfl (i := 0) (by unfold vp_in; decide) d_L_fit_10 (fun H locs hP hD hS => ?_)
  refine lv_goto (tgt := 18) hx hb d_L_fit_11 (by decide) ?_
  refine lv_iconst (v := 0) hx hb d_L_fit_18 (by decide) ?_
  refine W.widen (k := 1) (n := 6) (Nat.le_of_ble_eq_true rfl) (Nat.le_of_ble_eq_true rfl) ?_
  exact W.iret (v := 0) hx hb hr (fun t ht hW => ⟨⟨0, _, rfl, ⟨rfl, rfl⟩, by rw [← ht] at hP; exact hP⟩, hS.F ht⟩) hS.2.2 d_L_fit_19
set_option maxHeartbeats 4000000 in
set_option maxRecDepth 100000 in
theorem t1_L_fit (l : Launch) (hfl : l.stackTraces = false) {ad sk sv : Nat → Nat} {tK : Nat} (dC : Nat → ClassId) (dI : Nat → Nat → Nat) (cL : ClassId) (x oa sz : Nat) (g : Nat → Int64) (A : Nat → Prop) (a0 : Int32) (a1 : Int64) (hf : f_C_fit a0 a1 = some (.inr "java/lang/IllegalArgumentException")) : Met l y_L_fit (Cond.codeWith y_L_fit b_L_fit 6 (Option.some FieldType.int) [(0, 11, 14, 15)] :: aw) ({ frames := 10, cells := 1, slots := 6, locals := 220 } : Room) (va_Pc [.ref (x), .int (a0), .long (a1), .ref (oa)] (xPc dC dI ad sk sv tK cL x oa sz g A)) (va_Qi (fun (k : Int32) (u : Nat → Int64) => k = 1 ∧ u = g) (fun u t => va_P (dC, dI) cls2 (wO cL oa u) t.heap) A) 1 6 A := by
  refine va_MetW (cc := b_L_fit) (maxL := 6) (ret := (Option.some FieldType.int)) (hh := [(0, 11, 14, 15)]) (by decide) rfl ?_
  intro p e s m args below meth c s₁ B hml hv
  obtain ⟨rfl, hsz, hP, hK, hD, hA, hR, hT, hXb, hN⟩ := hv
  subst hsz
  have hx := B.exec
  have hb := B.bytes
  have hr := B.returns
  have hts := atoms_spec (ws := (Cond.codeWith y_L_fit b_L_fit 6 (Option.some FieldType.int) [(0, 11, 14, 15)] :: aw)) B.pre
  have ht : ∀ {w : Cond}, w ∈ aw → w.before ([.ref (x), .int (a0), .long (a1), .ref (oa)] : List Value).toArray s = true := fun h => hts _ (List.mem_cons_of_mem _ h)
  have hown : s.vm.findClass "CodeWordsLaw" = some m.cls := findClass_of_methodNamed B.named
  have hlocks := B.notSynchronized
  have hpl : e.platform.magicAccessors = ({} : Platform).magicAccessors := by rw [(Stand.of_body B).admits.platform]
  have hS : va_S A s.heap s.heap [] := va_S.rf
  have hl := lv_entry ([.ref (x), .int (a0), .long (a1), .ref (oa)]) (n := 6) (Nat.le_of_ble_eq_true rfl)
  rw [lg_entry_eq]
  generalize (lg_sl ([.ref (x), .int (a0), .long (a1), .ref (oa)]) ++ List.replicate (6 - (lg_sl ([.ref (x), .int (a0), .long (a1), .ref (oa)])).length) Slot.unset).toArray = ls at hl ⊢
  have hl : lv_has ls 6 [(0, .ref (x)), (1, .int (a0)), (2, .long (a1)), (4, .ref (oa))] := hl
  refine lv_aload hx hb d_L_fit_0 (lv_at hl 3 rfl) ?_
  refine lv_iconst (v := 0) hx hb d_L_fit_2 (by decide) ?_
  refine lv_aload_n hx hb d_L_fit_3 rfl (lv_at hl 0 rfl) ?_
  refine lv_iload_n hx hb d_L_fit_4 rfl (lv_at hl 1 rfl) ?_
  refine lv_lload_n hx hb d_L_fit_5 rfl (lv_at hl 2 rfl) ?_
  refine xc_callV (E := "java/lang/IllegalArgumentException") (As := [.int (a0), .long (a1)]) (rest := [.int 0, .ref oa]) (pre := []) (x := (⟨0, 11, 14, 15⟩ : ExceptionTableEntry)) (suf := []) ⟨hx, hb, hml, hown, hts⟩ (x_C_fit l hfl (ad := ad) (sk := sk) (sv := sv) (tK := tK) x a0 a1 _ hf) (cwV 2 hts (aw_V aw_380 aw_381 aw_382 aw_1 aw_383) rfl rfl rfl (by decide +kernel) ⟨Nat.le_of_ble_eq_true rfl, Nat.le_of_ble_eq_true rfl⟩) ⟨fun a U g mk q => ⟨q.1, q.2.1.call, q.2.2.call⟩, hR, fun U hU hW => ⟨rfl, hT.at hS hU hW (fun _ z => z.elim), hXb.at hS hU hW (fun _ z => z.elim)⟩⟩ rfl hl.1 (lv_room (Nat.le_of_ble_eq_true rfl)) d_L_fit_6 ⟨Nat.le_of_ble_eq_true rfl, Nat.le_of_ble_eq_true rfl⟩ (xl_table B (hts _ List.mem_cons_self)) (fun k0 hk => ⟨(fun _ z => absurd z List.not_mem_nil), xc_rowT hpl hown (ht aw_256) hN.2.1 rfl (by decide) hk⟩) (fun q H1 hz1 hk1 => ?_)
  have hP : va_P (dC, dI) cls2 (wO cL oa g) H1 := hP.kept (fun k z hz => hk1 z.1 ((hP k z hz).lt))
  have hS : va_S A s.heap H1 [] := ⟨hz1, fun q h1 _ => hk1 q h1, fun _ z => nomatch z⟩
  refine lv_astore (lv' := [(5, .ref (q)), (0, .ref (x)), (1, .int (a0)), (2, .long (a1)), (4, .ref (oa))]) hx hb d_L_fit_14 hl (by decide) rfl (fun ls hl => ?_)
  refine lv_iconst (v := 1) hx hb d_L_fit_16 (by decide) ?_
  exact W.iret (v := 1) hx hb hr (fun t ht hW => ⟨⟨1, _, rfl, ⟨rfl, rfl⟩, by rw [← ht] at hP; exact hP⟩, hS.F ht⟩) hS.2.2 d_L_fit_17
