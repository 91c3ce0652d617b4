theorem aw_301 : Jvm.Cond.native ({ cls := "java/lang/Throwable", name := "fillInStackTrace", desc := "(I)Ljava/lang/Throwable;" } : Jvm.MethodName) ∈ aw := awl_2 61 rfl rfl
def xL (C n d : String) (A : Nat → Prop) (U : State) (H : Heap) : Prop := ∃ (c : ClassId) (k : Class) (i : Nat) (f : Field) (a : Nat) (cell : Cell), U.vm.findClass C = some c ∧ U.fieldFound? C n d = some (c, k, i, f) ∧ f.isStatic = true ∧ k.statics = some a ∧ H[a]? = some cell ∧ cell.vm.isStatics = true ∧ cell.cls = c ∧ f.slot < cell.slots.size ∧ k.staticTypes[f.slot]? = some f.type ∧ ¬ A a
theorem xL.at {C n d : String} {A B : Nat → Prop} {s U : State} {H : Heap} {locs : List Loc} (h : xL C n d A s s.heap) (hS : va_S A s.heap H locs) (hU : U.heap = H) (hvm : s.vm.Alike U.vm) (hAB : ∀ q, B q → A q) : xL C n d B U U.heap := by
  obtain ⟨c, k, i, f, a, cell, h1, h2, h3, h4, h5, h6, h7, h8, h9, h10⟩ := h
  obtain ⟨k', hi', he⟩ := State.fieldFound?_setVm hvm h2
  have hlt : a < s.heap.size := (Array.getElem?_eq_some_iff.mp h5).1
  exact ⟨c, k', i, f, a, cell, by rw [hvm.findClass]; exact h1, hi', h3, by rw [he]; exact h4, by rw [hU, hS.2.1 a hlt h10]; exact h5, h6, h7, h8, by rw [he]; exact h9, fun z => h10 (hAB _ z)⟩
theorem xL.word {C n d : String} {A : Nat → Prop} {U : State} {args : Array Value} (h : xL C n d A U U.heap) : (Cond.laysStatic C n d).before args U = true := by
  obtain ⟨c, k, i, f, a, cell, h1, h2, h3, h4, h5, h6, h7, h8, h9, h10⟩ := h
  simp [Cond.before, Cond.holds, Cond.value, h1, h2, h3, h4, h5, h6, h7, h8, h9]
theorem xL.of {C n d : String} {A : Nat → Prop} {U : State} {args : Array Value} (h : (Cond.laysStatic C n d).before args U = true) (hA : ∀ a : Nat, a < U.heap.size → ¬ A a) : xL C n d A U U.heap := by
  obtain ⟨c, k, i, f, a, cell, h1, h2, h3, h4, h5, h6, h7, h8, h9⟩ := Cond.laysStatic_spec h
  exact ⟨c, k, i, f, a, cell, h1, h2, h3, h4, h5, h6, h7, h8, h9, hA a (Array.getElem?_eq_some_iff.mp h5).1⟩
theorem xr_isRef {C n d : String} {A : Nat → Prop} {s : State} {args : Array Value} (h : va_Zq C n d A s s.heap) : (Cond.isRef (.static C n d)).before args s = true := by
  rcases h with h | ⟨t, h⟩ <;>
  · obtain ⟨cf, kf, fi, f, a, cell, h1, h2, h3, h4, h5, h6, h7, h8⟩ := h
    simp [Cond.before, Cond.holds, Cond.value, Term.eval, State.fieldNamed?, h1, h2, h4, h5, h6, h7]
/-- what a throw asks of the start -/
def xb (A : Nat → Prop) (U : State) (H : Heap) : Prop := va_Zq Bundle.tN "UNASSIGNED_STACK" Bundle.steD A U H ∧ va_Zq Bundle.tN "SUPPRESSED_SENTINEL" Bundle.listD A U H ∧ xL Bundle.tN "UNASSIGNED_STACK" Bundle.steD A U H ∧ xL Bundle.tN "SUPPRESSED_SENTINEL" Bundle.listD A U H ∧ va_Nw (.declares (Bundle.initS "java/lang/RuntimeException")) U ∧ va_Nw (.declares (Bundle.initS "java/lang/Exception")) U ∧ va_Nw (.declares (Bundle.initS Bundle.tN)) U
theorem xb.at {A B : Nat → Prop} {s U : State} {H : Heap} {locs : List Loc} (h : xb A s s.heap) (hS : va_S A s.heap H locs) (hU : U.heap = H) (hW : s.WarmedH U.vm) (hAB : ∀ q, B q → A q) : xb B U U.heap := by
  obtain ⟨h1, h2, h3, h4, h5, h6, h7⟩ := h
  have hv := hW.alike
  have hq : ∀ a : Nat, a < s.heap.size → ¬ A a → U.heap[a]? = s.heap[a]? := by rw [hU]; exact hS.2.1
  exact ⟨va_Zq.moved hv (va_Zq.narrow (va_Zq.kept h1 hq) hAB), va_Zq.moved hv (va_Zq.narrow (va_Zq.kept h2 hq) hAB), h3.at hS hU hv hAB, h4.at hS hU hv hAB, va_Nw.warmD hW h5, va_Nw.warmD hW h6, va_Nw.warmD hW h7⟩
theorem xb.call {B : Nat → Prop} {U : State} {g : JFrame} {mk : MethodId} {a : Array Value} (h : xb B U U.heap) : xb B (U.calling g mk a) (U.calling g mk a).heap := by
  obtain ⟨h1, h2, h3, h4, h5, h6, h7⟩ := h
  have hv : U.vm.Alike (U.calling g mk a).vm := Vm.Alike.refl U.vm
  exact ⟨va_Zq.moved hv h1, va_Zq.moved hv h2, h3.at (H := U.heap) (locs := []) va_S.rf rfl hv (fun _ z => z), h4.at (H := U.heap) (locs := []) va_S.rf rfl hv (fun _ z => z), va_Nw.same rfl rfl h5, va_Nw.same rfl rfl h6, va_Nw.same rfl rfl h7⟩
theorem xa_th {s : State} {args : Array Value} (ht : ∀ {w : Cond}, w ∈ aw → w.before args s = true) (hX : xb (fun _ => False) s s.heap) : ∀ w ∈ Bundle.throwableAtoms, w.before args s = true := (List.forall_mem_cons.mpr ⟨(ht aw_3), (List.forall_mem_cons.mpr ⟨(ht aw_283), (List.forall_mem_cons.mpr ⟨(ht aw_292), (List.forall_mem_cons.mpr ⟨(ht aw_296), (List.forall_mem_cons.mpr ⟨(ht aw_299), (List.forall_mem_cons.mpr ⟨(ht aw_301), (List.forall_mem_cons.mpr ⟨(ht aw_284), (List.forall_mem_cons.mpr ⟨(ht aw_285), (List.forall_mem_cons.mpr ⟨(ht aw_21), (List.forall_mem_cons.mpr ⟨(ht aw_22), (List.forall_mem_cons.mpr ⟨(ht aw_286), (List.forall_mem_cons.mpr ⟨(ht aw_291), (List.forall_mem_cons.mpr ⟨(ht aw_297), (List.forall_mem_cons.mpr ⟨(ht aw_317), (List.forall_mem_cons.mpr ⟨(ht aw_273), (List.forall_mem_cons.mpr ⟨(ht aw_318), (List.forall_mem_cons.mpr ⟨(ht aw_275), (List.forall_mem_cons.mpr ⟨(ht aw_319), (List.forall_mem_cons.mpr ⟨(ht aw_277), (List.forall_mem_cons.mpr ⟨(ht aw_287), (List.forall_mem_cons.mpr ⟨(xL.word hX.2.2.1), (List.forall_mem_cons.mpr ⟨(ht aw_289), (List.forall_mem_cons.mpr ⟨(xL.word hX.2.2.2.1), (List.forall_mem_cons.mpr ⟨(ht aw_279), (fun _ h => absurd h List.not_mem_nil)⟩)⟩)⟩)⟩)⟩)⟩)⟩)⟩)⟩)⟩)⟩)⟩)⟩)⟩)⟩)⟩)⟩)⟩)⟩)⟩)⟩)⟩)⟩)⟩)
theorem xa_ts {s : State} {args : Array Value} (ht : ∀ {w : Cond}, w ∈ aw → w.before args s = true) : ∀ w ∈ Bundle.throwableSAtoms, w.before args s = true := (List.forall_mem_cons.mpr ⟨(ht aw_313), (List.forall_mem_cons.mpr ⟨(ht aw_314), (List.forall_mem_cons.mpr ⟨(ht aw_316), (List.forall_mem_cons.mpr ⟨(ht aw_279), (fun _ h => absurd h List.not_mem_nil)⟩)⟩)⟩)⟩)
theorem xa_ch {s : State} {args : Array Value} (ht : ∀ {w : Cond}, w ∈ aw → w.before args s = true) (hX : xb (fun _ => False) s s.heap) : ∀ w ∈ Bundle.chainSAtoms "java/lang/RuntimeException" ["java/lang/Exception"], w.before args s = true := (List.forall_mem_cons.mpr ⟨(ht aw_307), (List.forall_mem_cons.mpr ⟨(ht aw_308), (List.forall_mem_cons.mpr ⟨(ht aw_309), (List.forall_mem_cons.mpr ⟨(ht aw_310), (List.forall_mem_cons.mpr ⟨(va_Nw.use rfl hX.2.2.2.2.2.1), (List.forall_mem_cons.mpr ⟨(ht aw_310), (List.forall_mem_cons.mpr ⟨(ht aw_311), (List.forall_mem_cons.mpr ⟨(ht aw_312), (List.forall_mem_cons.mpr ⟨(ht aw_313), (List.forall_mem_cons.mpr ⟨(va_Nw.use rfl hX.2.2.2.2.2.2), (fun _ h => absurd h List.not_mem_nil)⟩)⟩)⟩)⟩)⟩)⟩)⟩)⟩)⟩)⟩)
theorem xa_p_IndexOutOfBoundsException {s : State} {args : Array Value} (ht : ∀ {w : Cond}, w ∈ aw → w.before args s = true) (hX : xb (fun _ => False) s s.heap) : ∀ w ∈ Bundle.passSAtoms "java/lang/IndexOutOfBoundsException" "java/lang/RuntimeException" 7 prog_8_method_2_code, w.before args s = true := (List.forall_mem_cons.mpr ⟨(ht aw_304), (List.forall_mem_cons.mpr ⟨(ht aw_305), (List.forall_mem_cons.mpr ⟨(ht aw_306), (List.forall_mem_cons.mpr ⟨(ht aw_307), (List.forall_mem_cons.mpr ⟨(va_Nw.use rfl hX.2.2.2.2.1), (fun _ h => absurd h List.not_mem_nil)⟩)⟩)⟩)⟩)⟩)
theorem xt_IndexOutOfBoundsException_25 {p : Program} {l : Launch} {e : Env} {R : Room} {s : State} {m : MethodId} {args : Array Value} {below : List Frame} {meth : Method} {c : Code} {H : Heap} {cells slots : Nat} {cc : ByteArray} {pc : Nat} {ls : Array Slot} {mc ms : Nat} (hx : p.tables.exec = Jvm.exec) (hb : c.code = cc) (hfl : l.stackTraces = false) (hlocks : meth.locks = false) (hown : s.vm.findClass "CodeWords" = some m.cls) (ht : ∀ {w : Cond}, w ∈ aw → w.before args s = true) (hX : xb (fun _ => False) s s.heap)
    {cX : ClassId} {kX : Class} (hfX : s.vm.findClass "java/lang/IndexOutOfBoundsException" = some cX) (hkX : s.vm.classes[cX]? = some kX) {a : Nat} (hcell : H[a]? = some (freshCell cX kX)) (hnew : s.heap.size ≤ a) {msg : Nat} (hsize : ls.size = c.maxLocals) (d6 : decode cc pc = .ok (.invokespecial 25, 3)) (d9 : decode cc (pc + 3) = .ok (.athrow, 1)) (hout : c.exceptionTable.isEmpty = true) (hRf : 5 < R.frames) (hRl : 84 ≤ R.locals) (hc : cells ≤ mc) (hs : slots ≤ ms) :
    W p l e R s m args below meth c H [] cells slots (MQT below "java/lang/IndexOutOfBoundsException" s mc ms) (F0 m pc ls [.ref msg, .ref a, .ref a]) :=
  xt_ctor (names := ["java/lang/Exception"]) (index := 7) (bytes := prog_8_method_2_code) hx hb hfl hlocks hown (by decide +kernel) (by decide +kernel) (by decide +kernel) (by decide +kernel) (by decide +kernel) (by decide +kernel) (by decide +kernel) (xa_th ht hX) (xa_ts ht) (xa_p_IndexOutOfBoundsException ht hX) (xa_ch ht hX)
    (ht aw_303) (ht aw_262) (ht aw_270) (ht aw_271) (ht aw_272) (ht aw_274) (ht aw_276) (ht aw_278) (ht aw_280) (xr_isRef hX.1) (xr_isRef hX.2.1) (ht aw_315) (ht aw_281)
    hfX hkX hcell hnew hsize d6 d9 hout hRf hRl hc hs
theorem xa_p_IllegalArgumentException {s : State} {args : Array Value} (ht : ∀ {w : Cond}, w ∈ aw → w.before args s = true) (hX : xb (fun _ => False) s s.heap) : ∀ w ∈ Bundle.passSAtoms "java/lang/IllegalArgumentException" "java/lang/RuntimeException" 7 prog_7_method_2_code, w.before args s = true := (List.forall_mem_cons.mpr ⟨(ht aw_339), (List.forall_mem_cons.mpr ⟨(ht aw_340), (List.forall_mem_cons.mpr ⟨(ht aw_341), (List.forall_mem_cons.mpr ⟨(ht aw_307), (List.forall_mem_cons.mpr ⟨(va_Nw.use rfl hX.2.2.2.2.1), (fun _ h => absurd h List.not_mem_nil)⟩)⟩)⟩)⟩)⟩)
theorem xt_IllegalArgumentException_42 {p : Program} {l : Launch} {e : Env} {R : Room} {s : State} {m : MethodId} {args : Array Value} {below : List Frame} {meth : Method} {c : Code} {H : Heap} {cells slots : Nat} {cc : ByteArray} {pc : Nat} {ls : Array Slot} {mc ms : Nat} (hx : p.tables.exec = Jvm.exec) (hb : c.code = cc) (hfl : l.stackTraces = false) (hlocks : meth.locks = false) (hown : s.vm.findClass "CodeWords" = some m.cls) (ht : ∀ {w : Cond}, w ∈ aw → w.before args s = true) (hX : xb (fun _ => False) s s.heap)
    {cX : ClassId} {kX : Class} (hfX : s.vm.findClass "java/lang/IllegalArgumentException" = some cX) (hkX : s.vm.classes[cX]? = some kX) {a : Nat} (hcell : H[a]? = some (freshCell cX kX)) (hnew : s.heap.size ≤ a) {msg : Nat} (hsize : ls.size = c.maxLocals) (d6 : decode cc pc = .ok (.invokespecial 42, 3)) (d9 : decode cc (pc + 3) = .ok (.athrow, 1)) (hout : c.exceptionTable.isEmpty = true) (hRf : 5 < R.frames) (hRl : 84 ≤ R.locals) (hc : cells ≤ mc) (hs : slots ≤ ms) :
    W p l e R s m args below meth c H [] cells slots (MQT below "java/lang/IllegalArgumentException" s mc ms) (F0 m pc ls [.ref msg, .ref a, .ref a]) :=
  xt_ctor (names := ["java/lang/Exception"]) (index := 7) (bytes := prog_7_method_2_code) hx hb hfl hlocks hown (by decide +kernel) (by decide +kernel) (by decide +kernel) (by decide +kernel) (by decide +kernel) (by decide +kernel) (by decide +kernel) (xa_th ht hX) (xa_ts ht) (xa_p_IllegalArgumentException ht hX) (xa_ch ht hX)
    (ht aw_338) (ht aw_329) (ht aw_331) (ht aw_294) (ht aw_332) (ht aw_333) (ht aw_334) (ht aw_335) (ht aw_336) (xr_isRef hX.1) (xr_isRef hX.2.1) (ht aw_315) (ht aw_281)
    hfX hkX hcell hnew hsize d6 d9 hout hRf hRl hc hs
theorem xa_p_NoSuchElementException {s : State} {args : Array Value} (ht : ∀ {w : Cond}, w ∈ aw → w.before args s = true) (hX : xb (fun _ => False) s s.heap) : ∀ w ∈ Bundle.passSAtoms "java/util/NoSuchElementException" "java/lang/RuntimeException" 13 prog_14_method_4_code, w.before args s = true := (List.forall_mem_cons.mpr ⟨(ht aw_363), (List.forall_mem_cons.mpr ⟨(ht aw_364), (List.forall_mem_cons.mpr ⟨(ht aw_365), (List.forall_mem_cons.mpr ⟨(ht aw_307), (List.forall_mem_cons.mpr ⟨(va_Nw.use rfl hX.2.2.2.2.1), (fun _ h => absurd h List.not_mem_nil)⟩)⟩)⟩)⟩)⟩)
theorem xt_NoSuchElementException_58 {p : Program} {l : Launch} {e : Env} {R : Room} {s : State} {m : MethodId} {args : Array Value} {below : List Frame} {meth : Method} {c : Code} {H : Heap} {cells slots : Nat} {cc : ByteArray} {pc : Nat} {ls : Array Slot} {mc ms : Nat} (hx : p.tables.exec = Jvm.exec) (hb : c.code = cc) (hfl : l.stackTraces = false) (hlocks : meth.locks = false) (hown : s.vm.findClass "CodeWords" = some m.cls) (ht : ∀ {w : Cond}, w ∈ aw → w.before args s = true) (hX : xb (fun _ => False) s s.heap)
    {cX : ClassId} {kX : Class} (hfX : s.vm.findClass "java/util/NoSuchElementException" = some cX) (hkX : s.vm.classes[cX]? = some kX) {a : Nat} (hcell : H[a]? = some (freshCell cX kX)) (hnew : s.heap.size ≤ a) {msg : Nat} (hsize : ls.size = c.maxLocals) (d6 : decode cc pc = .ok (.invokespecial 58, 3)) (d9 : decode cc (pc + 3) = .ok (.athrow, 1)) (hout : c.exceptionTable.isEmpty = true) (hRf : 5 < R.frames) (hRl : 84 ≤ R.locals) (hc : cells ≤ mc) (hs : slots ≤ ms) :
    W p l e R s m args below meth c H [] cells slots (MQT below "java/util/NoSuchElementException" s mc ms) (F0 m pc ls [.ref msg, .ref a, .ref a]) :=
  xt_ctor (names := ["java/lang/Exception"]) (index := 13) (bytes := prog_14_method_4_code) hx hb hfl hlocks hown (by decide +kernel) (by decide +kernel) (by decide +kernel) (by decide +kernel) (by decide +kernel) (by decide +kernel) (by decide +kernel) (xa_th ht hX) (xa_ts ht) (xa_p_NoSuchElementException ht hX) (xa_ch ht hX)
    (ht aw_362) (ht aw_353) (ht aw_355) (ht aw_295) (ht aw_356) (ht aw_357) (ht aw_358) (ht aw_359) (ht aw_360) (xr_isRef hX.1) (xr_isRef hX.2.1) (ht aw_315) (ht aw_281)
    hfX hkX hcell hnew hsize d6 d9 hout hRf hRl hc hs

set_option maxHeartbeats 4000000 in
set_option maxRecDepth 100000 in
theorem x_C_word (l : Launch) (hfl : l.stackTraces = false) {ad sk sv : Nat → Nat} {tK : Nat} (h0 : Nat) (a0 : Int32) (a1 : Int32) (a2 : Int32) (a3 : Int32) (a4 : Int32) (r : String) (hf : f_C_word a0 a1 a2 a3 a4 = some (.inr r)) : MetT l y_C_word (Cond.code y_C_word b_C_word 6 (Option.some FieldType.int) :: aw) ({ frames := 7, cells := 1, slots := 6, locals := 153 } : Room) (va_Pc [.ref (h0), .int (a0), .int (a1), .int (a2), .int (a3), .int (a4)] (fun U => tb ad sk sv tK (fun _ => False) U U.heap ∧ xb (fun _ => False) U U.heap)) r 1 6 := by
  refine MetT.ofW (cc := b_C_word) (maxL := 6) (ret := (Option.some FieldType.int)) (by decide) rfl ?_
  intro p e s m args below meth c s₁ B hml hne hv
  obtain ⟨rfl, hT, hXb⟩ := hv
  have hx := B.exec
  have hb := B.bytes
  have hr := B.returns
  have hts := atoms_spec (ws := (Cond.code y_C_word b_C_word 6 (Option.some FieldType.int) :: aw)) B.pre
  have ht : ∀ {w : Cond}, w ∈ aw → w.before ([.ref (h0), .int (a0), .int (a1), .int (a2), .int (a3), .int (a4)] : List Value).toArray s = true := fun h => hts _ (List.mem_cons_of_mem _ h)
  have hown : s.vm.findClass "CodeWords" = some m.cls := findClass_of_methodNamed B.named
  have hlocks := B.notSynchronized
  have hS : va_S (fun _ => False) s.heap s.heap [] := va_S.rf
  have hl := lv_entry ([.ref (h0), .int (a0), .int (a1), .int (a2), .int (a3), .int (a4)]) (n := 6) (Nat.le_of_ble_eq_true rfl)
  rw [lg_entry_eq]
  generalize (lg_sl ([.ref (h0), .int (a0), .int (a1), .int (a2), .int (a3), .int (a4)]) ++ List.replicate (6 - (lg_sl ([.ref (h0), .int (a0), .int (a1), .int (a2), .int (a3), .int (a4)])).length) Slot.unset).toArray = ls at hl ⊢
  have hl : lv_has ls 6 [(0, .ref (h0)), (1, .int (a0)), (2, .int (a1)), (3, .int (a2)), (4, .int (a3)), (5, .int (a4))] := hl
  rw [f_C_word] at hf
  refine lv_iload_n hx hb d_C_word_0 rfl (lv_at hl 1 rfl) ?_
  obtain ⟨r_1, g_2, hf⟩ := Option.bind_eq_some_iff.mp hf
  refine ju_calli (W.runS (As := [.int (a0)]) (rest := []) ⟨hx, hb, hml, hown, hts⟩ (c_C_isKind l (ad := ad) (sk := sk) (sv := sv) (tK := tK)  a0  r_1 g_2) (va_cwS 1 hts (aw_S aw_152 aw_153 aw_1 aw_154) rfl rfl rfl (by decide +kernel) ⟨Nat.le_of_ble_eq_true rfl, Nat.le_of_ble_eq_true rfl⟩) ⟨fun a U g mk q => ⟨q.1, q.2.call⟩, fun U hU hW => ⟨rfl, hT.at hS hU hW (fun _ z => z.elim)⟩⟩ rfl rfl hl.1 rfl (lv_room (Nat.le_of_ble_eq_true rfl)) d_C_word_1 ⟨Nat.le_of_ble_eq_true rfl, Nat.le_of_ble_eq_true rfl⟩) ?_
  refine lv_if_ne (tgt := 17) hx hb d_C_word_4 (by decide) (fun c_3 => ?_) (fun c_3 => ?_)
  · replace hf := (if_neg c_3).symm.trans hf
    refine va_gets (v := .ref (tK)) hx hb hT.1 hS hown (ht aw_38) (fun _ h9 => h9) d_C_word_17 ?_
    refine lv_iload_n hx hb d_C_word_20 rfl (lv_at hl 1 rfl) ?_
    obtain ⟨z_4, hf⟩ := ju_gd hf
    refine vb_tq (v := .ref (ad a0.toNatClampNeg)) hx hb hT.2.1 hS z_4 rfl d_C_word_21 ?_
    refine lv_iload_n hx hb d_C_word_22 rfl (lv_at hl 2 rfl) ?_
    refine lv_iload_n hx hb d_C_word_23 rfl (lv_at hl 3 rfl) ?_
    refine lv_iload hx hb d_C_word_24 (lv_at hl 4 rfl) ?_
    refine lv_iload hx hb d_C_word_26 (lv_at hl 5 rfl) ?_
    obtain ⟨r_5, g_6, hf⟩ := Option.bind_eq_some_iff.mp hf
    refine ju_calli (W.runV (As := [.int (a1), .int (a2), .int (a3), .int (a4)]) (rest := []) ⟨hx, hb, hml, hown, hts⟩ (c_K_allows l (ad := ad) (sk := sk) (sv := sv) (tK := tK)  a0.toNatClampNeg a1 a2 a3 a4 (ju_lt z_4) r_5 g_6) (cwV 4 hts (aw_V aw_167 aw_122 aw_123 aw_12 aw_124) rfl rfl rfl (by decide +kernel) ⟨Nat.le_of_ble_eq_true rfl, Nat.le_of_ble_eq_true rfl⟩) ⟨fun a U g mk q => ⟨q.1, q.2.call⟩, tb_recvK hT (ju_lt z_4) hS, fun U hU hW => ⟨rfl, hT.at hS hU hW (fun _ z => z.elim)⟩⟩ rfl rfl hl.1 rfl (lv_room (Nat.le_of_ble_eq_true rfl)) d_C_word_28 ⟨Nat.le_of_ble_eq_true rfl, Nat.le_of_ble_eq_true rfl⟩) ?_
    refine lv_if_ne (tgt := 44) hx hb d_C_word_31 (by decide) (fun c_7 => ?_) (fun c_7 => ?_)
    · replace hf := (if_neg c_7).symm.trans hf
      refine va_gets (v := .ref (tK)) hx hb hT.1 hS hown (ht aw_38) (fun _ h9 => h9) d_C_word_44 ?_
      refine lv_iload_n hx hb d_C_word_47 rfl (lv_at hl 1 rfl) ?_
      obtain ⟨z_8, hf⟩ := ju_gd hf
      refine vb_tq (v := .ref (ad a0.toNatClampNeg)) hx hb hT.2.1 hS z_8 rfl d_C_word_48 ?_
      refine lv_iload_n hx hb d_C_word_49 rfl (lv_at hl 2 rfl) ?_
      refine lv_iload_n hx hb d_C_word_50 rfl (lv_at hl 3 rfl) ?_
      refine lv_iload hx hb d_C_word_51 (lv_at hl 4 rfl) ?_
      refine lv_iload hx hb d_C_word_53 (lv_at hl 5 rfl) ?_
      obtain ⟨r_9, g_10, hf⟩ := Option.bind_eq_some_iff.mp hf
      refine ju_calli (W.runV (As := [.int (a1), .int (a2), .int (a3), .int (a4)]) (rest := []) ⟨hx, hb, hml, hown, hts⟩ (c_K_compose l (ad := ad) (sk := sk) (sv := sv) (tK := tK)  a0.toNatClampNeg a1 a2 a3 a4 (ju_lt z_8) r_9 g_10) (cwV 4 hts (aw_V aw_155 aw_156 aw_157 aw_12 aw_158) rfl rfl rfl (by decide +kernel) ⟨Nat.le_of_ble_eq_true rfl, Nat.le_of_ble_eq_true rfl⟩) ⟨fun a U g mk q => ⟨q.1, q.2.call⟩, tb_recvK hT (ju_lt z_8) hS, fun U hU hW => ⟨rfl, hT.at hS hU hW (fun _ z => z.elim)⟩⟩ rfl rfl hl.1 rfl (lv_room (Nat.le_of_ble_eq_true rfl)) d_C_word_55 ⟨Nat.le_of_ble_eq_true rfl, Nat.le_of_ble_eq_true rfl⟩) ?_
      cases hf
    · replace hf := (if_pos c_7).symm.trans hf
      obtain rfl := Sum.inr.inj (Option.some.inj hf)
      refine W.newc (C := "java/lang/IllegalArgumentException") (n := 6) hx hb hown (ht aw_328) (ht aw_329) (ht aw_13) (g := F0 m 34 ls []) rfl d_C_word_34 (Nat.le_of_ble_eq_true rfl) (Nat.le_of_ble_eq_true rfl) (fun cX kX hfX hkX _ _ => ?_)
      refine W.eq (g2 := F0 m 37 ls [.ref s.heap.size]) rfl ?_
      refine lv_dup hx hb d_C_word_37 rfl ?_
      refine va_ldcS hx hb hown (tb_r40 hT) d_C_word_38 ?_
      exact xt_IllegalArgumentException_42 (cc := b_C_word) hx hb hfl hlocks hown (fun {w} h => ht h) hXb hfX hkX (by rw [Array.getElem?_push_size]) (Nat.le_refl _) (hl.1.trans hml.symm) d_C_word_40 d_C_word_43 hne (Nat.le_of_ble_eq_true rfl) (Nat.le_of_ble_eq_true rfl) (Nat.le_refl _) (Nat.le_refl _)
  · replace hf := (if_pos c_3).symm.trans hf
    obtain rfl := Sum.inr.inj (Option.some.inj hf)
    refine W.newc (C := "java/lang/IndexOutOfBoundsException") (n := 6) hx hb hown (ht aw_261) (ht aw_262) (ht aw_6) (g := F0 m 7 ls []) rfl d_C_word_7 (Nat.le_of_ble_eq_true rfl) (Nat.le_of_ble_eq_true rfl) (fun cX kX hfX hkX _ _ => ?_)
    refine W.eq (g2 := F0 m 10 ls [.ref s.heap.size]) rfl ?_
    refine lv_dup hx hb d_C_word_10 rfl ?_
    refine va_ldcS hx hb hown (tb_r23 hT) d_C_word_11 ?_
    exact xt_IndexOutOfBoundsException_25 (cc := b_C_word) hx hb hfl hlocks hown (fun {w} h => ht h) hXb hfX hkX (by rw [Array.getElem?_push_size]) (Nat.le_refl _) (hl.1.trans hml.symm) d_C_word_13 d_C_word_16 hne (Nat.le_of_ble_eq_true rfl) (Nat.le_of_ble_eq_true rfl) (Nat.le_refl _) (Nat.le_refl _)

set_option maxHeartbeats 4000000 in
set_option maxRecDepth 100000 in
theorem x_C_part (l : Launch) (hfl : l.stackTraces = false) {ad sk sv : Nat → Nat} {tK : Nat} (h0 : Nat) (a0 : Int32) (a1 : Int32) (r : String) (hf : f_C_part a0 a1 = some (.inr r)) : MetT l y_C_part (Cond.code y_C_part b_C_part 4 (Option.some FieldType.int) :: aw) ({ frames := 9, cells := 1, slots := 6, locals := 195 } : Room) (va_Pc [.ref (h0), .int (a0), .int (a1)] (fun U => tb ad sk sv tK (fun _ => False) U U.heap ∧ xb (fun _ => False) U U.heap)) r 1 6 := by
  refine MetT.ofW (cc := b_C_part) (maxL := 4) (ret := (Option.some FieldType.int)) (by decide) rfl ?_
  intro p e s m args below meth c s₁ B hml hne hv
  obtain ⟨rfl, hT, hXb⟩ := hv
  have hx := B.exec
  have hb := B.bytes
  have hr := B.returns
  have hts := atoms_spec (ws := (Cond.code y_C_part b_C_part 4 (Option.some FieldType.int) :: aw)) B.pre
  have ht : ∀ {w : Cond}, w ∈ aw → w.before ([.ref (h0), .int (a0), .int (a1)] : List Value).toArray s = true := fun h => hts _ (List.mem_cons_of_mem _ h)
  have hown : s.vm.findClass "CodeWords" = some m.cls := findClass_of_methodNamed B.named
  have hlocks := B.notSynchronized
  have hS : va_S (fun _ => False) s.heap s.heap [] := va_S.rf
  have hl := lv_entry ([.ref (h0), .int (a0), .int (a1)]) (n := 4) (Nat.le_of_ble_eq_true rfl)
  rw [lg_entry_eq]
  generalize (lg_sl ([.ref (h0), .int (a0), .int (a1)]) ++ List.replicate (4 - (lg_sl ([.ref (h0), .int (a0), .int (a1)])).length) Slot.unset).toArray = ls at hl ⊢
  have hl : lv_has ls 4 [(0, .ref (h0)), (1, .int (a0)), (2, .int (a1))] := hl
  rw [f_C_part] at hf
  refine lv_iload_n hx hb d_C_part_0 rfl (lv_at hl 1 rfl) ?_
  obtain ⟨r_1, g_2, hf⟩ := Option.bind_eq_some_iff.mp hf
  refine ju_calli (W.runS (As := [.int (a0)]) (rest := []) ⟨hx, hb, hml, hown, hts⟩ (c_C_numberOf l (ad := ad) (sk := sk) (sv := sv) (tK := tK)  a0  r_1 g_2) (va_cwS 1 hts (aw_S aw_35 aw_36 aw_1 aw_37) rfl rfl rfl (by decide +kernel) ⟨Nat.le_of_ble_eq_true rfl, Nat.le_of_ble_eq_true rfl⟩) ⟨fun a U g mk q => ⟨q.1, q.2.call⟩, fun U hU hW => ⟨rfl, hT.at hS hU hW (fun _ z => z.elim)⟩⟩ rfl rfl hl.1 rfl (lv_room (Nat.le_of_ble_eq_true rfl)) d_C_part_1 ⟨Nat.le_of_ble_eq_true rfl, Nat.le_of_ble_eq_true rfl⟩) ?_
  refine lv_istore_n (lv' := [(3, .int (r_1)), (0, .ref (h0)), (1, .int (a0)), (2, .int (a1))]) hx hb d_C_part_4 rfl hl (by decide) rfl (fun ls hl => ?_)
  refine lv_iload_n hx hb d_C_part_5 rfl (lv_at hl 0 rfl) ?_
  refine lv_iconst (v := (-1)) hx hb d_C_part_6 (by decide) ?_
  refine lv_icmp_ne (tgt := 20) hx hb d_C_part_7 (by decide) (fun c_3 => ?_) (fun c_3 => ?_)
  · replace hf := (if_neg c_3).symm.trans hf
    refine lv_iload_n hx hb d_C_part_20 rfl (lv_at hl 3 rfl) ?_
    refine lv_if_lt (tgt := 43) hx hb d_C_part_21 (by decide) (fun c_4 => ?_) (fun c_4 => ?_)
    · replace hf := (if_pos c_4).symm.trans hf
      obtain rfl := Sum.inr.inj (Option.some.inj hf)
      refine W.newc (C := "java/util/NoSuchElementException") (n := 6) hx hb hown (ht aw_352) (ht aw_353) (ht aw_14) (g := F0 m 43 ls []) rfl d_C_part_43 (Nat.le_of_ble_eq_true rfl) (Nat.le_of_ble_eq_true rfl) (fun cX kX hfX hkX _ _ => ?_)
      refine W.eq (g2 := F0 m 46 ls [.ref s.heap.size]) rfl ?_
      refine lv_dup hx hb d_C_part_46 rfl ?_
      refine va_ldcS hx hb hown (tb_r62 hT) d_C_part_47 ?_
      exact xt_NoSuchElementException_58 (cc := b_C_part) hx hb hfl hlocks hown (fun {w} h => ht h) hXb hfX hkX (by rw [Array.getElem?_push_size]) (Nat.le_refl _) (hl.1.trans hml.symm) d_C_part_49 d_C_part_52 hne (Nat.le_of_ble_eq_true rfl) (Nat.le_of_ble_eq_true rfl) (Nat.le_refl _) (Nat.le_refl _)
    · replace hf := (if_neg c_4).symm.trans hf
      refine lv_iload_n hx hb d_C_part_24 rfl (lv_at hl 3 rfl) ?_
      refine lv_iconst (v := 3) hx hb d_C_part_25 (by decide) ?_
      refine lv_icmp_gt (tgt := 43) hx hb d_C_part_26 (by decide) (fun c_5 => ?_) (fun c_5 => ?_)
      · replace hf := (if_pos c_5).symm.trans hf
        obtain rfl := Sum.inr.inj (Option.some.inj hf)
        refine W.newc (C := "java/util/NoSuchElementException") (n := 6) hx hb hown (ht aw_352) (ht aw_353) (ht aw_14) (g := F0 m 43 ls []) rfl d_C_part_43 (Nat.le_of_ble_eq_true rfl) (Nat.le_of_ble_eq_true rfl) (fun cX kX hfX hkX _ _ => ?_)
        refine W.eq (g2 := F0 m 46 ls [.ref s.heap.size]) rfl ?_
        refine lv_dup hx hb d_C_part_46 rfl ?_
        refine va_ldcS hx hb hown (tb_r62 hT) d_C_part_47 ?_
        exact xt_NoSuchElementException_58 (cc := b_C_part) hx hb hfl hlocks hown (fun {w} h => ht h) hXb hfX hkX (by rw [Array.getElem?_push_size]) (Nat.le_refl _) (hl.1.trans hml.symm) d_C_part_49 d_C_part_52 hne (Nat.le_of_ble_eq_true rfl) (Nat.le_of_ble_eq_true rfl) (Nat.le_refl _) (Nat.le_refl _)
      · replace hf := (if_neg c_5).symm.trans hf
        refine va_gets (v := .ref (tK)) hx hb hT.1 hS hown (ht aw_38) (fun _ h9 => h9) d_C_part_29 ?_
        refine lv_iload_n hx hb d_C_part_32 rfl (lv_at hl 0 rfl) ?_
        obtain ⟨z_6, hf⟩ := ju_gd hf
        refine vb_tq (v := .ref (ad r_1.toNatClampNeg)) hx hb hT.2.1 hS z_6 rfl d_C_part_33 ?_
        refine lv_iconst (v := 1) hx hb d_C_part_34 (by decide) ?_
        refine lv_iload_n hx hb d_C_part_35 rfl (lv_at hl 3 rfl) ?_
        refine lv_ishl hx hb d_C_part_36 ?_
        obtain ⟨r_7, g_8, hf⟩ := Option.bind_eq_some_iff.mp hf
        refine ju_calli (W.runV (As := [.int ((1 : Int32) <<< (a1 &&& 31))]) (rest := []) ⟨hx, hb, hml, hown, hts⟩ (c_K_has l (ad := ad) (sk := sk) (sv := sv) (tK := tK)  r_1.toNatClampNeg ((1 : Int32) <<< (a1 &&& 31)) (ju_lt z_6) r_7 g_8) (cwV 1 hts (aw_V aw_176 aw_49 aw_50 aw_12 aw_51) rfl rfl rfl (by decide +kernel) ⟨Nat.le_of_ble_eq_true rfl, Nat.le_of_ble_eq_true rfl⟩) ⟨fun a U g mk q => ⟨q.1, q.2.call⟩, tb_recvK hT (ju_lt z_6) hS, fun U hU hW => ⟨rfl, hT.at hS hU hW (fun _ z => z.elim)⟩⟩ rfl rfl hl.1 rfl (lv_room (Nat.le_of_ble_eq_true rfl)) d_C_part_37 ⟨Nat.le_of_ble_eq_true rfl, Nat.le_of_ble_eq_true rfl⟩) ?_
        refine lv_if_ne (tgt := 53) hx hb d_C_part_40 (by decide) (fun c_9 => ?_) (fun c_9 => ?_)
        · replace hf := (if_neg c_9).symm.trans hf
          refine lv_iload_n hx hb d_C_part_53 rfl (lv_at hl 3 rfl) ?_
          refine lv_iconst (v := 3) hx hb d_C_part_54 (by decide) ?_
          refine lv_icmp_ne (tgt := 70) hx hb d_C_part_55 (by decide) (fun c_10 => ?_) (fun c_10 => ?_)
          · replace hf := (if_neg c_10).symm.trans hf
            refine va_gets (v := .ref (tK)) hx hb hT.1 hS hown (ht aw_38) (fun _ h9 => h9) d_C_part_70 ?_
            refine lv_iload_n hx hb d_C_part_73 rfl (lv_at hl 0 rfl) ?_
            obtain ⟨z_11, hf⟩ := ju_gd hf
            refine vb_tq (v := .ref (ad r_1.toNatClampNeg)) hx hb hT.2.1 hS z_11 rfl d_C_part_74 ?_
            refine lv_iload_n hx hb d_C_part_75 rfl (lv_at hl 2 rfl) ?_
            refine lv_iconst (v := 1) hx hb d_C_part_76 (by decide) ?_
            refine lv_iload_n hx hb d_C_part_77 rfl (lv_at hl 3 rfl) ?_
            refine lv_ishl hx hb d_C_part_78 ?_
            obtain ⟨r_12, g_13, hf⟩ := Option.bind_eq_some_iff.mp hf
            refine ju_calli (W.runV (As := [.int (a0), .int ((1 : Int32) <<< (a1 &&& 31))]) (rest := []) ⟨hx, hb, hml, hown, hts⟩ (c_K_register l (ad := ad) (sk := sk) (sv := sv) (tK := tK)  r_1.toNatClampNeg a0 ((1 : Int32) <<< (a1 &&& 31)) (ju_lt z_11) r_12 g_13) (cwV 2 hts (aw_V aw_147 aw_45 aw_46 aw_12 aw_47) rfl rfl rfl (by decide +kernel) ⟨Nat.le_of_ble_eq_true rfl, Nat.le_of_ble_eq_true rfl⟩) ⟨fun a U g mk q => ⟨q.1, q.2.call⟩, tb_recvK hT (ju_lt z_11) hS, fun U hU hW => ⟨rfl, hT.at hS hU hW (fun _ z => z.elim)⟩⟩ rfl rfl hl.1 rfl (lv_room (Nat.le_of_ble_eq_true rfl)) d_C_part_79 ⟨Nat.le_of_ble_eq_true rfl, Nat.le_of_ble_eq_true rfl⟩) ?_
            cases hf
          · replace hf := (if_pos c_10).symm.trans hf
            refine va_gets (v := .ref (tK)) hx hb hT.1 hS hown (ht aw_38) (fun _ h9 => h9) d_C_part_58 ?_
            refine lv_iload_n hx hb d_C_part_61 rfl (lv_at hl 0 rfl) ?_
            obtain ⟨z_14, hf⟩ := ju_gd hf
            refine vb_tq (v := .ref (ad r_1.toNatClampNeg)) hx hb hT.2.1 hS z_14 rfl d_C_part_62 ?_
            refine lv_iload_n hx hb d_C_part_63 rfl (lv_at hl 2 rfl) ?_
            obtain ⟨r_15, g_16, hf⟩ := Option.bind_eq_some_iff.mp hf
            refine ju_calli (W.runV (As := [.int (a0)]) (rest := []) ⟨hx, hb, hml, hown, hts⟩ (c_K_immediate l (ad := ad) (sk := sk) (sv := sv) (tK := tK)  r_1.toNatClampNeg a0 (ju_lt z_14) r_15 g_16) (cwV 1 hts (aw_V aw_148 aw_113 aw_114 aw_12 aw_115) rfl rfl rfl (by decide +kernel) ⟨Nat.le_of_ble_eq_true rfl, Nat.le_of_ble_eq_true rfl⟩) ⟨fun a U g mk q => ⟨q.1, q.2.call⟩, tb_recvK hT (ju_lt z_14) hS, fun U hU hW => ⟨rfl, hT.at hS hU hW (fun _ z => z.elim)⟩⟩ rfl rfl hl.1 rfl (lv_room (Nat.le_of_ble_eq_true rfl)) d_C_part_64 ⟨Nat.le_of_ble_eq_true rfl, Nat.le_of_ble_eq_true rfl⟩) ?_
            refine lv_goto (tgt := 82) hx hb d_C_part_67 (by decide) ?_
            cases hf
        · replace hf := (if_pos c_9).symm.trans hf
          obtain rfl := Sum.inr.inj (Option.some.inj hf)
          refine W.newc (C := "java/util/NoSuchElementException") (n := 6) hx hb hown (ht aw_352) (ht aw_353) (ht aw_14) (g := F0 m 43 ls []) rfl d_C_part_43 (Nat.le_of_ble_eq_true rfl) (Nat.le_of_ble_eq_true rfl) (fun cX kX hfX hkX _ _ => ?_)
          refine W.eq (g2 := F0 m 46 ls [.ref s.heap.size]) rfl ?_
          refine lv_dup hx hb d_C_part_46 rfl ?_
          refine va_ldcS hx hb hown (tb_r62 hT) d_C_part_47 ?_
          exact xt_NoSuchElementException_58 (cc := b_C_part) hx hb hfl hlocks hown (fun {w} h => ht h) hXb hfX hkX (by rw [Array.getElem?_push_size]) (Nat.le_refl _) (hl.1.trans hml.symm) d_C_part_49 d_C_part_52 hne (Nat.le_of_ble_eq_true rfl) (Nat.le_of_ble_eq_true rfl) (Nat.le_refl _) (Nat.le_refl _)
  · replace hf := (if_pos c_3).symm.trans hf
    obtain rfl := Sum.inr.inj (Option.some.inj hf)
    refine W.newc (C := "java/util/NoSuchElementException") (n := 6) hx hb hown (ht aw_352) (ht aw_353) (ht aw_14) (g := F0 m 10 ls []) rfl d_C_part_10 (Nat.le_of_ble_eq_true rfl) (Nat.le_of_ble_eq_true rfl) (fun cX kX hfX hkX _ _ => ?_)
    refine W.eq (g2 := F0 m 13 ls [.ref s.heap.size]) rfl ?_
    refine lv_dup hx hb d_C_part_13 rfl ?_
    refine va_ldcS hx hb hown (tb_r56 hT) d_C_part_14 ?_
    exact xt_NoSuchElementException_58 (cc := b_C_part) hx hb hfl hlocks hown (fun {w} h => ht h) hXb hfX hkX (by rw [Array.getElem?_push_size]) (Nat.le_refl _) (hl.1.trans hml.symm) d_C_part_16 d_C_part_19 hne (Nat.le_of_ble_eq_true rfl) (Nat.le_of_ble_eq_true rfl) (Nat.le_refl _) (Nat.le_refl _)

set_option maxHeartbeats 4000000 in
set_option maxRecDepth 100000 in
theorem x_C_longer (l : Launch) (hfl : l.stackTraces = false) {ad sk sv : Nat → Nat} {tK : Nat} (h0 : Nat) (a0 : Int32) (r : String) (hf : f_C_longer a0 = some (.inr r)) : MetT l y_C_longer (Cond.code y_C_longer b_C_longer 4 (Option.some FieldType.int) :: aw) ({ frames := 9, cells := 1, slots := 6, locals := 195 } : Room) (va_Pc [.ref (h0), .int (a0)] (fun U => tb ad sk sv tK (fun _ => False) U U.heap ∧ xb (fun _ => False) U U.heap)) r 1 6 := by
  refine MetT.ofW (cc := b_C_longer) (maxL := 4) (ret := (Option.some FieldType.int)) (by decide) rfl ?_
  intro p e s m args below meth c s₁ B hml hne hv
  obtain ⟨rfl, hT, hXb⟩ := hv
  have hx := B.exec
  have hb := B.bytes
  have hr := B.returns
  have hts := atoms_spec (ws := (Cond.code y_C_longer b_C_longer 4 (Option.some FieldType.int) :: aw)) B.pre
  have ht : ∀ {w : Cond}, w ∈ aw → w.before ([.ref (h0), .int (a0)] : List Value).toArray s = true := fun h => hts _ (List.mem_cons_of_mem _ h)
  have hown : s.vm.findClass "CodeWords" = some m.cls := findClass_of_methodNamed B.named
  have hlocks := B.notSynchronized
  have hS : va_S (fun _ => False) s.heap s.heap [] := va_S.rf
  have hl := lv_entry ([.ref (h0), .int (a0)]) (n := 4) (Nat.le_of_ble_eq_true rfl)
  rw [lg_entry_eq]
  generalize (lg_sl ([.ref (h0), .int (a0)]) ++ List.replicate (4 - (lg_sl ([.ref (h0), .int (a0)])).length) Slot.unset).toArray = ls at hl ⊢
  have hl : lv_has ls 4 [(0, .ref (h0)), (1, .int (a0))] := hl
  rw [f_C_longer] at hf
  refine lv_iload_n hx hb d_C_longer_0 rfl (lv_at hl 1 rfl) ?_
  obtain ⟨r_1, g_2, hf⟩ := Option.bind_eq_some_iff.mp hf
  refine ju_calli (W.runS (As := [.int (a0)]) (rest := []) ⟨hx, hb, hml, hown, hts⟩ (c_C_numberOf l (ad := ad) (sk := sk) (sv := sv) (tK := tK)  a0  r_1 g_2) (va_cwS 1 hts (aw_S aw_35 aw_36 aw_1 aw_37) rfl rfl rfl (by decide +kernel) ⟨Nat.le_of_ble_eq_true rfl, Nat.le_of_ble_eq_true rfl⟩) ⟨fun a U g mk q => ⟨q.1, q.2.call⟩, fun U hU hW => ⟨rfl, hT.at hS hU hW (fun _ z => z.elim)⟩⟩ rfl rfl hl.1 rfl (lv_room (Nat.le_of_ble_eq_true rfl)) d_C_longer_1 ⟨Nat.le_of_ble_eq_true rfl, Nat.le_of_ble_eq_true rfl⟩) ?_
  refine lv_istore_n (lv' := [(2, .int (r_1)), (0, .ref (h0)), (1, .int (a0))]) hx hb d_C_longer_4 rfl hl (by decide) rfl (fun ls hl => ?_)
  refine lv_iload_n hx hb d_C_longer_5 rfl (lv_at hl 0 rfl) ?_
  refine lv_iconst (v := (-1)) hx hb d_C_longer_6 (by decide) ?_
  refine lv_icmp_eq (tgt := 24) hx hb d_C_longer_7 (by decide) (fun c_3 => ?_) (fun c_3 => ?_)
  · replace hf := (if_pos c_3).symm.trans hf
    obtain rfl := Sum.inr.inj (Option.some.inj hf)
    refine W.newc (C := "java/util/NoSuchElementException") (n := 6) hx hb hown (ht aw_352) (ht aw_353) (ht aw_14) (g := F0 m 24 ls []) rfl d_C_longer_24 (Nat.le_of_ble_eq_true rfl) (Nat.le_of_ble_eq_true rfl) (fun cX kX hfX hkX _ _ => ?_)
    refine W.eq (g2 := F0 m 27 ls [.ref s.heap.size]) rfl ?_
    refine lv_dup hx hb d_C_longer_27 rfl ?_
    refine va_ldcS hx hb hown (tb_r74 hT) d_C_longer_28 ?_
    exact xt_NoSuchElementException_58 (cc := b_C_longer) hx hb hfl hlocks hown (fun {w} h => ht h) hXb hfX hkX (by rw [Array.getElem?_push_size]) (Nat.le_refl _) (hl.1.trans hml.symm) d_C_longer_30 d_C_longer_33 hne (Nat.le_of_ble_eq_true rfl) (Nat.le_of_ble_eq_true rfl) (Nat.le_refl _) (Nat.le_refl _)
  · replace hf := (if_neg c_3).symm.trans hf
    refine va_gets (v := .ref (tK)) hx hb hT.1 hS hown (ht aw_38) (fun _ h9 => h9) d_C_longer_10 ?_
    refine lv_iload_n hx hb d_C_longer_13 rfl (lv_at hl 0 rfl) ?_
    obtain ⟨z_4, hf⟩ := ju_gd hf
    refine vb_tq (v := .ref (ad r_1.toNatClampNeg)) hx hb hT.2.1 hS z_4 rfl d_C_longer_14 ?_
    refine vk_getf (v := .int (k_stands r_1.toNatClampNeg)) hx hb (tb_stands hT (ju_lt z_4)) hS hown (ht aw_774) (fun _ h9 => h9) d_C_longer_15 ?_
    obtain ⟨r_5, g_6, hf⟩ := Option.bind_eq_some_iff.mp hf
    refine ju_calli (W.runS (As := [.int (k_stands r_1.toNatClampNeg)]) (rest := []) ⟨hx, hb, hml, hown, hts⟩ (c_C_isKind l (ad := ad) (sk := sk) (sv := sv) (tK := tK)  (k_stands r_1.toNatClampNeg)  r_5 g_6) (va_cwS 1 hts (aw_S aw_152 aw_153 aw_1 aw_154) rfl rfl rfl (by decide +kernel) ⟨Nat.le_of_ble_eq_true rfl, Nat.le_of_ble_eq_true rfl⟩) ⟨fun a U g mk q => ⟨q.1, q.2.call⟩, fun U hU hW => ⟨rfl, hT.at hS hU hW (fun _ z => z.elim)⟩⟩ rfl rfl hl.1 rfl (lv_room (Nat.le_of_ble_eq_true rfl)) d_C_longer_18 ⟨Nat.le_of_ble_eq_true rfl, Nat.le_of_ble_eq_true rfl⟩) ?_
    refine lv_if_ne (tgt := 34) hx hb d_C_longer_21 (by decide) (fun c_7 => ?_) (fun c_7 => ?_)
    · replace hf := (if_neg c_7).symm.trans hf
      refine va_gets (v := .ref (tK)) hx hb hT.1 hS hown (ht aw_38) (fun _ h9 => h9) d_C_longer_34 ?_
      refine lv_iload_n hx hb d_C_longer_37 rfl (lv_at hl 0 rfl) ?_
      obtain ⟨z_8, hf⟩ := ju_gd hf
      refine vb_tq (v := .ref (ad r_1.toNatClampNeg)) hx hb hT.2.1 hS z_8 rfl d_C_longer_38 ?_
      refine lv_astore_n (lv' := [(3, .ref (ad r_1.toNatClampNeg)), (2, .int (r_1)), (0, .ref (h0)), (1, .int (a0))]) hx hb d_C_longer_39 rfl hl (by decide) rfl (fun ls hl => ?_)
      refine lv_aload_n hx hb d_C_longer_40 rfl (lv_at hl 0 rfl) ?_
      refine lv_aload_n hx hb d_C_longer_41 rfl (lv_at hl 0 rfl) ?_
      refine lv_iload_n hx hb d_C_longer_42 rfl (lv_at hl 3 rfl) ?_
      refine lv_iconst (v := 1) hx hb d_C_longer_43 (by decide) ?_
      obtain ⟨r_9, g_10, hf⟩ := Option.bind_eq_some_iff.mp hf
      refine ju_calli (W.runV (As := [.int (a0), .int (1)]) (rest := [.ref (ad r_1.toNatClampNeg)]) ⟨hx, hb, hml, hown, hts⟩ (c_K_register l (ad := ad) (sk := sk) (sv := sv) (tK := tK)  r_1.toNatClampNeg a0 1 (ju_lt z_8) r_9 g_10) (cwV 2 hts (aw_V aw_147 aw_45 aw_46 aw_12 aw_47) rfl rfl rfl (by decide +kernel) ⟨Nat.le_of_ble_eq_true rfl, Nat.le_of_ble_eq_true rfl⟩) ⟨fun a U g mk q => ⟨q.1, q.2.call⟩, tb_recvK hT (ju_lt z_8) hS, fun U hU hW => ⟨rfl, hT.at hS hU hW (fun _ z => z.elim)⟩⟩ rfl rfl hl.1 rfl (lv_room (Nat.le_of_ble_eq_true rfl)) d_C_longer_44 ⟨Nat.le_of_ble_eq_true rfl, Nat.le_of_ble_eq_true rfl⟩) ?_
      refine lv_aload_n hx hb d_C_longer_47 rfl (lv_at hl 0 rfl) ?_
      refine lv_iload_n hx hb d_C_longer_48 rfl (lv_at hl 3 rfl) ?_
      refine lv_iconst (v := 2) hx hb d_C_longer_49 (by decide) ?_
      obtain ⟨r_11, g_12, hf⟩ := Option.bind_eq_some_iff.mp hf
      refine ju_calli (W.runV (As := [.int (a0), .int (2)]) (rest := [.int (r_9), .ref (ad r_1.toNatClampNeg)]) ⟨hx, hb, hml, hown, hts⟩ (c_K_register l (ad := ad) (sk := sk) (sv := sv) (tK := tK)  r_1.toNatClampNeg a0 2 (ju_lt z_8) r_11 g_12) (cwV 2 hts (aw_V aw_147 aw_45 aw_46 aw_12 aw_47) rfl rfl rfl (by decide +kernel) ⟨Nat.le_of_ble_eq_true rfl, Nat.le_of_ble_eq_true rfl⟩) ⟨fun a U g mk q => ⟨q.1, q.2.call⟩, tb_recvK hT (ju_lt z_8) hS, fun U hU hW => ⟨rfl, hT.at hS hU hW (fun _ z => z.elim)⟩⟩ rfl rfl hl.1 rfl (lv_room (Nat.le_of_ble_eq_true rfl)) d_C_longer_50 ⟨Nat.le_of_ble_eq_true rfl, Nat.le_of_ble_eq_true rfl⟩) ?_
      refine lv_aload_n hx hb d_C_longer_53 rfl (lv_at hl 0 rfl) ?_
      refine lv_iload_n hx hb d_C_longer_54 rfl (lv_at hl 3 rfl) ?_
      refine lv_iconst (v := 4) hx hb d_C_longer_55 (by decide) ?_
      obtain ⟨r_13, g_14, hf⟩ := Option.bind_eq_some_iff.mp hf
      refine ju_calli (W.runV (As := [.int (a0), .int (4)]) (rest := [.int (r_11), .int (r_9), .ref (ad r_1.toNatClampNeg)]) ⟨hx, hb, hml, hown, hts⟩ (c_K_register l (ad := ad) (sk := sk) (sv := sv) (tK := tK)  r_1.toNatClampNeg a0 4 (ju_lt z_8) r_13 g_14) (cwV 2 hts (aw_V aw_147 aw_45 aw_46 aw_12 aw_47) rfl rfl rfl (by decide +kernel) ⟨Nat.le_of_ble_eq_true rfl, Nat.le_of_ble_eq_true rfl⟩) ⟨fun a U g mk q => ⟨q.1, q.2.call⟩, tb_recvK hT (ju_lt z_8) hS, fun U hU hW => ⟨rfl, hT.at hS hU hW (fun _ z => z.elim)⟩⟩ rfl rfl hl.1 rfl (lv_room (Nat.le_of_ble_eq_true rfl)) d_C_longer_56 ⟨Nat.le_of_ble_eq_true rfl, Nat.le_of_ble_eq_true rfl⟩) ?_
      refine lv_aload_n hx hb d_C_longer_59 rfl (lv_at hl 0 rfl) ?_
      refine lv_iload_n hx hb d_C_longer_60 rfl (lv_at hl 3 rfl) ?_
      obtain ⟨r_15, g_16, hf⟩ := Option.bind_eq_some_iff.mp hf
      refine ju_calli (W.runV (As := [.int (a0)]) (rest := [.int (r_13), .int (r_11), .int (r_9), .ref (ad r_1.toNatClampNeg)]) ⟨hx, hb, hml, hown, hts⟩ (c_K_immediate l (ad := ad) (sk := sk) (sv := sv) (tK := tK)  r_1.toNatClampNeg a0 (ju_lt z_8) r_15 g_16) (cwV 1 hts (aw_V aw_148 aw_113 aw_114 aw_12 aw_115) rfl rfl rfl (by decide +kernel) ⟨Nat.le_of_ble_eq_true rfl, Nat.le_of_ble_eq_true rfl⟩) ⟨fun a U g mk q => ⟨q.1, q.2.call⟩, tb_recvK hT (ju_lt z_8) hS, fun U hU hW => ⟨rfl, hT.at hS hU hW (fun _ z => z.elim)⟩⟩ rfl rfl hl.1 rfl (lv_room (Nat.le_of_ble_eq_true rfl)) d_C_longer_61 ⟨Nat.le_of_ble_eq_true rfl, Nat.le_of_ble_eq_true rfl⟩) ?_
      obtain ⟨r_17, g_18, hf⟩ := Option.bind_eq_some_iff.mp hf
      refine ju_calli (W.runS (As := [.ref (ad r_1.toNatClampNeg), .int (r_9), .int (r_11), .int (r_13), .int (r_15)]) (rest := []) ⟨hx, hb, hml, hown, hts⟩ (c_C_longOf l (ad := ad) (sk := sk) (sv := sv) (tK := tK)  r_1.toNatClampNeg r_9 r_11 r_13 r_15 (ju_lt z_8) r_17 g_18) (va_cwS 5 hts (aw_S aw_168 aw_169 aw_1 aw_170) rfl rfl rfl (by decide +kernel) ⟨Nat.le_of_ble_eq_true rfl, Nat.le_of_ble_eq_true rfl⟩) ⟨fun a U g mk q => ⟨q.1, q.2.call⟩, fun U hU hW => ⟨rfl, hT.at hS hU hW (fun _ z => z.elim)⟩⟩ rfl rfl hl.1 rfl (lv_room (Nat.le_of_ble_eq_true rfl)) d_C_longer_64 ⟨Nat.le_of_ble_eq_true rfl, Nat.le_of_ble_eq_true rfl⟩) ?_
      cases hf
    · replace hf := (if_pos c_7).symm.trans hf
      obtain rfl := Sum.inr.inj (Option.some.inj hf)
      refine W.newc (C := "java/util/NoSuchElementException") (n := 6) hx hb hown (ht aw_352) (ht aw_353) (ht aw_14) (g := F0 m 24 ls []) rfl d_C_longer_24 (Nat.le_of_ble_eq_true rfl) (Nat.le_of_ble_eq_true rfl) (fun cX kX hfX hkX _ _ => ?_)
      refine W.eq (g2 := F0 m 27 ls [.ref s.heap.size]) rfl ?_
      refine lv_dup hx hb d_C_longer_27 rfl ?_
      refine va_ldcS hx hb hown (tb_r74 hT) d_C_longer_28 ?_
      exact xt_NoSuchElementException_58 (cc := b_C_longer) hx hb hfl hlocks hown (fun {w} h => ht h) hXb hfX hkX (by rw [Array.getElem?_push_size]) (Nat.le_refl _) (hl.1.trans hml.symm) d_C_longer_30 d_C_longer_33 hne (Nat.le_of_ble_eq_true rfl) (Nat.le_of_ble_eq_true rfl) (Nat.le_refl _) (Nat.le_refl _)

set_option maxHeartbeats 4000000 in
set_option maxRecDepth 100000 in
theorem x_C_fit (l : Launch) (hfl : l.stackTraces = false) {ad sk sv : Nat → Nat} {tK : Nat} (h0 : Nat) (a0 : Int32) (a1 : Int64) (r : String) (hf : f_C_fit a0 a1 = some (.inr r)) : MetT l y_C_fit (Cond.code y_C_fit b_C_fit 6 (Option.some FieldType.int) :: aw) ({ frames := 9, cells := 1, slots := 6, locals := 195 } : Room) (va_Pc [.ref (h0), .int (a0), .long (a1)] (fun U => tb ad sk sv tK (fun _ => False) U U.heap ∧ xb (fun _ => False) U U.heap)) r 1 6 := by
  refine MetT.ofW (cc := b_C_fit) (maxL := 6) (ret := (Option.some FieldType.int)) (by decide) rfl ?_
  intro p e s m args below meth c s₁ B hml hne hv
  obtain ⟨rfl, hT, hXb⟩ := hv
  have hx := B.exec
  have hb := B.bytes
  have hr := B.returns
  have hts := atoms_spec (ws := (Cond.code y_C_fit b_C_fit 6 (Option.some FieldType.int) :: aw)) B.pre
  have ht : ∀ {w : Cond}, w ∈ aw → w.before ([.ref (h0), .int (a0), .long (a1)] : List Value).toArray s = true := fun h => hts _ (List.mem_cons_of_mem _ h)
  have hown : s.vm.findClass "CodeWords" = some m.cls := findClass_of_methodNamed B.named
  have hlocks := B.notSynchronized
  have hS : va_S (fun _ => False) s.heap s.heap [] := va_S.rf
  have hl := lv_entry ([.ref (h0), .int (a0), .long (a1)]) (n := 6) (Nat.le_of_ble_eq_true rfl)
  rw [lg_entry_eq]
  generalize (lg_sl ([.ref (h0), .int (a0), .long (a1)]) ++ List.replicate (6 - (lg_sl ([.ref (h0), .int (a0), .long (a1)])).length) Slot.unset).toArray = ls at hl ⊢
  have hl : lv_has ls 6 [(0, .ref (h0)), (1, .int (a0)), (2, .long (a1))] := hl
  rw [f_C_fit] at hf
  refine lv_iload_n hx hb d_C_fit_0 rfl (lv_at hl 1 rfl) ?_
  obtain ⟨r_1, g_2, hf⟩ := Option.bind_eq_some_iff.mp hf
  refine ju_calli (W.runS (As := [.int (a0)]) (rest := []) ⟨hx, hb, hml, hown, hts⟩ (c_C_numberOf l (ad := ad) (sk := sk) (sv := sv) (tK := tK)  a0  r_1 g_2) (va_cwS 1 hts (aw_S aw_35 aw_36 aw_1 aw_37) rfl rfl rfl (by decide +kernel) ⟨Nat.le_of_ble_eq_true rfl, Nat.le_of_ble_eq_true rfl⟩) ⟨fun a U g mk q => ⟨q.1, q.2.call⟩, fun U hU hW => ⟨rfl, hT.at hS hU hW (fun _ z => z.elim)⟩⟩ rfl rfl hl.1 rfl (lv_room (Nat.le_of_ble_eq_true rfl)) d_C_fit_1 ⟨Nat.le_of_ble_eq_true rfl, Nat.le_of_ble_eq_true rfl⟩) ?_
  refine lv_istore (lv' := [(4, .int (r_1)), (0, .ref (h0)), (1, .int (a0)), (2, .long (a1))]) hx hb d_C_fit_4 hl (by decide) rfl (fun ls hl => ?_)
  refine lv_iload hx hb d_C_fit_6 (lv_at hl 0 rfl) ?_
  refine lv_iconst (v := (-1)) hx hb d_C_fit_8 (by decide) ?_
  refine lv_icmp_ne (tgt := 22) hx hb d_C_fit_9 (by decide) (fun c_3 => ?_) (fun c_3 => ?_)
  · replace hf := (if_neg c_3).symm.trans hf
    refine va_gets (v := .ref (tK)) hx hb hT.1 hS hown (ht aw_38) (fun _ h9 => h9) d_C_fit_22 ?_
    refine lv_iload hx hb d_C_fit_25 (lv_at hl 0 rfl) ?_
    obtain ⟨z_4, hf⟩ := ju_gd hf
    refine vb_tq (v := .ref (ad r_1.toNatClampNeg)) hx hb hT.2.1 hS z_4 rfl d_C_fit_27 ?_
    refine lv_astore (lv' := [(5, .ref (ad r_1.toNatClampNeg)), (4, .int (r_1)), (0, .ref (h0)), (1, .int (a0)), (2, .long (a1))]) hx hb d_C_fit_28 hl (by decide) rfl (fun ls hl => ?_)
    refine lv_aload hx hb d_C_fit_30 (lv_at hl 0 rfl) ?_
    refine lv_lload_n hx hb d_C_fit_32 rfl (lv_at hl 4 rfl) ?_
    obtain ⟨r_5, g_6, hf⟩ := Option.bind_eq_some_iff.mp hf
    refine ju_calli (W.runV (As := [.long (a1)]) (rest := []) ⟨hx, hb, hml, hown, hts⟩ (c_K_allowsImmediate l (ad := ad) (sk := sk) (sv := sv) (tK := tK)  r_1.toNatClampNeg a1 (ju_lt z_4) r_5 g_6) (cwV 1 hts (aw_V aw_184 aw_130 aw_131 aw_12 aw_132) rfl rfl rfl (by decide +kernel) ⟨Nat.le_of_ble_eq_true rfl, Nat.le_of_ble_eq_true rfl⟩) ⟨fun a U g mk q => ⟨q.1, q.2.call⟩, tb_recvK hT (ju_lt z_4) hS, fun U hU hW => ⟨rfl, hT.at hS hU hW (fun _ z => z.elim)⟩⟩ rfl rfl hl.1 rfl (lv_room (Nat.le_of_ble_eq_true rfl)) d_C_fit_33 ⟨Nat.le_of_ble_eq_true rfl, Nat.le_of_ble_eq_true rfl⟩) ?_
    refine lv_if_ne (tgt := 49) hx hb d_C_fit_36 (by decide) (fun c_7 => ?_) (fun c_7 => ?_)
    · replace hf := (if_neg c_7).symm.trans hf
      refine lv_aload hx hb d_C_fit_49 (lv_at hl 0 rfl) ?_
      refine lv_aload hx hb d_C_fit_51 (lv_at hl 0 rfl) ?_
      refine lv_iload_n hx hb d_C_fit_53 rfl (lv_at hl 3 rfl) ?_
      refine lv_iconst (v := 1) hx hb d_C_fit_54 (by decide) ?_
      obtain ⟨r_8, g_9, hf⟩ := Option.bind_eq_some_iff.mp hf
      refine ju_calli (W.runV (As := [.int (a0), .int (1)]) (rest := [.ref (ad r_1.toNatClampNeg)]) ⟨hx, hb, hml, hown, hts⟩ (c_K_register l (ad := ad) (sk := sk) (sv := sv) (tK := tK)  r_1.toNatClampNeg a0 1 (ju_lt z_4) r_8 g_9) (cwV 2 hts (aw_V aw_147 aw_45 aw_46 aw_12 aw_47) rfl rfl rfl (by decide +kernel) ⟨Nat.le_of_ble_eq_true rfl, Nat.le_of_ble_eq_true rfl⟩) ⟨fun a U g mk q => ⟨q.1, q.2.call⟩, tb_recvK hT (ju_lt z_4) hS, fun U hU hW => ⟨rfl, hT.at hS hU hW (fun _ z => z.elim)⟩⟩ rfl rfl hl.1 rfl (lv_room (Nat.le_of_ble_eq_true rfl)) d_C_fit_55 ⟨Nat.le_of_ble_eq_true rfl, Nat.le_of_ble_eq_true rfl⟩) ?_
      refine lv_aload hx hb d_C_fit_58 (lv_at hl 0 rfl) ?_
      refine lv_iload_n hx hb d_C_fit_60 rfl (lv_at hl 3 rfl) ?_
      refine lv_iconst (v := 2) hx hb d_C_fit_61 (by decide) ?_
      obtain ⟨r_10, g_11, hf⟩ := Option.bind_eq_some_iff.mp hf
      refine ju_calli (W.runV (As := [.int (a0), .int (2)]) (rest := [.int (r_8), .ref (ad r_1.toNatClampNeg)]) ⟨hx, hb, hml, hown, hts⟩ (c_K_register l (ad := ad) (sk := sk) (sv := sv) (tK := tK)  r_1.toNatClampNeg a0 2 (ju_lt z_4) r_10 g_11) (cwV 2 hts (aw_V aw_147 aw_45 aw_46 aw_12 aw_47) rfl rfl rfl (by decide +kernel) ⟨Nat.le_of_ble_eq_true rfl, Nat.le_of_ble_eq_true rfl⟩) ⟨fun a U g mk q => ⟨q.1, q.2.call⟩, tb_recvK hT (ju_lt z_4) hS, fun U hU hW => ⟨rfl, hT.at hS hU hW (fun _ z => z.elim)⟩⟩ rfl rfl hl.1 rfl (lv_room (Nat.le_of_ble_eq_true rfl)) d_C_fit_62 ⟨Nat.le_of_ble_eq_true rfl, Nat.le_of_ble_eq_true rfl⟩) ?_
      refine lv_aload hx hb d_C_fit_65 (lv_at hl 0 rfl) ?_
      refine lv_iload_n hx hb d_C_fit_67 rfl (lv_at hl 3 rfl) ?_
      refine lv_iconst (v := 4) hx hb d_C_fit_68 (by decide) ?_
      obtain ⟨r_12, g_13, hf⟩ := Option.bind_eq_some_iff.mp hf
      refine ju_calli (W.runV (As := [.int (a0), .int (4)]) (rest := [.int (r_10), .int (r_8), .ref (ad r_1.toNatClampNeg)]) ⟨hx, hb, hml, hown, hts⟩ (c_K_register l (ad := ad) (sk := sk) (sv := sv) (tK := tK)  r_1.toNatClampNeg a0 4 (ju_lt z_4) r_12 g_13) (cwV 2 hts (aw_V aw_147 aw_45 aw_46 aw_12 aw_47) rfl rfl rfl (by decide +kernel) ⟨Nat.le_of_ble_eq_true rfl, Nat.le_of_ble_eq_true rfl⟩) ⟨fun a U g mk q => ⟨q.1, q.2.call⟩, tb_recvK hT (ju_lt z_4) hS, fun U hU hW => ⟨rfl, hT.at hS hU hW (fun _ z => z.elim)⟩⟩ rfl rfl hl.1 rfl (lv_room (Nat.le_of_ble_eq_true rfl)) d_C_fit_69 ⟨Nat.le_of_ble_eq_true rfl, Nat.le_of_ble_eq_true rfl⟩) ?_
      refine lv_lload_n hx hb d_C_fit_72 rfl (lv_at hl 4 rfl) ?_
      refine lv_l2i (v := a1.toInt32) hx hb d_C_fit_73 rfl ?_
      obtain ⟨r_14, g_15, hf⟩ := Option.bind_eq_some_iff.mp hf
      refine ju_calli (W.runV (As := [.int (r_8), .int (r_10), .int (r_12), .int (a1.toInt32)]) (rest := []) ⟨hx, hb, hml, hown, hts⟩ (c_K_compose l (ad := ad) (sk := sk) (sv := sv) (tK := tK)  r_1.toNatClampNeg r_8 r_10 r_12 a1.toInt32 (ju_lt z_4) r_14 g_15) (cwV 4 hts (aw_V aw_155 aw_156 aw_157 aw_12 aw_158) rfl rfl rfl (by decide +kernel) ⟨Nat.le_of_ble_eq_true rfl, Nat.le_of_ble_eq_true rfl⟩) ⟨fun a U g mk q => ⟨q.1, q.2.call⟩, tb_recvK hT (ju_lt z_4) hS, fun U hU hW => ⟨rfl, hT.at hS hU hW (fun _ z => z.elim)⟩⟩ rfl rfl hl.1 rfl (lv_room (Nat.le_of_ble_eq_true rfl)) d_C_fit_74 ⟨Nat.le_of_ble_eq_true rfl, Nat.le_of_ble_eq_true rfl⟩) ?_
      cases hf
    · replace hf := (if_pos c_7).symm.trans hf
      obtain rfl := Sum.inr.inj (Option.some.inj hf)
      refine W.newc (C := "java/lang/IllegalArgumentException") (n := 6) hx hb hown (ht aw_328) (ht aw_329) (ht aw_13) (g := F0 m 39 ls []) rfl d_C_fit_39 (Nat.le_of_ble_eq_true rfl) (Nat.le_of_ble_eq_true rfl) (fun cX kX hfX hkX _ _ => ?_)
      refine W.eq (g2 := F0 m 42 ls [.ref s.heap.size]) rfl ?_
      refine lv_dup hx hb d_C_fit_42 rfl ?_
      refine va_ldcS hx hb hown (tb_r91 hT) d_C_fit_43 ?_
      exact xt_IllegalArgumentException_42 (cc := b_C_fit) hx hb hfl hlocks hown (fun {w} h => ht h) hXb hfX hkX (by rw [Array.getElem?_push_size]) (Nat.le_refl _) (hl.1.trans hml.symm) d_C_fit_45 d_C_fit_48 hne (Nat.le_of_ble_eq_true rfl) (Nat.le_of_ble_eq_true rfl) (Nat.le_refl _) (Nat.le_refl _)
  · replace hf := (if_pos c_3).symm.trans hf
    obtain rfl := Sum.inr.inj (Option.some.inj hf)
    refine W.newc (C := "java/lang/IllegalArgumentException") (n := 6) hx hb hown (ht aw_328) (ht aw_329) (ht aw_13) (g := F0 m 12 ls []) rfl d_C_fit_12 (Nat.le_of_ble_eq_true rfl) (Nat.le_of_ble_eq_true rfl) (fun cX kX hfX hkX _ _ => ?_)
    refine W.eq (g2 := F0 m 15 ls [.ref s.heap.size]) rfl ?_
    refine lv_dup hx hb d_C_fit_15 rfl ?_
    refine va_ldcS hx hb hown (tb_r56 hT) d_C_fit_16 ?_
    exact xt_IllegalArgumentException_42 (cc := b_C_fit) hx hb hfl hlocks hown (fun {w} h => ht h) hXb hfX hkX (by rw [Array.getElem?_push_size]) (Nat.le_refl _) (hl.1.trans hml.symm) d_C_fit_18 d_C_fit_21 hne (Nat.le_of_ble_eq_true rfl) (Nat.le_of_ble_eq_true rfl) (Nat.le_refl _) (Nat.le_refl _)
