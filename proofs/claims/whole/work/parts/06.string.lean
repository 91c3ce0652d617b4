theorem ju_zq {C n d : String} {A : Nat → Prop} {U : State} {H : Heap} (h : va_Zq C n d A U H) : ∃ o : Value, va_Z C n d o A U H ∧ o.category = 1 := h.elim (fun z => ⟨_, z, rfl⟩) (fun ⟨_, z⟩ => ⟨_, z, rfl⟩)
theorem ju_callv0 {p : Program} {l : Launch} {e : Env} {R : Room} {s : State} {m : MethodId} {args : Array Value} {below : List Frame} {meth : Method} {c : Code} {H : Heap} {locs : List Loc} {cells slots : Nat} {Q : State → Prop} {pc : Nat} {ls : Array Slot} {rest st0 : List Value} {a : Array Value} {post : Unit → Prop} (hr : CallRun p l e R s m args below meth c H locs cells slots 0 0 (F0 m pc ls st0) rest (va_Sv post a) (fun _ => False))
    (kk : W p l e R s m args below meth c H locs cells slots Q (F0 m (pc + 3) ls rest)) : W p l e R s m args below meth c H locs cells slots Q (F0 m pc ls st0) := va_csv hr (fun _ => kk)
theorem ju_nc (x : Int32) : narrow .char (.int (ju_i2c x)) = .int (ju_i2c x) := pk_nc x
def f_S_coder (i : Nat) : Option Int32 :=
  some (0)
set_option maxHeartbeats 4000000 in
set_option maxRecDepth 100000 in
theorem c_S_coder (l : Launch) {ad sk sv : Nat → Nat} {tK : Nat} (i : Nat) (hi : i < 180) (r : Int32) (hf : f_S_coder i = some r) : Met l y_S_coder (Cond.code y_S_coder b_S_coder 1 (Option.some FieldType.byte) :: aw) ({ frames := 0, cells := 0, slots := 0, locals := 0 } : Room) (va_Pc [.ref (sk i)] (fun U => tb ad sk sv tK (fun _ => False) U U.heap)) (QcRead r) 0 0 (fun _ => False) := by
  refine Met.ofW (cc := b_S_coder) (maxL := 1) (ret := (Option.some FieldType.byte)) (by decide) rfl ?_
  intro p e s m args below meth c s₁ B hml hv
  obtain ⟨rfl, hT⟩ := hv
  have hx := B.exec
  have hb := B.bytes
  have hr := B.returns
  have hts := atoms_spec (ws := (Cond.code y_S_coder b_S_coder 1 (Option.some FieldType.byte) :: aw)) B.pre
  have ht : ∀ {w : Cond}, w ∈ aw → w.before ([.ref (sk i)] : List Value).toArray s = true := fun h => hts _ (List.mem_cons_of_mem _ h)
  have hown : s.vm.findClass "java/lang/String" = some m.cls := findClass_of_methodNamed B.named
  have hlocks := B.notSynchronized
  have hS : va_S (fun _ => False) s.heap s.heap [] := va_S.rf
  have hl := lv_entry ([.ref (sk i)]) (n := 1) (Nat.le_of_ble_eq_true rfl)
  rw [lg_entry_eq]
  generalize (lg_sl ([.ref (sk i)]) ++ List.replicate (1 - (lg_sl ([.ref (sk i)])).length) Slot.unset).toArray = ls at hl ⊢
  have hl : lv_has ls 1 [(0, .ref (sk i))] := hl
  rw [f_S_coder] at hf
  refine va_gets (v := .int (1)) hx hb (tb_cs hT) hS hown (ht aw_69) (fun _ h9 => h9) d_S_coder_0 ?_
  refine lv_if_eq (tgt := 13) hx hb d_S_coder_3 (by decide) (fun c_1 => absurd c_1 (by decide)) (fun c_1 => ?_)
  refine lv_aload_n hx hb d_S_coder_6 rfl (lv_at hl 0 rfl) ?_
  refine vk_getf (v := .int (0)) hx hb (tb_coder hT hi) hS hown (ht aw_765) (fun _ h9 => h9) d_S_coder_7 ?_
  refine lv_goto (tgt := 14) hx hb d_S_coder_10 (by decide) ?_
  exact W.zret (v := 0) hx hb hr rfl (fun t ht hW => ⟨congrArg (fun z => Outcome.returned (some (Value.int z))) (Option.some.inj hf), ht⟩) (fun q h => nomatch h) d_S_coder_14

def f_S_length (i : Nat) : Option Int32 :=
  (f_S_coder i).bind fun r_1 => some ((nI (sL i)) >>> (r_1 &&& 31))
set_option maxHeartbeats 4000000 in
set_option maxRecDepth 100000 in
theorem c_S_length (l : Launch) {ad sk sv : Nat → Nat} {tK : Nat} (i : Nat) (hi : i < 180) (r : Int32) (hf : f_S_length i = some r) : Met l y_S_length (Cond.code y_S_length b_S_length 1 (Option.some FieldType.int) :: aw) ({ frames := 1, cells := 0, slots := 0, locals := 20 } : Room) (va_Pc [.ref (sk i)] (fun U => tb ad sk sv tK (fun _ => False) U U.heap)) (QcRead r) 0 0 (fun _ => False) := by
  refine Met.ofW (cc := b_S_length) (maxL := 1) (ret := (Option.some FieldType.int)) (by decide) rfl ?_
  intro p e s m args below meth c s₁ B hml hv
  obtain ⟨rfl, hT⟩ := hv
  have hx := B.exec
  have hb := B.bytes
  have hr := B.returns
  have hts := atoms_spec (ws := (Cond.code y_S_length b_S_length 1 (Option.some FieldType.int) :: aw)) B.pre
  have ht : ∀ {w : Cond}, w ∈ aw → w.before ([.ref (sk i)] : List Value).toArray s = true := fun h => hts _ (List.mem_cons_of_mem _ h)
  have hown : s.vm.findClass "java/lang/String" = some m.cls := findClass_of_methodNamed B.named
  have hlocks := B.notSynchronized
  have hS : va_S (fun _ => False) s.heap s.heap [] := va_S.rf
  have hl := lv_entry ([.ref (sk i)]) (n := 1) (Nat.le_of_ble_eq_true rfl)
  rw [lg_entry_eq]
  generalize (lg_sl ([.ref (sk i)]) ++ List.replicate (1 - (lg_sl ([.ref (sk i)])).length) Slot.unset).toArray = ls at hl ⊢
  have hl : lv_has ls 1 [(0, .ref (sk i))] := hl
  rw [f_S_length] at hf
  refine lv_aload_n hx hb d_S_length_0 rfl (lv_at hl 0 rfl) ?_
  refine vk_getf (v := .ref (sv i)) hx hb (tb_value hT hi) hS hown (ht aw_764) (fun _ h9 => h9) d_S_length_1 ?_
  refine va_tlen (v := nI (sL i)) hx hb (tb_bytes hT hi) hS rfl d_S_length_4 ?_
  refine lv_aload_n hx hb d_S_length_5 rfl (lv_at hl 0 rfl) ?_
  obtain ⟨r_1, g_2, hf⟩ := Option.bind_eq_some_iff.mp hf
  refine ju_calli (W.runV (As := []) (rest := [.int (nI (sL i))]) ⟨hx, hb, hml, hown, hts⟩ (c_S_coder l (ad := ad) (sk := sk) (sv := sv) (tK := tK)  i hi r_1 g_2) (cwV 0 hts (aw_V aw_65 aw_66 aw_67 aw_7 aw_68) rfl rfl rfl (by decide +kernel) ⟨Nat.le_of_ble_eq_true rfl, Nat.le_of_ble_eq_true rfl⟩) ⟨fun a U g mk q => ⟨q.1, q.2.call⟩, tb_recvS hT hi hS, fun U hU hW => ⟨rfl, hT.at hS hU hW (fun _ z => z.elim)⟩⟩ rfl rfl hl.1 rfl (lv_room (Nat.le_of_ble_eq_true rfl)) d_S_length_6 ⟨Nat.le_refl _, Nat.le_refl _⟩) ?_
  refine lv_ishr hx hb d_S_length_9 ?_
  exact W.iret (v := (nI (sL i)) >>> (r_1 &&& 31)) hx hb hr (fun t ht hW => ⟨congrArg (fun z => Outcome.returned (some (Value.int z))) (Option.some.inj hf), ht⟩) (fun q h => nomatch h) d_S_length_10

def f_S_isLatin1 (i : Nat) : Option Bool :=
  some true
set_option maxHeartbeats 4000000 in
set_option maxRecDepth 100000 in
theorem c_S_isLatin1 (l : Launch) {ad sk sv : Nat → Nat} {tK : Nat} (i : Nat) (hi : i < 180) (r : Bool) (hf : f_S_isLatin1 i = some r) : Met l y_S_isLatin1 (Cond.code y_S_isLatin1 b_S_isLatin1 1 (Option.some FieldType.boolean) :: aw) ({ frames := 0, cells := 0, slots := 0, locals := 0 } : Room) (va_Pc [.ref (sk i)] (fun U => tb ad sk sv tK (fun _ => False) U U.heap)) (QcRead (bI r)) 0 0 (fun _ => False) := by
  refine Met.ofW (cc := b_S_isLatin1) (maxL := 1) (ret := (Option.some FieldType.boolean)) (by decide) rfl ?_
  intro p e s m args below meth c s₁ B hml hv
  obtain ⟨rfl, hT⟩ := hv
  have hx := B.exec
  have hb := B.bytes
  have hr := B.returns
  have hts := atoms_spec (ws := (Cond.code y_S_isLatin1 b_S_isLatin1 1 (Option.some FieldType.boolean) :: aw)) B.pre
  have ht : ∀ {w : Cond}, w ∈ aw → w.before ([.ref (sk i)] : List Value).toArray s = true := fun h => hts _ (List.mem_cons_of_mem _ h)
  have hown : s.vm.findClass "java/lang/String" = some m.cls := findClass_of_methodNamed B.named
  have hlocks := B.notSynchronized
  have hS : va_S (fun _ => False) s.heap s.heap [] := va_S.rf
  have hl := lv_entry ([.ref (sk i)]) (n := 1) (Nat.le_of_ble_eq_true rfl)
  rw [lg_entry_eq]
  generalize (lg_sl ([.ref (sk i)]) ++ List.replicate (1 - (lg_sl ([.ref (sk i)])).length) Slot.unset).toArray = ls at hl ⊢
  have hl : lv_has ls 1 [(0, .ref (sk i))] := hl
  rw [f_S_isLatin1] at hf
  refine va_gets (v := .int (1)) hx hb (tb_cs hT) hS hown (ht aw_69) (fun _ h9 => h9) d_S_isLatin1_0 ?_
  refine lv_if_eq (tgt := 17) hx hb d_S_isLatin1_3 (by decide) (fun c_1 => absurd c_1 (by decide)) (fun c_1 => ?_)
  refine lv_aload_n hx hb d_S_isLatin1_6 rfl (lv_at hl 0 rfl) ?_
  refine vk_getf (v := .int (0)) hx hb (tb_coder hT hi) hS hown (ht aw_765) (fun _ h9 => h9) d_S_isLatin1_7 ?_
  refine lv_if_ne (tgt := 17) hx hb d_S_isLatin1_10 (by decide) (fun c_2 => absurd c_2 (by decide)) (fun c_2 => ?_)
  refine lv_iconst (v := 1) hx hb d_S_isLatin1_13 (by decide) ?_
  refine lv_goto (tgt := 18) hx hb d_S_isLatin1_14 (by decide) ?_
  exact W.zret (v := 1) hx hb hr (ju_nz true) (fun t ht hW => ⟨congrArg (fun z => Outcome.returned (some (Value.int (bI z)))) (Option.some.inj hf), ht⟩) (fun q h => nomatch h) d_S_isLatin1_18

def f_Pq_checkIndex (a0 : Int32) (a1 : Int32) : Option Int32 :=
  if a0 < 0 then (none) else (if a0 < a1 then (some (a0)) else (none))
set_option maxHeartbeats 4000000 in
set_option maxRecDepth 100000 in
theorem c_Pq_checkIndex (l : Launch) {ad sk sv : Nat → Nat} {tK : Nat} (a2 : Value) (a0 : Int32) (a1 : Int32) (ha2 : a2.category = 1) (r : Int32) (hf : f_Pq_checkIndex a0 a1 = some r) : Met l y_Pq_checkIndex (Cond.code y_Pq_checkIndex b_Pq_checkIndex 3 (Option.some FieldType.int) :: aw) ({ frames := 0, cells := 0, slots := 0, locals := 0 } : Room) (va_Pc [.int (a0), .int (a1), a2] (fun U => tb ad sk sv tK (fun _ => False) U U.heap)) (QcRead r) 0 0 (fun _ => False) := by
  refine Met.ofW (cc := b_Pq_checkIndex) (maxL := 3) (ret := (Option.some FieldType.int)) (by decide) rfl ?_
  intro p e s m args below meth c s₁ B hml hv
  obtain ⟨rfl, hT⟩ := hv
  have hx := B.exec
  have hb := B.bytes
  have hr := B.returns
  have hts := atoms_spec (ws := (Cond.code y_Pq_checkIndex b_Pq_checkIndex 3 (Option.some FieldType.int) :: aw)) B.pre
  have ht : ∀ {w : Cond}, w ∈ aw → w.before ([.int (a0), .int (a1), a2] : List Value).toArray s = true := fun h => hts _ (List.mem_cons_of_mem _ h)
  have hown : s.vm.findClass "jdk/internal/util/Preconditions" = some m.cls := findClass_of_methodNamed B.named
  have hlocks := B.notSynchronized
  have hS : va_S (fun _ => False) s.heap s.heap [] := va_S.rf
  have hl := lv_entry ([.int (a0), .int (a1), a2]) (n := 3) (by have h9 : ∀ x : Int32, (Value.int x).category = 1 := fun _ => rfl; simp [lg_sl, h9, show a2.category = 1 from ha2])
  rw [lg_entry_eq]
  generalize (lg_sl ([.int (a0), .int (a1), a2]) ++ List.replicate (3 - (lg_sl ([.int (a0), .int (a1), a2])).length) Slot.unset).toArray = ls at hl ⊢
  have hl : lv_has ls 3 [(0, .int (a0)), (1, .int (a1)), (2, a2)] := hl
  rw [f_Pq_checkIndex] at hf
  refine lv_iload_n hx hb d_Pq_checkIndex_0 rfl (lv_at hl 0 rfl) ?_
  refine lv_if_lt (tgt := 9) hx hb d_Pq_checkIndex_1 (by decide) (fun c_1 => ?_) (fun c_1 => ?_)
  · replace hf := (if_pos c_1).symm.trans hf
    cases hf
  · replace hf := (if_neg c_1).symm.trans hf
    refine lv_iload_n hx hb d_Pq_checkIndex_4 rfl (lv_at hl 0 rfl) ?_
    refine lv_iload_n hx hb d_Pq_checkIndex_5 rfl (lv_at hl 1 rfl) ?_
    refine lv_icmp_lt (tgt := 16) hx hb d_Pq_checkIndex_6 (by decide) (fun c_2 => ?_) (fun c_2 => ?_)
    · replace hf := (if_pos c_2).symm.trans hf
      refine lv_iload_n hx hb d_Pq_checkIndex_16 rfl (lv_at hl 0 rfl) ?_
      exact W.iret (v := a0) hx hb hr (fun t ht hW => ⟨congrArg (fun z => Outcome.returned (some (Value.int z))) (Option.some.inj hf), ht⟩) (fun q h => nomatch h) d_Pq_checkIndex_17
    · replace hf := (if_neg c_2).symm.trans hf
      cases hf

def f_S_checkIndex (a0 : Int32) (a1 : Int32) : Option Unit :=
  (f_Pq_checkIndex a0 a1).bind fun r_2 => some ()
set_option maxHeartbeats 4000000 in
set_option maxRecDepth 100000 in
theorem c_S_checkIndex (l : Launch) {ad sk sv : Nat → Nat} {tK : Nat} (a0 : Int32) (a1 : Int32)  (r : Unit) (hf : f_S_checkIndex a0 a1 = some r) : Met l y_S_checkIndex (Cond.code y_S_checkIndex b_S_checkIndex 2 (Option.none : Option FieldType) :: aw) ({ frames := 1, cells := 0, slots := 0, locals := 22 } : Room) (va_Pc [.int (a0), .int (a1)] (fun U => tb ad sk sv tK (fun _ => False) U U.heap)) (va_Sv (fun _ => True)) 0 0 (fun _ => False) := by
  refine Met.ofW (cc := b_S_checkIndex) (maxL := 2) (ret := (Option.none : Option FieldType)) (by decide) rfl ?_
  intro p e s m args below meth c s₁ B hml hv
  obtain ⟨rfl, hT⟩ := hv
  have hx := B.exec
  have hb := B.bytes
  have hr := B.returns
  have hts := atoms_spec (ws := (Cond.code y_S_checkIndex b_S_checkIndex 2 (Option.none : Option FieldType) :: aw)) B.pre
  have ht : ∀ {w : Cond}, w ∈ aw → w.before ([.int (a0), .int (a1)] : List Value).toArray s = true := fun h => hts _ (List.mem_cons_of_mem _ h)
  have hown : s.vm.findClass "java/lang/String" = some m.cls := findClass_of_methodNamed B.named
  have hlocks := B.notSynchronized
  have hS : va_S (fun _ => False) s.heap s.heap [] := va_S.rf
  have hl := lv_entry ([.int (a0), .int (a1)]) (n := 2) (Nat.le_of_ble_eq_true rfl)
  rw [lg_entry_eq]
  generalize (lg_sl ([.int (a0), .int (a1)]) ++ List.replicate (2 - (lg_sl ([.int (a0), .int (a1)])).length) Slot.unset).toArray = ls at hl ⊢
  have hl : lv_has ls 2 [(0, .int (a0)), (1, .int (a1))] := hl
  rw [f_S_checkIndex] at hf
  refine lv_iload_n hx hb d_S_checkIndex_0 rfl (lv_at hl 0 rfl) ?_
  refine lv_iload_n hx hb d_S_checkIndex_1 rfl (lv_at hl 1 rfl) ?_
  obtain ⟨o_1, o_1z, o_1c⟩ := ju_zq (tb_fm hT)
  refine va_gets hx hb o_1z hS hown (ht aw_85) (fun _ h9 => h9) d_S_checkIndex_2 ?_
  obtain ⟨r_2, g_3, hf⟩ := Option.bind_eq_some_iff.mp hf
  refine ju_calli (W.runS (As := [.int (a0), .int (a1), o_1]) (rest := []) ⟨hx, hb, hml, hown, hts⟩ (c_Pq_checkIndex l (ad := ad) (sk := sk) (sv := sv) (tK := tK) o_1 a0 a1 o_1c r_2 g_3) (va_cwS 3 hts (aw_S aw_87 aw_88 aw_9 aw_89) rfl rfl rfl (by decide +kernel) ⟨Nat.le_of_ble_eq_true rfl, Nat.le_of_ble_eq_true rfl⟩) ⟨fun a U g mk q => ⟨q.1, q.2.call⟩, fun U hU hW => ⟨rfl, hT.at hS hU hW (fun _ z => z.elim)⟩⟩ rfl rfl hl.1 rfl (lv_room (Nat.le_of_ble_eq_true rfl)) d_S_checkIndex_5 ⟨Nat.le_refl _, Nat.le_refl _⟩) ?_
  refine lv_pop hx hb d_S_checkIndex_8 rfl ?_
  exact W.vret hx hb hr (fun t ht hW => ⟨rfl, trivial, ht⟩) (fun q h => nomatch h) d_S_checkIndex_9

def f_S1_charAt (a0 : Nat) (a1 : Int32) : Option Int32 :=
  (f_S_checkIndex a1 (nI (sL a0))).bind fun r_1 => if a1 < 0 ∨ sL a0 ≤ a1.toNatClampNeg then none else some (ju_i2c ((sC a0 a1.toNatClampNeg) &&& 255))
set_option maxHeartbeats 4000000 in
set_option maxRecDepth 100000 in
theorem c_S1_charAt (l : Launch) {ad sk sv : Nat → Nat} {tK : Nat} (a0 : Nat) (a1 : Int32) (ha0 : a0 < 180) (r : Int32) (hf : f_S1_charAt a0 a1 = some r) : Met l y_S1_charAt (Cond.code y_S1_charAt b_S1_charAt 2 (Option.some FieldType.char) :: aw) ({ frames := 2, cells := 0, slots := 0, locals := 43 } : Room) (va_Pc [.ref (sv a0), .int (a1)] (fun U => tb ad sk sv tK (fun _ => False) U U.heap)) (QcRead r) 0 0 (fun _ => False) := by
  refine Met.ofW (cc := b_S1_charAt) (maxL := 2) (ret := (Option.some FieldType.char)) (by decide) rfl ?_
  intro p e s m args below meth c s₁ B hml hv
  obtain ⟨rfl, hT⟩ := hv
  have hx := B.exec
  have hb := B.bytes
  have hr := B.returns
  have hts := atoms_spec (ws := (Cond.code y_S1_charAt b_S1_charAt 2 (Option.some FieldType.char) :: aw)) B.pre
  have ht : ∀ {w : Cond}, w ∈ aw → w.before ([.ref (sv a0), .int (a1)] : List Value).toArray s = true := fun h => hts _ (List.mem_cons_of_mem _ h)
  have hown : s.vm.findClass "java/lang/StringLatin1" = some m.cls := findClass_of_methodNamed B.named
  have hlocks := B.notSynchronized
  have hS : va_S (fun _ => False) s.heap s.heap [] := va_S.rf
  have hl := lv_entry ([.ref (sv a0), .int (a1)]) (n := 2) (Nat.le_of_ble_eq_true rfl)
  rw [lg_entry_eq]
  generalize (lg_sl ([.ref (sv a0), .int (a1)]) ++ List.replicate (2 - (lg_sl ([.ref (sv a0), .int (a1)])).length) Slot.unset).toArray = ls at hl ⊢
  have hl : lv_has ls 2 [(0, .ref (sv a0)), (1, .int (a1))] := hl
  rw [f_S1_charAt] at hf
  refine lv_iload_n hx hb d_S1_charAt_0 rfl (lv_at hl 1 rfl) ?_
  refine lv_aload_n hx hb d_S1_charAt_1 rfl (lv_at hl 0 rfl) ?_
  refine va_tlen (v := nI (sL a0)) hx hb (tb_bytes hT ha0) hS rfl d_S1_charAt_2 ?_
  obtain ⟨r_1, g_2, hf⟩ := Option.bind_eq_some_iff.mp hf
  refine ju_callv0 (W.runS (As := [.int (a1), .int (nI (sL a0))]) (rest := []) ⟨hx, hb, hml, hown, hts⟩ (c_S_checkIndex l (ad := ad) (sk := sk) (sv := sv) (tK := tK)  a1 (nI (sL a0))  r_1 g_2) (va_cwS 2 hts (aw_S aw_82 aw_83 aw_7 aw_84) rfl rfl rfl (by decide +kernel) ⟨Nat.le_of_ble_eq_true rfl, Nat.le_of_ble_eq_true rfl⟩) ⟨fun a U g mk q => ⟨q.1, q.2.call⟩, fun U hU hW => ⟨rfl, hT.at hS hU hW (fun _ z => z.elim)⟩⟩ rfl rfl hl.1 rfl (lv_room (Nat.le_of_ble_eq_true rfl)) d_S1_charAt_3 ⟨Nat.le_refl _, Nat.le_refl _⟩) ?_
  refine lv_aload_n hx hb d_S1_charAt_6 rfl (lv_at hl 0 rfl) ?_
  refine lv_iload_n hx hb d_S1_charAt_7 rfl (lv_at hl 1 rfl) ?_
  obtain ⟨z_3, hf⟩ := ju_gd hf
  refine va_tb (v := .int (sC a0 a1.toNatClampNeg)) hx hb (tb_bytes hT ha0) hS z_3 rfl d_S1_charAt_8 ?_
  refine lv_sipush (v := 255) hx hb d_S1_charAt_9 (by decide) ?_
  refine lv_iand hx hb d_S1_charAt_12 ?_
  refine lv_i2c (v := ju_i2c ((sC a0 a1.toNatClampNeg) &&& 255)) hx hb d_S1_charAt_13 rfl ?_
  exact W.zret (v := ju_i2c ((sC a0 a1.toNatClampNeg) &&& 255)) hx hb hr (by first | rfl | exact ju_nc _) (fun t ht hW => ⟨congrArg (fun z => Outcome.returned (some (Value.int z))) (Option.some.inj hf), ht⟩) (fun q h => nomatch h) d_S1_charAt_14

theorem s1_nar {a : Nat} {b r : Int32} (h : f_S1_charAt a b = some r) : narrow .char (.int r) = .int r := by
  rw [f_S1_charAt] at h
  obtain ⟨u, -, h⟩ := Option.bind_eq_some_iff.mp h
  obtain ⟨-, h⟩ := ju_gd h
  rw [← Option.some.inj h]
  exact ju_nc _
def f_S_charAt (i : Nat) (a0 : Int32) : Option Int32 :=
  (f_S_isLatin1 i).bind fun r_1 => if (bI r_1) = 0 then (none) else ((f_S1_charAt i a0).bind fun r_4 => some (r_4))
set_option maxHeartbeats 4000000 in
set_option maxRecDepth 100000 in
theorem c_S_charAt (l : Launch) {ad sk sv : Nat → Nat} {tK : Nat} (i : Nat) (a0 : Int32) (hi : i < 180) (r : Int32) (hf : f_S_charAt i a0 = some r) : Met l y_S_charAt (Cond.code y_S_charAt b_S_charAt 2 (Option.some FieldType.char) :: aw) ({ frames := 3, cells := 0, slots := 0, locals := 64 } : Room) (va_Pc [.ref (sk i), .int (a0)] (fun U => tb ad sk sv tK (fun _ => False) U U.heap)) (QcRead r) 0 0 (fun _ => False) := by
  refine Met.ofW (cc := b_S_charAt) (maxL := 2) (ret := (Option.some FieldType.char)) (by decide) rfl ?_
  intro p e s m args below meth c s₁ B hml hv
  obtain ⟨rfl, hT⟩ := hv
  have hx := B.exec
  have hb := B.bytes
  have hr := B.returns
  have hts := atoms_spec (ws := (Cond.code y_S_charAt b_S_charAt 2 (Option.some FieldType.char) :: aw)) B.pre
  have ht : ∀ {w : Cond}, w ∈ aw → w.before ([.ref (sk i), .int (a0)] : List Value).toArray s = true := fun h => hts _ (List.mem_cons_of_mem _ h)
  have hown : s.vm.findClass "java/lang/String" = some m.cls := findClass_of_methodNamed B.named
  have hlocks := B.notSynchronized
  have hS : va_S (fun _ => False) s.heap s.heap [] := va_S.rf
  have hl := lv_entry ([.ref (sk i), .int (a0)]) (n := 2) (Nat.le_of_ble_eq_true rfl)
  rw [lg_entry_eq]
  generalize (lg_sl ([.ref (sk i), .int (a0)]) ++ List.replicate (2 - (lg_sl ([.ref (sk i), .int (a0)])).length) Slot.unset).toArray = ls at hl ⊢
  have hl : lv_has ls 2 [(0, .ref (sk i)), (1, .int (a0))] := hl
  rw [f_S_charAt] at hf
  refine lv_aload_n hx hb d_S_charAt_0 rfl (lv_at hl 0 rfl) ?_
  obtain ⟨r_1, g_2, hf⟩ := Option.bind_eq_some_iff.mp hf
  refine ju_calli (W.runV (As := []) (rest := []) ⟨hx, hb, hml, hown, hts⟩ (c_S_isLatin1 l (ad := ad) (sk := sk) (sv := sv) (tK := tK)  i hi r_1 g_2) (cwV 0 hts (aw_V aw_75 aw_76 aw_77 aw_7 aw_78) rfl rfl rfl (by decide +kernel) ⟨Nat.le_of_ble_eq_true rfl, Nat.le_of_ble_eq_true rfl⟩) ⟨fun a U g mk q => ⟨q.1, q.2.call⟩, tb_recvS hT hi hS, fun U hU hW => ⟨rfl, hT.at hS hU hW (fun _ z => z.elim)⟩⟩ rfl rfl hl.1 rfl (lv_room (Nat.le_of_ble_eq_true rfl)) d_S_charAt_1 ⟨Nat.le_refl _, Nat.le_refl _⟩) ?_
  refine lv_if_eq (tgt := 16) hx hb d_S_charAt_4 (by decide) (fun c_3 => ?_) (fun c_3 => ?_)
  · replace hf := (if_pos c_3).symm.trans hf
    cases hf
  · replace hf := (if_neg c_3).symm.trans hf
    refine lv_aload_n hx hb d_S_charAt_7 rfl (lv_at hl 0 rfl) ?_
    refine vk_getf (v := .ref (sv i)) hx hb (tb_value hT hi) hS hown (ht aw_764) (fun _ h9 => h9) d_S_charAt_8 ?_
    refine lv_iload_n hx hb d_S_charAt_11 rfl (lv_at hl 1 rfl) ?_
    obtain ⟨r_4, g_5, hf⟩ := Option.bind_eq_some_iff.mp hf
    refine ju_calli (W.runS (As := [.ref (sv i), .int (a0)]) (rest := []) ⟨hx, hb, hml, hown, hts⟩ (c_S1_charAt l (ad := ad) (sk := sk) (sv := sv) (tK := tK)  i a0 hi r_4 g_5) (va_cwS 2 hts (aw_S aw_79 aw_80 aw_8 aw_81) rfl rfl rfl (by decide +kernel) ⟨Nat.le_of_ble_eq_true rfl, Nat.le_of_ble_eq_true rfl⟩) ⟨fun a U g mk q => ⟨q.1, q.2.call⟩, fun U hU hW => ⟨rfl, hT.at hS hU hW (fun _ z => z.elim)⟩⟩ rfl rfl hl.1 rfl (lv_room (Nat.le_of_ble_eq_true rfl)) d_S_charAt_12 ⟨Nat.le_refl _, Nat.le_refl _⟩) ?_
    exact W.zret (v := r_4) hx hb hr (by first | rfl | exact s1_nar ‹_›) (fun t ht hW => ⟨congrArg (fun z => Outcome.returned (some (Value.int z))) (Option.some.inj hf), ht⟩) (fun q h => nomatch h) d_S_charAt_15

