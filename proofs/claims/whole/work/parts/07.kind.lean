def f_K_partOf_L15 (a0 : Int32)   : Option (Int32) :=
  if a0 = 100 then (some (1)) else (if a0 = 97 then (some (2)) else (if a0 = 98 then (some (4)) else (some (0))))
def f_K_partOf (a0 : Int32) : Option Int32 :=
  if a0 < 65 then (f_K_partOf_L15 a0  ) else (if 85 < a0 then (f_K_partOf_L15 a0  ) else (some (8)))
set_option maxHeartbeats 4000000 in
set_option maxRecDepth 100000 in
theorem c_K_partOf (l : Launch) {ad sk sv : Nat → Nat} {tK : Nat} (a0 : Int32)  (r : Int32) (hf : f_K_partOf a0 = some r) : Met l y_K_partOf (Cond.code y_K_partOf b_K_partOf 1 (Option.some FieldType.int) :: aw) ({ frames := 0, cells := 0, slots := 0, locals := 0 } : Room) (va_Pc [.int (a0)] (fun U => tb ad sk sv tK (fun _ => False) U U.heap)) (QcRead r) 0 0 (fun _ => False) := by
  refine Met.ofW (cc := b_K_partOf) (maxL := 1) (ret := (Option.some FieldType.int)) (by decide) rfl ?_
  intro p e s m args below meth c s₁ B hml hv
  obtain ⟨rfl, hT⟩ := hv
  have hx := B.exec
  have hb := B.bytes
  have hr := B.returns
  have hts := atoms_spec (ws := (Cond.code y_K_partOf b_K_partOf 1 (Option.some FieldType.int) :: aw)) B.pre
  have ht : ∀ {w : Cond}, w ∈ aw → w.before ([.int (a0)] : List Value).toArray s = true := fun h => hts _ (List.mem_cons_of_mem _ h)
  have hown : s.vm.findClass "CodeWords$Kind" = some m.cls := findClass_of_methodNamed B.named
  have hlocks := B.notSynchronized
  have hS : va_S (fun _ => False) s.heap s.heap [] := va_S.rf
  have hl := lv_entry ([.int (a0)]) (n := 1) (Nat.le_of_ble_eq_true rfl)
  rw [lg_entry_eq]
  generalize (lg_sl ([.int (a0)]) ++ List.replicate (1 - (lg_sl ([.int (a0)])).length) Slot.unset).toArray = ls at hl ⊢
  have hl : lv_has ls 1 [(0, .int (a0))] := hl
  have J15 : ∀  (ls : Array Slot), lv_has ls 1 [(0, .int (a0))] → f_K_partOf_L15 a0   = some r → pW p l e (headSpec (Cond.code y_K_partOf b_K_partOf 1 (Option.some FieldType.int) :: aw) ({ frames := 0, cells := 0, slots := 0, locals := 0 } : Room)).room s m ([.int (a0)] : List Value).toArray below meth c r (F0 m 15 ls []) := by
    intro   ls  hl hf
    rw [f_K_partOf_L15] at hf
    refine lv_iload_n hx hb d_K_partOf_15 rfl (lv_at hl 0 rfl) ?_
    refine lv_bipush (v := 100) hx hb d_K_partOf_16 (by decide) ?_
    refine lv_icmp_ne (tgt := 23) hx hb d_K_partOf_18 (by decide) (fun c_2 => ?_) (fun c_2 => ?_)
    · replace hf := (if_neg c_2).symm.trans hf
      refine lv_iload_n hx hb d_K_partOf_23 rfl (lv_at hl 0 rfl) ?_
      refine lv_bipush (v := 97) hx hb d_K_partOf_24 (by decide) ?_
      refine lv_icmp_ne (tgt := 31) hx hb d_K_partOf_26 (by decide) (fun c_3 => ?_) (fun c_3 => ?_)
      · replace hf := (if_neg c_3).symm.trans hf
        refine lv_iload_n hx hb d_K_partOf_31 rfl (lv_at hl 0 rfl) ?_
        refine lv_bipush (v := 98) hx hb d_K_partOf_32 (by decide) ?_
        refine lv_icmp_ne (tgt := 41) hx hb d_K_partOf_34 (by decide) (fun c_4 => ?_) (fun c_4 => ?_)
        · replace hf := (if_neg c_4).symm.trans hf
          refine lv_iconst (v := 0) hx hb d_K_partOf_41 (by decide) ?_
          exact W.iret (v := 0) hx hb hr (fun t ht hW => ⟨congrArg (fun z => Outcome.returned (some (Value.int z))) (Option.some.inj hf), ht⟩) (fun q h => nomatch h) d_K_partOf_42
        · replace hf := (if_pos c_4).symm.trans hf
          refine lv_iconst (v := 4) hx hb d_K_partOf_37 (by decide) ?_
          refine lv_goto (tgt := 42) hx hb d_K_partOf_38 (by decide) ?_
          exact W.iret (v := 4) hx hb hr (fun t ht hW => ⟨congrArg (fun z => Outcome.returned (some (Value.int z))) (Option.some.inj hf), ht⟩) (fun q h => nomatch h) d_K_partOf_42
      · replace hf := (if_pos c_3).symm.trans hf
        refine lv_iconst (v := 2) hx hb d_K_partOf_29 (by decide) ?_
        exact W.iret (v := 2) hx hb hr (fun t ht hW => ⟨congrArg (fun z => Outcome.returned (some (Value.int z))) (Option.some.inj hf), ht⟩) (fun q h => nomatch h) d_K_partOf_30
    · replace hf := (if_pos c_2).symm.trans hf
      refine lv_iconst (v := 1) hx hb d_K_partOf_21 (by decide) ?_
      exact W.iret (v := 1) hx hb hr (fun t ht hW => ⟨congrArg (fun z => Outcome.returned (some (Value.int z))) (Option.some.inj hf), ht⟩) (fun q h => nomatch h) d_K_partOf_22
  rw [f_K_partOf] at hf
  refine lv_iload_n hx hb d_K_partOf_0 rfl (lv_at hl 0 rfl) ?_
  refine lv_bipush (v := 65) hx hb d_K_partOf_1 (by decide) ?_
  refine lv_icmp_lt (tgt := 15) hx hb d_K_partOf_3 (by decide) (fun c_1 => ?_) (fun c_1 => ?_)
  · replace hf := (if_pos c_1).symm.trans hf
    exact J15   _  (lv_sub hl [0] rfl) hf
  · replace hf := (if_neg c_1).symm.trans hf
    refine lv_iload_n hx hb d_K_partOf_6 rfl (lv_at hl 0 rfl) ?_
    refine lv_bipush (v := 85) hx hb d_K_partOf_7 (by decide) ?_
    refine lv_icmp_gt (tgt := 15) hx hb d_K_partOf_9 (by decide) (fun c_5 => ?_) (fun c_5 => ?_)
    · replace hf := (if_pos c_5).symm.trans hf
      exact J15   _  (lv_sub hl [0] rfl) hf
    · replace hf := (if_neg c_5).symm.trans hf
      refine lv_bipush (v := 8) hx hb d_K_partOf_12 (by decide) ?_
      exact W.iret (v := 8) hx hb hr (fun t ht hW => ⟨congrArg (fun z => Outcome.returned (some (Value.int z))) (Option.some.inj hf), ht⟩) (fun q h => nomatch h) d_K_partOf_14

def f_K_has (i : Nat) (a0 : Int32) : Option Bool :=
  if ((k_parts i) &&& a0) = 0 then (some false) else (some true)
set_option maxHeartbeats 4000000 in
set_option maxRecDepth 100000 in
theorem c_K_has (l : Launch) {ad sk sv : Nat → Nat} {tK : Nat} (i : Nat) (a0 : Int32) (hi : i < 75) (r : Bool) (hf : f_K_has i a0 = some r) : Met l y_K_has (Cond.code y_K_has b_K_has 2 (Option.some FieldType.boolean) :: aw) ({ frames := 0, cells := 0, slots := 0, locals := 0 } : Room) (va_Pc [.ref (ad i), .int (a0)] (fun U => tb ad sk sv tK (fun _ => False) U U.heap)) (QcRead (bI r)) 0 0 (fun _ => False) := by
  refine Met.ofW (cc := b_K_has) (maxL := 2) (ret := (Option.some FieldType.boolean)) (by decide) rfl ?_
  intro p e s m args below meth c s₁ B hml hv
  obtain ⟨rfl, hT⟩ := hv
  have hx := B.exec
  have hb := B.bytes
  have hr := B.returns
  have hts := atoms_spec (ws := (Cond.code y_K_has b_K_has 2 (Option.some FieldType.boolean) :: aw)) B.pre
  have ht : ∀ {w : Cond}, w ∈ aw → w.before ([.ref (ad i), .int (a0)] : List Value).toArray s = true := fun h => hts _ (List.mem_cons_of_mem _ h)
  have hown : s.vm.findClass "CodeWords$Kind" = some m.cls := findClass_of_methodNamed B.named
  have hlocks := B.notSynchronized
  have hS : va_S (fun _ => False) s.heap s.heap [] := va_S.rf
  have hl := lv_entry ([.ref (ad i), .int (a0)]) (n := 2) (Nat.le_of_ble_eq_true rfl)
  rw [lg_entry_eq]
  generalize (lg_sl ([.ref (ad i), .int (a0)]) ++ List.replicate (2 - (lg_sl ([.ref (ad i), .int (a0)])).length) Slot.unset).toArray = ls at hl ⊢
  have hl : lv_has ls 2 [(0, .ref (ad i)), (1, .int (a0))] := hl
  rw [f_K_has] at hf
  refine lv_aload_n hx hb d_K_has_0 rfl (lv_at hl 0 rfl) ?_
  refine vk_getf (v := .int (k_parts i)) hx hb (tb_parts hT hi) hS hown (ht aw_762) (fun _ h9 => h9) d_K_has_1 ?_
  refine lv_iload_n hx hb d_K_has_4 rfl (lv_at hl 1 rfl) ?_
  refine lv_iand hx hb d_K_has_5 ?_
  refine lv_if_eq (tgt := 13) hx hb d_K_has_6 (by decide) (fun c_1 => ?_) (fun c_1 => ?_)
  · replace hf := (if_pos c_1).symm.trans hf
    refine lv_iconst (v := 0) hx hb d_K_has_13 (by decide) ?_
    exact W.zret (v := 0) hx hb hr (ju_nz false) (fun t ht hW => ⟨congrArg (fun z => Outcome.returned (some (Value.int (bI z)))) (Option.some.inj hf), ht⟩) (fun q h => nomatch h) d_K_has_14
  · replace hf := (if_neg c_1).symm.trans hf
    refine lv_iconst (v := 1) hx hb d_K_has_9 (by decide) ?_
    refine lv_goto (tgt := 14) hx hb d_K_has_10 (by decide) ?_
    exact W.zret (v := 1) hx hb hr (ju_nz true) (fun t ht hW => ⟨congrArg (fun z => Outcome.returned (some (Value.int (bI z)))) (Option.some.inj hf), ht⟩) (fun q h => nomatch h) d_K_has_14

def f_K_is (i : Nat) (a0 : Int32) : Option Bool :=
  if ((k_traits i) &&& a0) = 0 then (some false) else (some true)
set_option maxHeartbeats 4000000 in
set_option maxRecDepth 100000 in
theorem c_K_is (l : Launch) {ad sk sv : Nat → Nat} {tK : Nat} (i : Nat) (a0 : Int32) (hi : i < 75) (r : Bool) (hf : f_K_is i a0 = some r) : Met l y_K_is (Cond.code y_K_is b_K_is 2 (Option.some FieldType.boolean) :: aw) ({ frames := 0, cells := 0, slots := 0, locals := 0 } : Room) (va_Pc [.ref (ad i), .int (a0)] (fun U => tb ad sk sv tK (fun _ => False) U U.heap)) (QcRead (bI r)) 0 0 (fun _ => False) := by
  refine Met.ofW (cc := b_K_is) (maxL := 2) (ret := (Option.some FieldType.boolean)) (by decide) rfl ?_
  intro p e s m args below meth c s₁ B hml hv
  obtain ⟨rfl, hT⟩ := hv
  have hx := B.exec
  have hb := B.bytes
  have hr := B.returns
  have hts := atoms_spec (ws := (Cond.code y_K_is b_K_is 2 (Option.some FieldType.boolean) :: aw)) B.pre
  have ht : ∀ {w : Cond}, w ∈ aw → w.before ([.ref (ad i), .int (a0)] : List Value).toArray s = true := fun h => hts _ (List.mem_cons_of_mem _ h)
  have hown : s.vm.findClass "CodeWords$Kind" = some m.cls := findClass_of_methodNamed B.named
  have hlocks := B.notSynchronized
  have hS : va_S (fun _ => False) s.heap s.heap [] := va_S.rf
  have hl := lv_entry ([.ref (ad i), .int (a0)]) (n := 2) (Nat.le_of_ble_eq_true rfl)
  rw [lg_entry_eq]
  generalize (lg_sl ([.ref (ad i), .int (a0)]) ++ List.replicate (2 - (lg_sl ([.ref (ad i), .int (a0)])).length) Slot.unset).toArray = ls at hl ⊢
  have hl : lv_has ls 2 [(0, .ref (ad i)), (1, .int (a0))] := hl
  rw [f_K_is] at hf
  refine lv_aload_n hx hb d_K_is_0 rfl (lv_at hl 0 rfl) ?_
  refine vk_getf (v := .int (k_traits i)) hx hb (tb_traits hT hi) hS hown (ht aw_769) (fun _ h9 => h9) d_K_is_1 ?_
  refine lv_iload_n hx hb d_K_is_4 rfl (lv_at hl 1 rfl) ?_
  refine lv_iand hx hb d_K_is_5 ?_
  refine lv_if_eq (tgt := 13) hx hb d_K_is_6 (by decide) (fun c_1 => ?_) (fun c_1 => ?_)
  · replace hf := (if_pos c_1).symm.trans hf
    refine lv_iconst (v := 0) hx hb d_K_is_13 (by decide) ?_
    exact W.zret (v := 0) hx hb hr (ju_nz false) (fun t ht hW => ⟨congrArg (fun z => Outcome.returned (some (Value.int (bI z)))) (Option.some.inj hf), ht⟩) (fun q h => nomatch h) d_K_is_14
  · replace hf := (if_neg c_1).symm.trans hf
    refine lv_iconst (v := 1) hx hb d_K_is_9 (by decide) ?_
    refine lv_goto (tgt := 14) hx hb d_K_is_10 (by decide) ?_
    exact W.zret (v := 1) hx hb hr (ju_nz true) (fun t ht hW => ⟨congrArg (fun z => Outcome.returned (some (Value.int (bI z)))) (Option.some.inj hf), ht⟩) (fun q h => nomatch h) d_K_is_14

def f_K_placeOf (i : Nat) (a0 : Int32) : Option Int32 :=
  if a0 = 1 then (some (k_placeD i)) else (if a0 = 2 then (some (k_placeA i)) else (some (k_placeB i)))
set_option maxHeartbeats 4000000 in
set_option maxRecDepth 100000 in
theorem c_K_placeOf (l : Launch) {ad sk sv : Nat → Nat} {tK : Nat} (i : Nat) (a0 : Int32) (hi : i < 75) (r : Int32) (hf : f_K_placeOf i a0 = some r) : Met l y_K_placeOf (Cond.code y_K_placeOf b_K_placeOf 2 (Option.some FieldType.int) :: aw) ({ frames := 0, cells := 0, slots := 0, locals := 0 } : Room) (va_Pc [.ref (ad i), .int (a0)] (fun U => tb ad sk sv tK (fun _ => False) U U.heap)) (QcRead r) 0 0 (fun _ => False) := by
  refine Met.ofW (cc := b_K_placeOf) (maxL := 2) (ret := (Option.some FieldType.int)) (by decide) rfl ?_
  intro p e s m args below meth c s₁ B hml hv
  obtain ⟨rfl, hT⟩ := hv
  have hx := B.exec
  have hb := B.bytes
  have hr := B.returns
  have hts := atoms_spec (ws := (Cond.code y_K_placeOf b_K_placeOf 2 (Option.some FieldType.int) :: aw)) B.pre
  have ht : ∀ {w : Cond}, w ∈ aw → w.before ([.ref (ad i), .int (a0)] : List Value).toArray s = true := fun h => hts _ (List.mem_cons_of_mem _ h)
  have hown : s.vm.findClass "CodeWords$Kind" = some m.cls := findClass_of_methodNamed B.named
  have hlocks := B.notSynchronized
  have hS : va_S (fun _ => False) s.heap s.heap [] := va_S.rf
  have hl := lv_entry ([.ref (ad i), .int (a0)]) (n := 2) (Nat.le_of_ble_eq_true rfl)
  rw [lg_entry_eq]
  generalize (lg_sl ([.ref (ad i), .int (a0)]) ++ List.replicate (2 - (lg_sl ([.ref (ad i), .int (a0)])).length) Slot.unset).toArray = ls at hl ⊢
  have hl : lv_has ls 2 [(0, .ref (ad i)), (1, .int (a0))] := hl
  rw [f_K_placeOf] at hf
  refine lv_iload_n hx hb d_K_placeOf_0 rfl (lv_at hl 1 rfl) ?_
  refine lv_iconst (v := 1) hx hb d_K_placeOf_1 (by decide) ?_
  refine lv_icmp_ne (tgt := 10) hx hb d_K_placeOf_2 (by decide) (fun c_1 => ?_) (fun c_1 => ?_)
  · replace hf := (if_neg c_1).symm.trans hf
    refine lv_iload_n hx hb d_K_placeOf_10 rfl (lv_at hl 1 rfl) ?_
    refine lv_iconst (v := 2) hx hb d_K_placeOf_11 (by decide) ?_
    refine lv_icmp_ne (tgt := 22) hx hb d_K_placeOf_12 (by decide) (fun c_2 => ?_) (fun c_2 => ?_)
    · replace hf := (if_neg c_2).symm.trans hf
      refine lv_aload_n hx hb d_K_placeOf_22 rfl (lv_at hl 0 rfl) ?_
      refine vk_getf (v := .int (k_placeB i)) hx hb (tb_placeB hT hi) hS hown (ht aw_768) (fun _ h9 => h9) d_K_placeOf_23 ?_
      exact W.iret (v := k_placeB i) hx hb hr (fun t ht hW => ⟨congrArg (fun z => Outcome.returned (some (Value.int z))) (Option.some.inj hf), ht⟩) (fun q h => nomatch h) d_K_placeOf_26
    · replace hf := (if_pos c_2).symm.trans hf
      refine lv_aload_n hx hb d_K_placeOf_15 rfl (lv_at hl 0 rfl) ?_
      refine vk_getf (v := .int (k_placeA i)) hx hb (tb_placeA hT hi) hS hown (ht aw_767) (fun _ h9 => h9) d_K_placeOf_16 ?_
      refine lv_goto (tgt := 26) hx hb d_K_placeOf_19 (by decide) ?_
      exact W.iret (v := k_placeA i) hx hb hr (fun t ht hW => ⟨congrArg (fun z => Outcome.returned (some (Value.int z))) (Option.some.inj hf), ht⟩) (fun q h => nomatch h) d_K_placeOf_26
  · replace hf := (if_pos c_1).symm.trans hf
    refine lv_aload_n hx hb d_K_placeOf_5 rfl (lv_at hl 0 rfl) ?_
    refine vk_getf (v := .int (k_placeD i)) hx hb (tb_placeD hT hi) hS hown (ht aw_766) (fun _ h9 => h9) d_K_placeOf_6 ?_
    exact W.iret (v := k_placeD i) hx hb hr (fun t ht hW => ⟨congrArg (fun z => Outcome.returned (some (Value.int z))) (Option.some.inj hf), ht⟩) (fun q h => nomatch h) d_K_placeOf_9

def f_K_isNarrow (i : Nat) (a0 : Int32) : Option Bool :=
  (f_S_length (k_layout i)).bind fun r_1 => (f_K_placeOf i a0).bind fun r_3 => if (((r_1 - 1) - r_3) - 4) < 0 then (some true) else ((f_S_length (k_layout i)).bind fun r_6 => if r_6 ≤ (((r_1 - 1) - r_3) - 4) then (some true) else ((f_S_charAt (k_layout i) (((r_1 - 1) - r_3) - 4)).bind fun r_9 => (f_K_partOf r_9).bind fun r_11 => if r_11 = a0 then (some false) else (some true)))
set_option maxHeartbeats 4000000 in
set_option maxRecDepth 100000 in
theorem c_K_isNarrow (l : Launch) {ad sk sv : Nat → Nat} {tK : Nat} (i : Nat) (a0 : Int32) (hi : i < 75) (r : Bool) (hf : f_K_isNarrow i a0 = some r) : Met l y_K_isNarrow (Cond.code y_K_isNarrow b_K_isNarrow 3 (Option.some FieldType.boolean) :: aw) ({ frames := 4, cells := 0, slots := 0, locals := 85 } : Room) (va_Pc [.ref (ad i), .int (a0)] (fun U => tb ad sk sv tK (fun _ => False) U U.heap)) (QcRead (bI r)) 0 0 (fun _ => False) := by
  refine Met.ofW (cc := b_K_isNarrow) (maxL := 3) (ret := (Option.some FieldType.boolean)) (by decide) rfl ?_
  intro p e s m args below meth c s₁ B hml hv
  obtain ⟨rfl, hT⟩ := hv
  have hx := B.exec
  have hb := B.bytes
  have hr := B.returns
  have hts := atoms_spec (ws := (Cond.code y_K_isNarrow b_K_isNarrow 3 (Option.some FieldType.boolean) :: aw)) B.pre
  have ht : ∀ {w : Cond}, w ∈ aw → w.before ([.ref (ad i), .int (a0)] : List Value).toArray s = true := fun h => hts _ (List.mem_cons_of_mem _ h)
  have hown : s.vm.findClass "CodeWords$Kind" = some m.cls := findClass_of_methodNamed B.named
  have hlocks := B.notSynchronized
  have hS : va_S (fun _ => False) s.heap s.heap [] := va_S.rf
  have hl := lv_entry ([.ref (ad i), .int (a0)]) (n := 3) (Nat.le_of_ble_eq_true rfl)
  rw [lg_entry_eq]
  generalize (lg_sl ([.ref (ad i), .int (a0)]) ++ List.replicate (3 - (lg_sl ([.ref (ad i), .int (a0)])).length) Slot.unset).toArray = ls at hl ⊢
  have hl : lv_has ls 3 [(0, .ref (ad i)), (1, .int (a0))] := hl
  rw [f_K_isNarrow] at hf
  refine lv_aload_n hx hb d_K_isNarrow_0 rfl (lv_at hl 0 rfl) ?_
  refine vk_getf (v := .ref (sk (k_layout i))) hx hb (tb_layout hT hi) hS hown (ht aw_763) (fun _ h9 => h9) d_K_isNarrow_1 ?_
  obtain ⟨r_1, g_2, hf⟩ := Option.bind_eq_some_iff.mp hf
  refine ju_calli (W.runV (As := []) (rest := []) ⟨hx, hb, hml, hown, hts⟩ (c_S_length l (ad := ad) (sk := sk) (sv := sv) (tK := tK)  (k_layout i) (k_layout_lt hi) r_1 g_2) (cwV 0 hts (aw_V aw_61 aw_62 aw_63 aw_7 aw_64) rfl rfl rfl (by decide +kernel) ⟨Nat.le_of_ble_eq_true rfl, Nat.le_of_ble_eq_true rfl⟩) ⟨fun a U g mk q => ⟨q.1, q.2.call⟩, tb_recvS hT (k_layout_lt hi) hS, fun U hU hW => ⟨rfl, hT.at hS hU hW (fun _ z => z.elim)⟩⟩ rfl rfl hl.1 rfl (lv_room (Nat.le_of_ble_eq_true rfl)) d_K_isNarrow_4 ⟨Nat.le_refl _, Nat.le_refl _⟩) ?_
  refine lv_iconst (v := 1) hx hb d_K_isNarrow_7 (by decide) ?_
  refine lv_isub hx hb d_K_isNarrow_8 ?_
  refine lv_aload_n hx hb d_K_isNarrow_9 rfl (lv_at hl 0 rfl) ?_
  refine lv_iload_n hx hb d_K_isNarrow_10 rfl (lv_at hl 1 rfl) ?_
  obtain ⟨r_3, g_4, hf⟩ := Option.bind_eq_some_iff.mp hf
  refine ju_calli (W.runV (As := [.int (a0)]) (rest := [.int (r_1 - 1)]) ⟨hx, hb, hml, hown, hts⟩ (c_K_placeOf l (ad := ad) (sk := sk) (sv := sv) (tK := tK)  i a0 hi r_3 g_4) (cwV 1 hts (aw_V aw_52 aw_54 aw_p0 aw_12 aw_56) rfl rfl rfl (by decide +kernel) ⟨Nat.le_of_ble_eq_true rfl, Nat.le_of_ble_eq_true rfl⟩) ⟨fun a U g mk q => ⟨q.1, q.2.call⟩, tb_recvK hT hi hS, fun U hU hW => ⟨rfl, hT.at hS hU hW (fun _ z => z.elim)⟩⟩ rfl rfl hl.1 rfl (lv_room (Nat.le_of_ble_eq_true rfl)) d_K_isNarrow_11 ⟨Nat.le_refl _, Nat.le_refl _⟩) ?_
  refine lv_isub hx hb d_K_isNarrow_14 ?_
  refine lv_iconst (v := 4) hx hb d_K_isNarrow_15 (by decide) ?_
  refine lv_isub hx hb d_K_isNarrow_16 ?_
  refine lv_istore_n (lv' := [(2, .int (((r_1 - 1) - r_3) - 4)), (0, .ref (ad i)), (1, .int (a0))]) hx hb d_K_isNarrow_17 rfl hl (by decide) rfl (fun ls hl => ?_)
  refine lv_iload_n hx hb d_K_isNarrow_18 rfl (lv_at hl 0 rfl) ?_
  refine lv_if_lt (tgt := 48) hx hb d_K_isNarrow_19 (by decide) (fun c_5 => ?_) (fun c_5 => ?_)
  · replace hf := (if_pos c_5).symm.trans hf
    refine lv_iconst (v := 1) hx hb d_K_isNarrow_48 (by decide) ?_
    refine lv_goto (tgt := 53) hx hb d_K_isNarrow_49 (by decide) ?_
    exact W.zret (v := 1) hx hb hr (ju_nz true) (fun t ht hW => ⟨congrArg (fun z => Outcome.returned (some (Value.int (bI z)))) (Option.some.inj hf), ht⟩) (fun q h => nomatch h) d_K_isNarrow_53
  · replace hf := (if_neg c_5).symm.trans hf
    refine lv_iload_n hx hb d_K_isNarrow_22 rfl (lv_at hl 0 rfl) ?_
    refine lv_aload_n hx hb d_K_isNarrow_23 rfl (lv_at hl 1 rfl) ?_
    refine vk_getf (v := .ref (sk (k_layout i))) hx hb (tb_layout hT hi) hS hown (ht aw_763) (fun _ h9 => h9) d_K_isNarrow_24 ?_
    obtain ⟨r_6, g_7, hf⟩ := Option.bind_eq_some_iff.mp hf
    refine ju_calli (W.runV (As := []) (rest := [.int (((r_1 - 1) - r_3) - 4)]) ⟨hx, hb, hml, hown, hts⟩ (c_S_length l (ad := ad) (sk := sk) (sv := sv) (tK := tK)  (k_layout i) (k_layout_lt hi) r_6 g_7) (cwV 0 hts (aw_V aw_61 aw_62 aw_63 aw_7 aw_64) rfl rfl rfl (by decide +kernel) ⟨Nat.le_of_ble_eq_true rfl, Nat.le_of_ble_eq_true rfl⟩) ⟨fun a U g mk q => ⟨q.1, q.2.call⟩, tb_recvS hT (k_layout_lt hi) hS, fun U hU hW => ⟨rfl, hT.at hS hU hW (fun _ z => z.elim)⟩⟩ rfl rfl hl.1 rfl (lv_room (Nat.le_of_ble_eq_true rfl)) d_K_isNarrow_27 ⟨Nat.le_refl _, Nat.le_refl _⟩) ?_
    refine lv_icmp_ge (tgt := 48) hx hb d_K_isNarrow_30 (by decide) (fun c_8 => ?_) (fun c_8 => ?_)
    · replace hf := (if_pos c_8).symm.trans hf
      refine lv_iconst (v := 1) hx hb d_K_isNarrow_48 (by decide) ?_
      refine lv_goto (tgt := 53) hx hb d_K_isNarrow_49 (by decide) ?_
      exact W.zret (v := 1) hx hb hr (ju_nz true) (fun t ht hW => ⟨congrArg (fun z => Outcome.returned (some (Value.int (bI z)))) (Option.some.inj hf), ht⟩) (fun q h => nomatch h) d_K_isNarrow_53
    · replace hf := (if_neg c_8).symm.trans hf
      refine lv_aload_n hx hb d_K_isNarrow_33 rfl (lv_at hl 1 rfl) ?_
      refine vk_getf (v := .ref (sk (k_layout i))) hx hb (tb_layout hT hi) hS hown (ht aw_763) (fun _ h9 => h9) d_K_isNarrow_34 ?_
      refine lv_iload_n hx hb d_K_isNarrow_37 rfl (lv_at hl 0 rfl) ?_
      obtain ⟨r_9, g_10, hf⟩ := Option.bind_eq_some_iff.mp hf
      refine ju_calli (W.runV (As := [.int (((r_1 - 1) - r_3) - 4)]) (rest := []) ⟨hx, hb, hml, hown, hts⟩ (c_S_charAt l (ad := ad) (sk := sk) (sv := sv) (tK := tK)  (k_layout i) (((r_1 - 1) - r_3) - 4) (k_layout_lt hi) r_9 g_10) (cwV 1 hts (aw_V aw_71 aw_72 aw_73 aw_7 aw_74) rfl rfl rfl (by decide +kernel) ⟨Nat.le_of_ble_eq_true rfl, Nat.le_of_ble_eq_true rfl⟩) ⟨fun a U g mk q => ⟨q.1, q.2.call⟩, tb_recvS hT (k_layout_lt hi) hS, fun U hU hW => ⟨rfl, hT.at hS hU hW (fun _ z => z.elim)⟩⟩ rfl rfl hl.1 rfl (lv_room (Nat.le_of_ble_eq_true rfl)) d_K_isNarrow_38 ⟨Nat.le_refl _, Nat.le_refl _⟩) ?_
      obtain ⟨r_11, g_12, hf⟩ := Option.bind_eq_some_iff.mp hf
      refine ju_calli (W.runS (As := [.int (r_9)]) (rest := []) ⟨hx, hb, hml, hown, hts⟩ (c_K_partOf l (ad := ad) (sk := sk) (sv := sv) (tK := tK)  r_9  r_11 g_12) (va_cwS 1 hts (aw_S aw_109 aw_110 aw_12 aw_111) rfl rfl rfl (by decide +kernel) ⟨Nat.le_of_ble_eq_true rfl, Nat.le_of_ble_eq_true rfl⟩) ⟨fun a U g mk q => ⟨q.1, q.2.call⟩, fun U hU hW => ⟨rfl, hT.at hS hU hW (fun _ z => z.elim)⟩⟩ rfl rfl hl.1 rfl (lv_room (Nat.le_of_ble_eq_true rfl)) d_K_isNarrow_41 ⟨Nat.le_refl _, Nat.le_refl _⟩) ?_
      refine lv_iload_n hx hb d_K_isNarrow_44 rfl (lv_at hl 2 rfl) ?_
      refine lv_icmp_eq (tgt := 52) hx hb d_K_isNarrow_45 (by decide) (fun c_13 => ?_) (fun c_13 => ?_)
      · replace hf := (if_pos c_13).symm.trans hf
        refine lv_iconst (v := 0) hx hb d_K_isNarrow_52 (by decide) ?_
        exact W.zret (v := 0) hx hb hr (ju_nz false) (fun t ht hW => ⟨congrArg (fun z => Outcome.returned (some (Value.int (bI z)))) (Option.some.inj hf), ht⟩) (fun q h => nomatch h) d_K_isNarrow_53
      · replace hf := (if_neg c_13).symm.trans hf
        refine lv_iconst (v := 1) hx hb d_K_isNarrow_48 (by decide) ?_
        refine lv_goto (tgt := 53) hx hb d_K_isNarrow_49 (by decide) ?_
        exact W.zret (v := 1) hx hb hr (ju_nz true) (fun t ht hW => ⟨congrArg (fun z => Outcome.returned (some (Value.int (bI z)))) (Option.some.inj hf), ht⟩) (fun q h => nomatch h) d_K_isNarrow_53

def f_K_register (i : Nat) (a0 : Int32) (a1 : Int32) : Option Int32 :=
  (f_K_has i a1).bind fun r_1 => if (bI r_1) = 0 then (some (0)) else ((f_K_placeOf i a1).bind fun r_4 => (f_K_isNarrow i a1).bind fun r_6 => if (bI r_6) = 0 then (some ((ju_ushr a0 r_4) &&& 31)) else (some (8 + ((ju_ushr a0 r_4) &&& 7))))
set_option maxHeartbeats 4000000 in
set_option maxRecDepth 100000 in
theorem c_K_register (l : Launch) {ad sk sv : Nat → Nat} {tK : Nat} (i : Nat) (a0 : Int32) (a1 : Int32) (hi : i < 75) (r : Int32) (hf : f_K_register i a0 a1 = some r) : Met l y_K_register (Cond.code y_K_register b_K_register 4 (Option.some FieldType.int) :: aw) ({ frames := 5, cells := 0, slots := 0, locals := 107 } : Room) (va_Pc [.ref (ad i), .int (a0), .int (a1)] (fun U => tb ad sk sv tK (fun _ => False) U U.heap)) (QcRead r) 0 0 (fun _ => False) := by
  refine Met.ofW (cc := b_K_register) (maxL := 4) (ret := (Option.some FieldType.int)) (by decide) rfl ?_
  intro p e s m args below meth c s₁ B hml hv
  obtain ⟨rfl, hT⟩ := hv
  have hx := B.exec
  have hb := B.bytes
  have hr := B.returns
  have hts := atoms_spec (ws := (Cond.code y_K_register b_K_register 4 (Option.some FieldType.int) :: aw)) B.pre
  have ht : ∀ {w : Cond}, w ∈ aw → w.before ([.ref (ad i), .int (a0), .int (a1)] : List Value).toArray s = true := fun h => hts _ (List.mem_cons_of_mem _ h)
  have hown : s.vm.findClass "CodeWords$Kind" = some m.cls := findClass_of_methodNamed B.named
  have hlocks := B.notSynchronized
  have hS : va_S (fun _ => False) s.heap s.heap [] := va_S.rf
  have hl := lv_entry ([.ref (ad i), .int (a0), .int (a1)]) (n := 4) (Nat.le_of_ble_eq_true rfl)
  rw [lg_entry_eq]
  generalize (lg_sl ([.ref (ad i), .int (a0), .int (a1)]) ++ List.replicate (4 - (lg_sl ([.ref (ad i), .int (a0), .int (a1)])).length) Slot.unset).toArray = ls at hl ⊢
  have hl : lv_has ls 4 [(0, .ref (ad i)), (1, .int (a0)), (2, .int (a1))] := hl
  rw [f_K_register] at hf
  refine lv_aload_n hx hb d_K_register_0 rfl (lv_at hl 0 rfl) ?_
  refine lv_iload_n hx hb d_K_register_1 rfl (lv_at hl 2 rfl) ?_
  obtain ⟨r_1, g_2, hf⟩ := Option.bind_eq_some_iff.mp hf
  refine ju_calli (W.runV (As := [.int (a1)]) (rest := []) ⟨hx, hb, hml, hown, hts⟩ (c_K_has l (ad := ad) (sk := sk) (sv := sv) (tK := tK)  i a1 hi r_1 g_2) (cwV 1 hts (aw_V aw_48 aw_49 aw_50 aw_12 aw_51) rfl rfl rfl (by decide +kernel) ⟨Nat.le_of_ble_eq_true rfl, Nat.le_of_ble_eq_true rfl⟩) ⟨fun a U g mk q => ⟨q.1, q.2.call⟩, tb_recvK hT hi hS, fun U hU hW => ⟨rfl, hT.at hS hU hW (fun _ z => z.elim)⟩⟩ rfl rfl hl.1 rfl (lv_room (Nat.le_of_ble_eq_true rfl)) d_K_register_2 ⟨Nat.le_refl _, Nat.le_refl _⟩) ?_
  refine lv_if_ne (tgt := 10) hx hb d_K_register_5 (by decide) (fun c_3 => ?_) (fun c_3 => ?_)
  · replace hf := (if_neg c_3).symm.trans hf
    refine lv_iload_n hx hb d_K_register_10 rfl (lv_at hl 1 rfl) ?_
    refine lv_aload_n hx hb d_K_register_11 rfl (lv_at hl 0 rfl) ?_
    refine lv_iload_n hx hb d_K_register_12 rfl (lv_at hl 2 rfl) ?_
    obtain ⟨r_4, g_5, hf⟩ := Option.bind_eq_some_iff.mp hf
    refine ju_calli (W.runV (As := [.int (a1)]) (rest := [.int (a0)]) ⟨hx, hb, hml, hown, hts⟩ (c_K_placeOf l (ad := ad) (sk := sk) (sv := sv) (tK := tK)  i a1 hi r_4 g_5) (cwV 1 hts (aw_V aw_52 aw_54 aw_p0 aw_12 aw_56) rfl rfl rfl (by decide +kernel) ⟨Nat.le_of_ble_eq_true rfl, Nat.le_of_ble_eq_true rfl⟩) ⟨fun a U g mk q => ⟨q.1, q.2.call⟩, tb_recvK hT hi hS, fun U hU hW => ⟨rfl, hT.at hS hU hW (fun _ z => z.elim)⟩⟩ rfl rfl hl.1 rfl (lv_room (Nat.le_of_ble_eq_true rfl)) d_K_register_13 ⟨Nat.le_refl _, Nat.le_refl _⟩) ?_
    refine lv_iushr (v := ju_ushr a0 r_4) hx hb d_K_register_16 rfl ?_
    refine lv_istore_n (lv' := [(3, .int (ju_ushr a0 r_4)), (0, .ref (ad i)), (1, .int (a0)), (2, .int (a1))]) hx hb d_K_register_17 rfl hl (by decide) rfl (fun ls hl => ?_)
    refine lv_aload_n hx hb d_K_register_18 rfl (lv_at hl 1 rfl) ?_
    refine lv_iload_n hx hb d_K_register_19 rfl (lv_at hl 3 rfl) ?_
    obtain ⟨r_6, g_7, hf⟩ := Option.bind_eq_some_iff.mp hf
    refine ju_calli (W.runV (As := [.int (a1)]) (rest := []) ⟨hx, hb, hml, hown, hts⟩ (c_K_isNarrow l (ad := ad) (sk := sk) (sv := sv) (tK := tK)  i a1 hi r_6 g_7) (cwV 1 hts (aw_V aw_57 aw_59 aw_p1 aw_12 aw_60) rfl rfl rfl (by decide +kernel) ⟨Nat.le_of_ble_eq_true rfl, Nat.le_of_ble_eq_true rfl⟩) ⟨fun a U g mk q => ⟨q.1, q.2.call⟩, tb_recvK hT hi hS, fun U hU hW => ⟨rfl, hT.at hS hU hW (fun _ z => z.elim)⟩⟩ rfl rfl hl.1 rfl (lv_room (Nat.le_of_ble_eq_true rfl)) d_K_register_20 ⟨Nat.le_refl _, Nat.le_refl _⟩) ?_
    refine lv_if_eq (tgt := 36) hx hb d_K_register_23 (by decide) (fun c_8 => ?_) (fun c_8 => ?_)
    · replace hf := (if_pos c_8).symm.trans hf
      refine lv_iload_n hx hb d_K_register_36 rfl (lv_at hl 0 rfl) ?_
      refine lv_bipush (v := 31) hx hb d_K_register_37 (by decide) ?_
      refine lv_iand hx hb d_K_register_39 ?_
      exact W.iret (v := (ju_ushr a0 r_4) &&& 31) hx hb hr (fun t ht hW => ⟨congrArg (fun z => Outcome.returned (some (Value.int z))) (Option.some.inj hf), ht⟩) (fun q h => nomatch h) d_K_register_40
    · replace hf := (if_neg c_8).symm.trans hf
      refine lv_bipush (v := 8) hx hb d_K_register_26 (by decide) ?_
      refine lv_iload_n hx hb d_K_register_28 rfl (lv_at hl 0 rfl) ?_
      refine lv_bipush (v := 7) hx hb d_K_register_29 (by decide) ?_
      refine lv_iand hx hb d_K_register_31 ?_
      refine lv_iadd hx hb d_K_register_32 ?_
      refine lv_goto (tgt := 40) hx hb d_K_register_33 (by decide) ?_
      exact W.iret (v := 8 + ((ju_ushr a0 r_4) &&& 7)) hx hb hr (fun t ht hW => ⟨congrArg (fun z => Outcome.returned (some (Value.int z))) (Option.some.inj hf), ht⟩) (fun q h => nomatch h) d_K_register_40
  · replace hf := (if_pos c_3).symm.trans hf
    refine lv_iconst (v := 0) hx hb d_K_register_8 (by decide) ?_
    exact W.iret (v := 0) hx hb hr (fun t ht hW => ⟨congrArg (fun z => Outcome.returned (some (Value.int z))) (Option.some.inj hf), ht⟩) (fun q h => nomatch h) d_K_register_9

def f_K_registerBits (i : Nat) (a0 : Int32) (a1 : Int32) : Option Int32 :=
  (f_K_has i a0).bind fun r_1 => if (bI r_1) = 0 then (some (0)) else ((f_K_isNarrow i a0).bind fun r_4 => if (bI r_4) = 0 then ((f_K_placeOf i a0).bind fun r_7 => some ((a1 &&& 31) <<< (r_7 &&& 31))) else ((f_K_placeOf i a0).bind fun r_9 => some ((a1 &&& 7) <<< (r_9 &&& 31))))
set_option maxHeartbeats 4000000 in
set_option maxRecDepth 100000 in
theorem c_K_registerBits (l : Launch) {ad sk sv : Nat → Nat} {tK : Nat} (i : Nat) (a0 : Int32) (a1 : Int32) (hi : i < 75) (r : Int32) (hf : f_K_registerBits i a0 a1 = some r) : Met l y_K_registerBits (Cond.code y_K_registerBits b_K_registerBits 3 (Option.some FieldType.int) :: aw) ({ frames := 5, cells := 0, slots := 0, locals := 107 } : Room) (va_Pc [.ref (ad i), .int (a0), .int (a1)] (fun U => tb ad sk sv tK (fun _ => False) U U.heap)) (QcRead r) 0 0 (fun _ => False) := by
  refine Met.ofW (cc := b_K_registerBits) (maxL := 3) (ret := (Option.some FieldType.int)) (by decide) rfl ?_
  intro p e s m args below meth c s₁ B hml hv
  obtain ⟨rfl, hT⟩ := hv
  have hx := B.exec
  have hb := B.bytes
  have hr := B.returns
  have hts := atoms_spec (ws := (Cond.code y_K_registerBits b_K_registerBits 3 (Option.some FieldType.int) :: aw)) B.pre
  have ht : ∀ {w : Cond}, w ∈ aw → w.before ([.ref (ad i), .int (a0), .int (a1)] : List Value).toArray s = true := fun h => hts _ (List.mem_cons_of_mem _ h)
  have hown : s.vm.findClass "CodeWords$Kind" = some m.cls := findClass_of_methodNamed B.named
  have hlocks := B.notSynchronized
  have hS : va_S (fun _ => False) s.heap s.heap [] := va_S.rf
  have hl := lv_entry ([.ref (ad i), .int (a0), .int (a1)]) (n := 3) (Nat.le_of_ble_eq_true rfl)
  rw [lg_entry_eq]
  generalize (lg_sl ([.ref (ad i), .int (a0), .int (a1)]) ++ List.replicate (3 - (lg_sl ([.ref (ad i), .int (a0), .int (a1)])).length) Slot.unset).toArray = ls at hl ⊢
  have hl : lv_has ls 3 [(0, .ref (ad i)), (1, .int (a0)), (2, .int (a1))] := hl
  rw [f_K_registerBits] at hf
  refine lv_aload_n hx hb d_K_registerBits_0 rfl (lv_at hl 0 rfl) ?_
  refine lv_iload_n hx hb d_K_registerBits_1 rfl (lv_at hl 1 rfl) ?_
  obtain ⟨r_1, g_2, hf⟩ := Option.bind_eq_some_iff.mp hf
  refine ju_calli (W.runV (As := [.int (a0)]) (rest := []) ⟨hx, hb, hml, hown, hts⟩ (c_K_has l (ad := ad) (sk := sk) (sv := sv) (tK := tK)  i a0 hi r_1 g_2) (cwV 1 hts (aw_V aw_48 aw_49 aw_50 aw_12 aw_51) rfl rfl rfl (by decide +kernel) ⟨Nat.le_of_ble_eq_true rfl, Nat.le_of_ble_eq_true rfl⟩) ⟨fun a U g mk q => ⟨q.1, q.2.call⟩, tb_recvK hT hi hS, fun U hU hW => ⟨rfl, hT.at hS hU hW (fun _ z => z.elim)⟩⟩ rfl rfl hl.1 rfl (lv_room (Nat.le_of_ble_eq_true rfl)) d_K_registerBits_2 ⟨Nat.le_refl _, Nat.le_refl _⟩) ?_
  refine lv_if_ne (tgt := 10) hx hb d_K_registerBits_5 (by decide) (fun c_3 => ?_) (fun c_3 => ?_)
  · replace hf := (if_neg c_3).symm.trans hf
    refine lv_aload_n hx hb d_K_registerBits_10 rfl (lv_at hl 0 rfl) ?_
    refine lv_iload_n hx hb d_K_registerBits_11 rfl (lv_at hl 1 rfl) ?_
    obtain ⟨r_4, g_5, hf⟩ := Option.bind_eq_some_iff.mp hf
    refine ju_calli (W.runV (As := [.int (a0)]) (rest := []) ⟨hx, hb, hml, hown, hts⟩ (c_K_isNarrow l (ad := ad) (sk := sk) (sv := sv) (tK := tK)  i a0 hi r_4 g_5) (cwV 1 hts (aw_V aw_57 aw_59 aw_p1 aw_12 aw_60) rfl rfl rfl (by decide +kernel) ⟨Nat.le_of_ble_eq_true rfl, Nat.le_of_ble_eq_true rfl⟩) ⟨fun a U g mk q => ⟨q.1, q.2.call⟩, tb_recvK hT hi hS, fun U hU hW => ⟨rfl, hT.at hS hU hW (fun _ z => z.elim)⟩⟩ rfl rfl hl.1 rfl (lv_room (Nat.le_of_ble_eq_true rfl)) d_K_registerBits_12 ⟨Nat.le_refl _, Nat.le_refl _⟩) ?_
    refine lv_if_eq (tgt := 25) hx hb d_K_registerBits_15 (by decide) (fun c_6 => ?_) (fun c_6 => ?_)
    · replace hf := (if_pos c_6).symm.trans hf
      refine lv_iload_n hx hb d_K_registerBits_25 rfl (lv_at hl 2 rfl) ?_
      refine lv_bipush (v := 31) hx hb d_K_registerBits_26 (by decide) ?_
      refine lv_iand hx hb d_K_registerBits_28 ?_
      refine lv_aload_n hx hb d_K_registerBits_29 rfl (lv_at hl 0 rfl) ?_
      refine lv_iload_n hx hb d_K_registerBits_30 rfl (lv_at hl 1 rfl) ?_
      obtain ⟨r_7, g_8, hf⟩ := Option.bind_eq_some_iff.mp hf
      refine ju_calli (W.runV (As := [.int (a0)]) (rest := [.int (a1 &&& 31)]) ⟨hx, hb, hml, hown, hts⟩ (c_K_placeOf l (ad := ad) (sk := sk) (sv := sv) (tK := tK)  i a0 hi r_7 g_8) (cwV 1 hts (aw_V aw_52 aw_54 aw_p0 aw_12 aw_56) rfl rfl rfl (by decide +kernel) ⟨Nat.le_of_ble_eq_true rfl, Nat.le_of_ble_eq_true rfl⟩) ⟨fun a U g mk q => ⟨q.1, q.2.call⟩, tb_recvK hT hi hS, fun U hU hW => ⟨rfl, hT.at hS hU hW (fun _ z => z.elim)⟩⟩ rfl rfl hl.1 rfl (lv_room (Nat.le_of_ble_eq_true rfl)) d_K_registerBits_31 ⟨Nat.le_refl _, Nat.le_refl _⟩) ?_
      refine lv_ishl hx hb d_K_registerBits_34 ?_
      exact W.iret (v := (a1 &&& 31) <<< (r_7 &&& 31)) hx hb hr (fun t ht hW => ⟨congrArg (fun z => Outcome.returned (some (Value.int z))) (Option.some.inj hf), ht⟩) (fun q h => nomatch h) d_K_registerBits_35
    · replace hf := (if_neg c_6).symm.trans hf
      refine lv_iload_n hx hb d_K_registerBits_18 rfl (lv_at hl 2 rfl) ?_
      refine lv_bipush (v := 7) hx hb d_K_registerBits_19 (by decide) ?_
      refine lv_iand hx hb d_K_registerBits_21 ?_
      refine lv_goto (tgt := 29) hx hb d_K_registerBits_22 (by decide) ?_
      refine lv_aload_n hx hb d_K_registerBits_29 rfl (lv_at hl 0 rfl) ?_
      refine lv_iload_n hx hb d_K_registerBits_30 rfl (lv_at hl 1 rfl) ?_
      obtain ⟨r_9, g_10, hf⟩ := Option.bind_eq_some_iff.mp hf
      refine ju_calli (W.runV (As := [.int (a0)]) (rest := [.int (a1 &&& 7)]) ⟨hx, hb, hml, hown, hts⟩ (c_K_placeOf l (ad := ad) (sk := sk) (sv := sv) (tK := tK)  i a0 hi r_9 g_10) (cwV 1 hts (aw_V aw_52 aw_54 aw_p0 aw_12 aw_56) rfl rfl rfl (by decide +kernel) ⟨Nat.le_of_ble_eq_true rfl, Nat.le_of_ble_eq_true rfl⟩) ⟨fun a U g mk q => ⟨q.1, q.2.call⟩, tb_recvK hT hi hS, fun U hU hW => ⟨rfl, hT.at hS hU hW (fun _ z => z.elim)⟩⟩ rfl rfl hl.1 rfl (lv_room (Nat.le_of_ble_eq_true rfl)) d_K_registerBits_31 ⟨Nat.le_refl _, Nat.le_refl _⟩) ?_
      refine lv_ishl hx hb d_K_registerBits_34 ?_
      exact W.iret (v := (a1 &&& 7) <<< (r_9 &&& 31)) hx hb hr (fun t ht hW => ⟨congrArg (fun z => Outcome.returned (some (Value.int z))) (Option.some.inj hf), ht⟩) (fun q h => nomatch h) d_K_registerBits_35
  · replace hf := (if_pos c_3).symm.trans hf
    refine lv_iconst (v := 0) hx hb d_K_registerBits_8 (by decide) ?_
    exact W.iret (v := 0) hx hb hr (fun t ht hW => ⟨congrArg (fun z => Outcome.returned (some (Value.int z))) (Option.some.inj hf), ht⟩) (fun q h => nomatch h) d_K_registerBits_9

def f_K_allowsImmediate_L124 (i : Nat) (a0 : Int64)  (x3 : Int64) (x5 : Int64) (t0 : Int64) : Option (Bool) :=
  if (lg_cmp x3 t0) < 0 then (some false) else (if 0 ≤ (lg_cmp x3 x5) then (some false) else (if (lg_cmp (x3 &&& ((ju_lshl 1 (k_lowestBit i)) - 1)) 0) = 0 then (some true) else (some false)))
def f_K_allowsImmediate_L106 (i : Nat) (a0 : Int64)  (x3 : Int64) (t0 : Int64) : Option (Bool) :=
  (f_K_is i 32).bind fun r_16 => if (bI r_16) = 0 then (f_K_allowsImmediate_L124 i a0  x3 t0 0) else (f_K_allowsImmediate_L124 i a0  x3 t0 (-t0))
def f_K_allowsImmediate_L79 (i : Nat) (a0 : Int64)  (t0 : Int64) : Option (Bool) :=
  (f_K_is i 32).bind fun r_13 => if (bI r_13) = 0 then (f_K_allowsImmediate_L106 i a0  t0 (ju_lshl 2 (k_highestBit i))) else (f_K_allowsImmediate_L106 i a0  t0 (ju_lshl 1 (k_highestBit i)))
def f_K_allowsImmediate_L78 (i : Nat) (a0 : Int64)   : Option (Bool) :=
  f_K_allowsImmediate_L79 i a0  a0
def f_K_allowsImmediate_L52 (i : Nat) (a0 : Int64)   : Option (Bool) :=
  (f_K_is i 256).bind fun r_10 => if (bI r_10) = 0 then (f_K_allowsImmediate_L78 i a0  ) else (if (lg_cmp a0 524288) < 0 then (f_K_allowsImmediate_L78 i a0  ) else (f_K_allowsImmediate_L79 i a0  (a0 - 1048576)))
def f_K_allowsImmediate_L26 (i : Nat) (a0 : Int64)   : Option (Bool) :=
  (f_K_is i 256).bind fun r_7 => if (bI r_7) = 0 then (f_K_allowsImmediate_L52 i a0  ) else (if (lg_cmp a0 0) < 0 then (some false) else (if (lg_cmp a0 1048576) < 0 then (f_K_allowsImmediate_L52 i a0  ) else (some false)))
def f_K_allowsImmediate (i : Nat) (a0 : Int64) : Option Bool :=
  (f_K_has i 8).bind fun r_1 => if (bI r_1) = 0 then (some false) else ((f_K_is i 64).bind fun r_4 => if (bI r_4) = 0 then (f_K_allowsImmediate_L26 i a0  ) else (if (lg_cmp a0 0) = 0 then (some false) else (f_K_allowsImmediate_L26 i a0  )))
set_option maxHeartbeats 4000000 in
set_option maxRecDepth 100000 in
theorem c_K_allowsImmediate (l : Launch) {ad sk sv : Nat → Nat} {tK : Nat} (i : Nat) (a0 : Int64) (hi : i < 75) (r : Bool) (hf : f_K_allowsImmediate i a0 = some r) : Met l y_K_allowsImmediate (Cond.code y_K_allowsImmediate b_K_allowsImmediate 9 (Option.some FieldType.boolean) :: aw) ({ frames := 1, cells := 0, slots := 0, locals := 21 } : Room) (va_Pc [.ref (ad i), .long (a0)] (fun U => tb ad sk sv tK (fun _ => False) U U.heap)) (QcRead (bI r)) 0 0 (fun _ => False) := by
  refine Met.ofW (cc := b_K_allowsImmediate) (maxL := 9) (ret := (Option.some FieldType.boolean)) (by decide) rfl ?_
  intro p e s m args below meth c s₁ B hml hv
  obtain ⟨rfl, hT⟩ := hv
  have hx := B.exec
  have hb := B.bytes
  have hr := B.returns
  have hts := atoms_spec (ws := (Cond.code y_K_allowsImmediate b_K_allowsImmediate 9 (Option.some FieldType.boolean) :: aw)) B.pre
  have ht : ∀ {w : Cond}, w ∈ aw → w.before ([.ref (ad i), .long (a0)] : List Value).toArray s = true := fun h => hts _ (List.mem_cons_of_mem _ h)
  have hown : s.vm.findClass "CodeWords$Kind" = some m.cls := findClass_of_methodNamed B.named
  have hlocks := B.notSynchronized
  have hS : va_S (fun _ => False) s.heap s.heap [] := va_S.rf
  have hl := lv_entry ([.ref (ad i), .long (a0)]) (n := 9) (Nat.le_of_ble_eq_true rfl)
  rw [lg_entry_eq]
  generalize (lg_sl ([.ref (ad i), .long (a0)]) ++ List.replicate (9 - (lg_sl ([.ref (ad i), .long (a0)])).length) Slot.unset).toArray = ls at hl ⊢
  have hl : lv_has ls 9 [(0, .ref (ad i)), (1, .long (a0))] := hl
  have J124 : ∀ (x3 : Int64) (x5 : Int64) (t0 : Int64) (ls : Array Slot), lv_has ls 9 [(0, .ref (ad i)), (1, .long (a0)), (3, .long (x3)), (5, .long (x5))] → f_K_allowsImmediate_L124 i a0  x3 x5 t0 = some r → pW p l e (headSpec (Cond.code y_K_allowsImmediate b_K_allowsImmediate 9 (Option.some FieldType.boolean) :: aw) ({ frames := 1, cells := 0, slots := 0, locals := 21 } : Room)).room s m ([.ref (ad i), .long (a0)] : List Value).toArray below meth c (bI r) (F0 m 124 ls [.long (t0)]) := by
    intro x3 x5 t0  ls  hl hf
    rw [f_K_allowsImmediate_L124] at hf
    refine lv_lstore (lv' := [(7, .long (t0)), (0, .ref (ad i)), (1, .long (a0)), (3, .long (x3)), (5, .long (x5))]) hx hb d_K_allowsImmediate_124 hl (by decide) rfl (fun ls hl => ?_)
    refine lv_lload_n hx hb d_K_allowsImmediate_126 rfl (lv_at hl 3 rfl) ?_
    refine lv_lload hx hb d_K_allowsImmediate_127 (lv_at hl 0 rfl) ?_
    refine W.lcmp hx hb d_K_allowsImmediate_129 ?_
    refine lv_if_lt (tgt := 159) hx hb d_K_allowsImmediate_130 (by decide) (fun c_19 => ?_) (fun c_19 => ?_)
    · replace hf := (if_pos c_19).symm.trans hf
      refine lv_iconst (v := 0) hx hb d_K_allowsImmediate_159 (by decide) ?_
      exact W.zret (v := 0) hx hb hr (ju_nz false) (fun t ht hW => ⟨congrArg (fun z => Outcome.returned (some (Value.int (bI z)))) (Option.some.inj hf), ht⟩) (fun q h => nomatch h) d_K_allowsImmediate_160
    · replace hf := (if_neg c_19).symm.trans hf
      refine lv_lload_n hx hb d_K_allowsImmediate_133 rfl (lv_at hl 3 rfl) ?_
      refine lv_lload hx hb d_K_allowsImmediate_134 (lv_at hl 4 rfl) ?_
      refine W.lcmp hx hb d_K_allowsImmediate_136 ?_
      refine lv_if_ge (tgt := 159) hx hb d_K_allowsImmediate_137 (by decide) (fun c_20 => ?_) (fun c_20 => ?_)
      · replace hf := (if_pos c_20).symm.trans hf
        refine lv_iconst (v := 0) hx hb d_K_allowsImmediate_159 (by decide) ?_
        exact W.zret (v := 0) hx hb hr (ju_nz false) (fun t ht hW => ⟨congrArg (fun z => Outcome.returned (some (Value.int (bI z)))) (Option.some.inj hf), ht⟩) (fun q h => nomatch h) d_K_allowsImmediate_160
      · replace hf := (if_neg c_20).symm.trans hf
        refine lv_lload_n hx hb d_K_allowsImmediate_140 rfl (lv_at hl 3 rfl) ?_
        refine lv_lconst (v := 1) hx hb d_K_allowsImmediate_141 (by decide) ?_
        refine lv_aload_n hx hb d_K_allowsImmediate_142 rfl (lv_at hl 1 rfl) ?_
        refine vk_getf (v := .int (k_lowestBit i)) hx hb (tb_lowestBit hT hi) hS hown (ht aw_771) (fun _ h9 => h9) d_K_allowsImmediate_143 ?_
        refine lv_lshl (v := ju_lshl 1 (k_lowestBit i)) hx hb d_K_allowsImmediate_146 rfl ?_
        refine lv_lconst (v := 1) hx hb d_K_allowsImmediate_147 (by decide) ?_
        refine lv_lsub hx hb d_K_allowsImmediate_148 ?_
        refine lv_land hx hb d_K_allowsImmediate_149 ?_
        refine lv_lconst (v := 0) hx hb d_K_allowsImmediate_150 (by decide) ?_
        refine W.lcmp hx hb d_K_allowsImmediate_151 ?_
        refine lv_if_ne (tgt := 159) hx hb d_K_allowsImmediate_152 (by decide) (fun c_21 => ?_) (fun c_21 => ?_)
        · replace hf := (if_neg c_21).symm.trans hf
          refine lv_iconst (v := 0) hx hb d_K_allowsImmediate_159 (by decide) ?_
          exact W.zret (v := 0) hx hb hr (ju_nz false) (fun t ht hW => ⟨congrArg (fun z => Outcome.returned (some (Value.int (bI z)))) (Option.some.inj hf), ht⟩) (fun q h => nomatch h) d_K_allowsImmediate_160
        · replace hf := (if_pos c_21).symm.trans hf
          refine lv_iconst (v := 1) hx hb d_K_allowsImmediate_155 (by decide) ?_
          refine lv_goto (tgt := 160) hx hb d_K_allowsImmediate_156 (by decide) ?_
          exact W.zret (v := 1) hx hb hr (ju_nz true) (fun t ht hW => ⟨congrArg (fun z => Outcome.returned (some (Value.int (bI z)))) (Option.some.inj hf), ht⟩) (fun q h => nomatch h) d_K_allowsImmediate_160
  have J106 : ∀ (x3 : Int64) (t0 : Int64) (ls : Array Slot), lv_has ls 9 [(0, .ref (ad i)), (1, .long (a0)), (3, .long (x3))] → f_K_allowsImmediate_L106 i a0  x3 t0 = some r → pW p l e (headSpec (Cond.code y_K_allowsImmediate b_K_allowsImmediate 9 (Option.some FieldType.boolean) :: aw) ({ frames := 1, cells := 0, slots := 0, locals := 21 } : Room)).room s m ([.ref (ad i), .long (a0)] : List Value).toArray below meth c (bI r) (F0 m 106 ls [.long (t0)]) := by
    intro x3 t0  ls  hl hf
    rw [f_K_allowsImmediate_L106] at hf
    refine lv_lstore (lv' := [(5, .long (t0)), (0, .ref (ad i)), (1, .long (a0)), (3, .long (x3))]) hx hb d_K_allowsImmediate_106 hl (by decide) rfl (fun ls hl => ?_)
    refine lv_aload_n hx hb d_K_allowsImmediate_108 rfl (lv_at hl 1 rfl) ?_
    refine lv_bipush (v := 32) hx hb d_K_allowsImmediate_109 (by decide) ?_
    obtain ⟨r_16, g_17, hf⟩ := Option.bind_eq_some_iff.mp hf
    refine ju_calli (W.runV (As := [.int (32)]) (rest := []) ⟨hx, hb, hml, hown, hts⟩ (c_K_is l (ad := ad) (sk := sk) (sv := sv) (tK := tK)  i 32 hi r_16 g_17) (cwV 1 hts (aw_V aw_116 aw_118 aw_p2 aw_12 aw_119) rfl rfl rfl (by decide +kernel) ⟨Nat.le_of_ble_eq_true rfl, Nat.le_of_ble_eq_true rfl⟩) ⟨fun a U g mk q => ⟨q.1, q.2.call⟩, tb_recvK hT hi hS, fun U hU hW => ⟨rfl, hT.at hS hU hW (fun _ z => z.elim)⟩⟩ rfl rfl hl.1 rfl (lv_room (Nat.le_of_ble_eq_true rfl)) d_K_allowsImmediate_111 ⟨Nat.le_refl _, Nat.le_refl _⟩) ?_
    refine lv_if_eq (tgt := 123) hx hb d_K_allowsImmediate_114 (by decide) (fun c_18 => ?_) (fun c_18 => ?_)
    · replace hf := (if_pos c_18).symm.trans hf
      refine lv_lconst (v := 0) hx hb d_K_allowsImmediate_123 (by decide) ?_
      exact J124 x3 t0 0  _  (lv_sub hl [1, 2, 3, 0] rfl) hf
    · replace hf := (if_neg c_18).symm.trans hf
      refine lv_lload hx hb d_K_allowsImmediate_117 (lv_at hl 0 rfl) ?_
      refine lv_lneg hx hb d_K_allowsImmediate_119 ?_
      refine lv_goto (tgt := 124) hx hb d_K_allowsImmediate_120 (by decide) ?_
      exact J124 x3 t0 (-t0)  _  (lv_sub hl [1, 2, 3, 0] rfl) hf
  have J79 : ∀ (t0 : Int64) (ls : Array Slot), lv_has ls 9 [(0, .ref (ad i)), (1, .long (a0))] → f_K_allowsImmediate_L79 i a0  t0 = some r → pW p l e (headSpec (Cond.code y_K_allowsImmediate b_K_allowsImmediate 9 (Option.some FieldType.boolean) :: aw) ({ frames := 1, cells := 0, slots := 0, locals := 21 } : Room)).room s m ([.ref (ad i), .long (a0)] : List Value).toArray below meth c (bI r) (F0 m 79 ls [.long (t0)]) := by
    intro t0  ls  hl hf
    rw [f_K_allowsImmediate_L79] at hf
    refine lv_lstore_n (lv' := [(3, .long (t0)), (0, .ref (ad i)), (1, .long (a0))]) hx hb d_K_allowsImmediate_79 rfl hl (by decide) rfl (fun ls hl => ?_)
    refine lv_aload_n hx hb d_K_allowsImmediate_80 rfl (lv_at hl 1 rfl) ?_
    refine lv_bipush (v := 32) hx hb d_K_allowsImmediate_81 (by decide) ?_
    obtain ⟨r_13, g_14, hf⟩ := Option.bind_eq_some_iff.mp hf
    refine ju_calli (W.runV (As := [.int (32)]) (rest := []) ⟨hx, hb, hml, hown, hts⟩ (c_K_is l (ad := ad) (sk := sk) (sv := sv) (tK := tK)  i 32 hi r_13 g_14) (cwV 1 hts (aw_V aw_116 aw_118 aw_p2 aw_12 aw_119) rfl rfl rfl (by decide +kernel) ⟨Nat.le_of_ble_eq_true rfl, Nat.le_of_ble_eq_true rfl⟩) ⟨fun a U g mk q => ⟨q.1, q.2.call⟩, tb_recvK hT hi hS, fun U hU hW => ⟨rfl, hT.at hS hU hW (fun _ z => z.elim)⟩⟩ rfl rfl hl.1 rfl (lv_room (Nat.le_of_ble_eq_true rfl)) d_K_allowsImmediate_83 ⟨Nat.le_refl _, Nat.le_refl _⟩) ?_
    refine lv_if_eq (tgt := 98) hx hb d_K_allowsImmediate_86 (by decide) (fun c_15 => ?_) (fun c_15 => ?_)
    · replace hf := (if_pos c_15).symm.trans hf
      refine lv_ldc2 (v := 2) hx hb hown (ht aw_135) d_K_allowsImmediate_98 ?_
      refine lv_aload_n hx hb d_K_allowsImmediate_101 rfl (lv_at hl 1 rfl) ?_
      refine vk_getf (v := .int (k_highestBit i)) hx hb (tb_highestBit hT hi) hS hown (ht aw_770) (fun _ h9 => h9) d_K_allowsImmediate_102 ?_
      refine lv_lshl (v := ju_lshl 2 (k_highestBit i)) hx hb d_K_allowsImmediate_105 rfl ?_
      exact J106 t0 (ju_lshl 2 (k_highestBit i))  _  (lv_sub hl [1, 2, 0] rfl) hf
    · replace hf := (if_neg c_15).symm.trans hf
      refine lv_lconst (v := 1) hx hb d_K_allowsImmediate_89 (by decide) ?_
      refine lv_aload_n hx hb d_K_allowsImmediate_90 rfl (lv_at hl 1 rfl) ?_
      refine vk_getf (v := .int (k_highestBit i)) hx hb (tb_highestBit hT hi) hS hown (ht aw_770) (fun _ h9 => h9) d_K_allowsImmediate_91 ?_
      refine lv_lshl (v := ju_lshl 1 (k_highestBit i)) hx hb d_K_allowsImmediate_94 rfl ?_
      refine lv_goto (tgt := 106) hx hb d_K_allowsImmediate_95 (by decide) ?_
      exact J106 t0 (ju_lshl 1 (k_highestBit i))  _  (lv_sub hl [1, 2, 0] rfl) hf
  have J78 : ∀  (ls : Array Slot), lv_has ls 9 [(0, .ref (ad i)), (1, .long (a0))] → f_K_allowsImmediate_L78 i a0   = some r → pW p l e (headSpec (Cond.code y_K_allowsImmediate b_K_allowsImmediate 9 (Option.some FieldType.boolean) :: aw) ({ frames := 1, cells := 0, slots := 0, locals := 21 } : Room)).room s m ([.ref (ad i), .long (a0)] : List Value).toArray below meth c (bI r) (F0 m 78 ls []) := by
    intro   ls  hl hf
    rw [f_K_allowsImmediate_L78] at hf
    refine lv_lload_n hx hb d_K_allowsImmediate_78 rfl (lv_at hl 1 rfl) ?_
    exact J79 a0  _  (lv_sub hl [0, 1] rfl) hf
  have J52 : ∀  (ls : Array Slot), lv_has ls 9 [(0, .ref (ad i)), (1, .long (a0))] → f_K_allowsImmediate_L52 i a0   = some r → pW p l e (headSpec (Cond.code y_K_allowsImmediate b_K_allowsImmediate 9 (Option.some FieldType.boolean) :: aw) ({ frames := 1, cells := 0, slots := 0, locals := 21 } : Room)).room s m ([.ref (ad i), .long (a0)] : List Value).toArray below meth c (bI r) (F0 m 52 ls []) := by
    intro   ls  hl hf
    rw [f_K_allowsImmediate_L52] at hf
    refine lv_aload_n hx hb d_K_allowsImmediate_52 rfl (lv_at hl 0 rfl) ?_
    refine lv_sipush (v := 256) hx hb d_K_allowsImmediate_53 (by decide) ?_
    obtain ⟨r_10, g_11, hf⟩ := Option.bind_eq_some_iff.mp hf
    refine ju_calli (W.runV (As := [.int (256)]) (rest := []) ⟨hx, hb, hml, hown, hts⟩ (c_K_is l (ad := ad) (sk := sk) (sv := sv) (tK := tK)  i 256 hi r_10 g_11) (cwV 1 hts (aw_V aw_116 aw_118 aw_p2 aw_12 aw_119) rfl rfl rfl (by decide +kernel) ⟨Nat.le_of_ble_eq_true rfl, Nat.le_of_ble_eq_true rfl⟩) ⟨fun a U g mk q => ⟨q.1, q.2.call⟩, tb_recvK hT hi hS, fun U hU hW => ⟨rfl, hT.at hS hU hW (fun _ z => z.elim)⟩⟩ rfl rfl hl.1 rfl (lv_room (Nat.le_of_ble_eq_true rfl)) d_K_allowsImmediate_56 ⟨Nat.le_refl _, Nat.le_refl _⟩) ?_
    refine lv_if_eq (tgt := 78) hx hb d_K_allowsImmediate_59 (by decide) (fun c_12 => ?_) (fun c_12 => ?_)
    · replace hf := (if_pos c_12).symm.trans hf
      exact J78   _  (lv_sub hl [0, 1] rfl) hf
    · replace hf := (if_neg c_12).symm.trans hf
      refine lv_lload_n hx hb d_K_allowsImmediate_62 rfl (lv_at hl 1 rfl) ?_
      refine lv_ldc2 (v := 524288) hx hb hown (ht aw_134) d_K_allowsImmediate_63 ?_
      refine W.lcmp hx hb d_K_allowsImmediate_66 ?_
      refine lv_if_lt (tgt := 78) hx hb d_K_allowsImmediate_67 (by decide) (fun c_22 => ?_) (fun c_22 => ?_)
      · replace hf := (if_pos c_22).symm.trans hf
        exact J78   _  (lv_sub hl [0, 1] rfl) hf
      · replace hf := (if_neg c_22).symm.trans hf
        refine lv_lload_n hx hb d_K_allowsImmediate_70 rfl (lv_at hl 1 rfl) ?_
        refine lv_ldc2 (v := 1048576) hx hb hown (ht aw_133) d_K_allowsImmediate_71 ?_
        refine lv_lsub hx hb d_K_allowsImmediate_74 ?_
        refine lv_goto (tgt := 79) hx hb d_K_allowsImmediate_75 (by decide) ?_
        exact J79 (a0 - 1048576)  _  (lv_sub hl [0, 1] rfl) hf
  have J26 : ∀  (ls : Array Slot), lv_has ls 9 [(0, .ref (ad i)), (1, .long (a0))] → f_K_allowsImmediate_L26 i a0   = some r → pW p l e (headSpec (Cond.code y_K_allowsImmediate b_K_allowsImmediate 9 (Option.some FieldType.boolean) :: aw) ({ frames := 1, cells := 0, slots := 0, locals := 21 } : Room)).room s m ([.ref (ad i), .long (a0)] : List Value).toArray below meth c (bI r) (F0 m 26 ls []) := by
    intro   ls  hl hf
    rw [f_K_allowsImmediate_L26] at hf
    refine lv_aload_n hx hb d_K_allowsImmediate_26 rfl (lv_at hl 0 rfl) ?_
    refine lv_sipush (v := 256) hx hb d_K_allowsImmediate_27 (by decide) ?_
    obtain ⟨r_7, g_8, hf⟩ := Option.bind_eq_some_iff.mp hf
    refine ju_calli (W.runV (As := [.int (256)]) (rest := []) ⟨hx, hb, hml, hown, hts⟩ (c_K_is l (ad := ad) (sk := sk) (sv := sv) (tK := tK)  i 256 hi r_7 g_8) (cwV 1 hts (aw_V aw_116 aw_118 aw_p2 aw_12 aw_119) rfl rfl rfl (by decide +kernel) ⟨Nat.le_of_ble_eq_true rfl, Nat.le_of_ble_eq_true rfl⟩) ⟨fun a U g mk q => ⟨q.1, q.2.call⟩, tb_recvK hT hi hS, fun U hU hW => ⟨rfl, hT.at hS hU hW (fun _ z => z.elim)⟩⟩ rfl rfl hl.1 rfl (lv_room (Nat.le_of_ble_eq_true rfl)) d_K_allowsImmediate_30 ⟨Nat.le_refl _, Nat.le_refl _⟩) ?_
    refine lv_if_eq (tgt := 52) hx hb d_K_allowsImmediate_33 (by decide) (fun c_9 => ?_) (fun c_9 => ?_)
    · replace hf := (if_pos c_9).symm.trans hf
      exact J52   _  (lv_sub hl [0, 1] rfl) hf
    · replace hf := (if_neg c_9).symm.trans hf
      refine lv_lload_n hx hb d_K_allowsImmediate_36 rfl (lv_at hl 1 rfl) ?_
      refine lv_lconst (v := 0) hx hb d_K_allowsImmediate_37 (by decide) ?_
      refine W.lcmp hx hb d_K_allowsImmediate_38 ?_
      refine lv_if_lt (tgt := 50) hx hb d_K_allowsImmediate_39 (by decide) (fun c_23 => ?_) (fun c_23 => ?_)
      · replace hf := (if_pos c_23).symm.trans hf
        refine lv_iconst (v := 0) hx hb d_K_allowsImmediate_50 (by decide) ?_
        exact W.zret (v := 0) hx hb hr (ju_nz false) (fun t ht hW => ⟨congrArg (fun z => Outcome.returned (some (Value.int (bI z)))) (Option.some.inj hf), ht⟩) (fun q h => nomatch h) d_K_allowsImmediate_51
      · replace hf := (if_neg c_23).symm.trans hf
        refine lv_lload_n hx hb d_K_allowsImmediate_42 rfl (lv_at hl 1 rfl) ?_
        refine lv_ldc2 (v := 1048576) hx hb hown (ht aw_133) d_K_allowsImmediate_43 ?_
        refine W.lcmp hx hb d_K_allowsImmediate_46 ?_
        refine lv_if_lt (tgt := 52) hx hb d_K_allowsImmediate_47 (by decide) (fun c_24 => ?_) (fun c_24 => ?_)
        · replace hf := (if_pos c_24).symm.trans hf
          exact J52   _  (lv_sub hl [0, 1] rfl) hf
        · replace hf := (if_neg c_24).symm.trans hf
          refine lv_iconst (v := 0) hx hb d_K_allowsImmediate_50 (by decide) ?_
          exact W.zret (v := 0) hx hb hr (ju_nz false) (fun t ht hW => ⟨congrArg (fun z => Outcome.returned (some (Value.int (bI z)))) (Option.some.inj hf), ht⟩) (fun q h => nomatch h) d_K_allowsImmediate_51
  rw [f_K_allowsImmediate] at hf
  refine lv_aload_n hx hb d_K_allowsImmediate_0 rfl (lv_at hl 0 rfl) ?_
  refine lv_bipush (v := 8) hx hb d_K_allowsImmediate_1 (by decide) ?_
  obtain ⟨r_1, g_2, hf⟩ := Option.bind_eq_some_iff.mp hf
  refine ju_calli (W.runV (As := [.int (8)]) (rest := []) ⟨hx, hb, hml, hown, hts⟩ (c_K_has l (ad := ad) (sk := sk) (sv := sv) (tK := tK)  i 8 hi r_1 g_2) (cwV 1 hts (aw_V aw_48 aw_49 aw_50 aw_12 aw_51) rfl rfl rfl (by decide +kernel) ⟨Nat.le_of_ble_eq_true rfl, Nat.le_of_ble_eq_true rfl⟩) ⟨fun a U g mk q => ⟨q.1, q.2.call⟩, tb_recvK hT hi hS, fun U hU hW => ⟨rfl, hT.at hS hU hW (fun _ z => z.elim)⟩⟩ rfl rfl hl.1 rfl (lv_room (Nat.le_of_ble_eq_true rfl)) d_K_allowsImmediate_3 ⟨Nat.le_refl _, Nat.le_refl _⟩) ?_
  refine lv_if_eq (tgt := 24) hx hb d_K_allowsImmediate_6 (by decide) (fun c_3 => ?_) (fun c_3 => ?_)
  · replace hf := (if_pos c_3).symm.trans hf
    refine lv_iconst (v := 0) hx hb d_K_allowsImmediate_24 (by decide) ?_
    exact W.zret (v := 0) hx hb hr (ju_nz false) (fun t ht hW => ⟨congrArg (fun z => Outcome.returned (some (Value.int (bI z)))) (Option.some.inj hf), ht⟩) (fun q h => nomatch h) d_K_allowsImmediate_25
  · replace hf := (if_neg c_3).symm.trans hf
    refine lv_aload_n hx hb d_K_allowsImmediate_9 rfl (lv_at hl 0 rfl) ?_
    refine lv_bipush (v := 64) hx hb d_K_allowsImmediate_10 (by decide) ?_
    obtain ⟨r_4, g_5, hf⟩ := Option.bind_eq_some_iff.mp hf
    refine ju_calli (W.runV (As := [.int (64)]) (rest := []) ⟨hx, hb, hml, hown, hts⟩ (c_K_is l (ad := ad) (sk := sk) (sv := sv) (tK := tK)  i 64 hi r_4 g_5) (cwV 1 hts (aw_V aw_116 aw_118 aw_p2 aw_12 aw_119) rfl rfl rfl (by decide +kernel) ⟨Nat.le_of_ble_eq_true rfl, Nat.le_of_ble_eq_true rfl⟩) ⟨fun a U g mk q => ⟨q.1, q.2.call⟩, tb_recvK hT hi hS, fun U hU hW => ⟨rfl, hT.at hS hU hW (fun _ z => z.elim)⟩⟩ rfl rfl hl.1 rfl (lv_room (Nat.le_of_ble_eq_true rfl)) d_K_allowsImmediate_12 ⟨Nat.le_refl _, Nat.le_refl _⟩) ?_
    refine lv_if_eq (tgt := 26) hx hb d_K_allowsImmediate_15 (by decide) (fun c_6 => ?_) (fun c_6 => ?_)
    · replace hf := (if_pos c_6).symm.trans hf
      exact J26   _  (lv_sub hl [0, 1] rfl) hf
    · replace hf := (if_neg c_6).symm.trans hf
      refine lv_lload_n hx hb d_K_allowsImmediate_18 rfl (lv_at hl 1 rfl) ?_
      refine lv_lconst (v := 0) hx hb d_K_allowsImmediate_19 (by decide) ?_
      refine W.lcmp hx hb d_K_allowsImmediate_20 ?_
      refine lv_if_ne (tgt := 26) hx hb d_K_allowsImmediate_21 (by decide) (fun c_25 => ?_) (fun c_25 => ?_)
      · replace hf := (if_neg c_25).symm.trans hf
        exact J26   _  (lv_sub hl [0, 1] rfl) hf
      · replace hf := (if_pos c_25).symm.trans hf
        refine lv_iconst (v := 0) hx hb d_K_allowsImmediate_24 (by decide) ?_
        exact W.zret (v := 0) hx hb hr (ju_nz false) (fun t ht hW => ⟨congrArg (fun z => Outcome.returned (some (Value.int (bI z)))) (Option.some.inj hf), ht⟩) (fun q h => nomatch h) d_K_allowsImmediate_25

def f_K_allowsRegister (i : Nat) (a0 : Int32) (a1 : Int32) : Option Bool :=
  (f_K_has i a0).bind fun r_1 => if (bI r_1) = 0 then (some true) else ((f_K_isNarrow i a0).bind fun r_4 => if (bI r_4) = 0 then (if a1 = 0 then ((f_S_length (k_layout i)).bind fun r_14 => if r_14 = 32 then (some true) else ((f_K_is i 128).bind fun r_17 => if (bI r_17) = 0 then (some false) else (some true))) else (if a1 = 2 then ((f_K_is i 256).bind fun r_11 => if (bI r_11) = 0 then (some true) else (some false)) else (if a1 ≤ 0 then (some false) else (if 31 < a1 then (some false) else (some true))))) else (if a1 < 8 then (some false) else (if 15 < a1 then (some false) else (some true))))
set_option maxHeartbeats 4000000 in
set_option maxRecDepth 100000 in
theorem c_K_allowsRegister (l : Launch) {ad sk sv : Nat → Nat} {tK : Nat} (i : Nat) (a0 : Int32) (a1 : Int32) (hi : i < 75) (r : Bool) (hf : f_K_allowsRegister i a0 a1 = some r) : Met l y_K_allowsRegister (Cond.code y_K_allowsRegister b_K_allowsRegister 3 (Option.some FieldType.boolean) :: aw) ({ frames := 5, cells := 0, slots := 0, locals := 107 } : Room) (va_Pc [.ref (ad i), .int (a0), .int (a1)] (fun U => tb ad sk sv tK (fun _ => False) U U.heap)) (QcRead (bI r)) 0 0 (fun _ => False) := by
  refine Met.ofW (cc := b_K_allowsRegister) (maxL := 3) (ret := (Option.some FieldType.boolean)) (by decide) rfl ?_
  intro p e s m args below meth c s₁ B hml hv
  obtain ⟨rfl, hT⟩ := hv
  have hx := B.exec
  have hb := B.bytes
  have hr := B.returns
  have hts := atoms_spec (ws := (Cond.code y_K_allowsRegister b_K_allowsRegister 3 (Option.some FieldType.boolean) :: aw)) B.pre
  have ht : ∀ {w : Cond}, w ∈ aw → w.before ([.ref (ad i), .int (a0), .int (a1)] : List Value).toArray s = true := fun h => hts _ (List.mem_cons_of_mem _ h)
  have hown : s.vm.findClass "CodeWords$Kind" = some m.cls := findClass_of_methodNamed B.named
  have hlocks := B.notSynchronized
  have hS : va_S (fun _ => False) s.heap s.heap [] := va_S.rf
  have hl := lv_entry ([.ref (ad i), .int (a0), .int (a1)]) (n := 3) (Nat.le_of_ble_eq_true rfl)
  rw [lg_entry_eq]
  generalize (lg_sl ([.ref (ad i), .int (a0), .int (a1)]) ++ List.replicate (3 - (lg_sl ([.ref (ad i), .int (a0), .int (a1)])).length) Slot.unset).toArray = ls at hl ⊢
  have hl : lv_has ls 3 [(0, .ref (ad i)), (1, .int (a0)), (2, .int (a1))] := hl
  rw [f_K_allowsRegister] at hf
  refine lv_aload_n hx hb d_K_allowsRegister_0 rfl (lv_at hl 0 rfl) ?_
  refine lv_iload_n hx hb d_K_allowsRegister_1 rfl (lv_at hl 1 rfl) ?_
  obtain ⟨r_1, g_2, hf⟩ := Option.bind_eq_some_iff.mp hf
  refine ju_calli (W.runV (As := [.int (a0)]) (rest := []) ⟨hx, hb, hml, hown, hts⟩ (c_K_has l (ad := ad) (sk := sk) (sv := sv) (tK := tK)  i a0 hi r_1 g_2) (cwV 1 hts (aw_V aw_48 aw_49 aw_50 aw_12 aw_51) rfl rfl rfl (by decide +kernel) ⟨Nat.le_of_ble_eq_true rfl, Nat.le_of_ble_eq_true rfl⟩) ⟨fun a U g mk q => ⟨q.1, q.2.call⟩, tb_recvK hT hi hS, fun U hU hW => ⟨rfl, hT.at hS hU hW (fun _ z => z.elim)⟩⟩ rfl rfl hl.1 rfl (lv_room (Nat.le_of_ble_eq_true rfl)) d_K_allowsRegister_2 ⟨Nat.le_refl _, Nat.le_refl _⟩) ?_
  refine lv_if_ne (tgt := 10) hx hb d_K_allowsRegister_5 (by decide) (fun c_3 => ?_) (fun c_3 => ?_)
  · replace hf := (if_neg c_3).symm.trans hf
    refine lv_aload_n hx hb d_K_allowsRegister_10 rfl (lv_at hl 0 rfl) ?_
    refine lv_iload_n hx hb d_K_allowsRegister_11 rfl (lv_at hl 1 rfl) ?_
    obtain ⟨r_4, g_5, hf⟩ := Option.bind_eq_some_iff.mp hf
    refine ju_calli (W.runV (As := [.int (a0)]) (rest := []) ⟨hx, hb, hml, hown, hts⟩ (c_K_isNarrow l (ad := ad) (sk := sk) (sv := sv) (tK := tK)  i a0 hi r_4 g_5) (cwV 1 hts (aw_V aw_57 aw_59 aw_p1 aw_12 aw_60) rfl rfl rfl (by decide +kernel) ⟨Nat.le_of_ble_eq_true rfl, Nat.le_of_ble_eq_true rfl⟩) ⟨fun a U g mk q => ⟨q.1, q.2.call⟩, tb_recvK hT hi hS, fun U hU hW => ⟨rfl, hT.at hS hU hW (fun _ z => z.elim)⟩⟩ rfl rfl hl.1 rfl (lv_room (Nat.le_of_ble_eq_true rfl)) d_K_allowsRegister_12 ⟨Nat.le_refl _, Nat.le_refl _⟩) ?_
    refine lv_if_eq (tgt := 36) hx hb d_K_allowsRegister_15 (by decide) (fun c_6 => ?_) (fun c_6 => ?_)
    · replace hf := (if_pos c_6).symm.trans hf
      refine lv_iload_n hx hb d_K_allowsRegister_36 rfl (lv_at hl 2 rfl) ?_
      refine lv_if_ne (tgt := 68) hx hb d_K_allowsRegister_37 (by decide) (fun c_7 => ?_) (fun c_7 => ?_)
      · replace hf := (if_neg c_7).symm.trans hf
        refine lv_iload_n hx hb d_K_allowsRegister_68 rfl (lv_at hl 2 rfl) ?_
        refine lv_iconst (v := 2) hx hb d_K_allowsRegister_69 (by decide) ?_
        refine lv_icmp_ne (tgt := 89) hx hb d_K_allowsRegister_70 (by decide) (fun c_8 => ?_) (fun c_8 => ?_)
        · replace hf := (if_neg c_8).symm.trans hf
          refine lv_iload_n hx hb d_K_allowsRegister_89 rfl (lv_at hl 2 rfl) ?_
          refine lv_if_le (tgt := 103) hx hb d_K_allowsRegister_90 (by decide) (fun c_9 => ?_) (fun c_9 => ?_)
          · replace hf := (if_pos c_9).symm.trans hf
            refine lv_iconst (v := 0) hx hb d_K_allowsRegister_103 (by decide) ?_
            exact W.zret (v := 0) hx hb hr (ju_nz false) (fun t ht hW => ⟨congrArg (fun z => Outcome.returned (some (Value.int (bI z)))) (Option.some.inj hf), ht⟩) (fun q h => nomatch h) d_K_allowsRegister_104
          · replace hf := (if_neg c_9).symm.trans hf
            refine lv_iload_n hx hb d_K_allowsRegister_93 rfl (lv_at hl 2 rfl) ?_
            refine lv_bipush (v := 31) hx hb d_K_allowsRegister_94 (by decide) ?_
            refine lv_icmp_gt (tgt := 103) hx hb d_K_allowsRegister_96 (by decide) (fun c_10 => ?_) (fun c_10 => ?_)
            · replace hf := (if_pos c_10).symm.trans hf
              refine lv_iconst (v := 0) hx hb d_K_allowsRegister_103 (by decide) ?_
              exact W.zret (v := 0) hx hb hr (ju_nz false) (fun t ht hW => ⟨congrArg (fun z => Outcome.returned (some (Value.int (bI z)))) (Option.some.inj hf), ht⟩) (fun q h => nomatch h) d_K_allowsRegister_104
            · replace hf := (if_neg c_10).symm.trans hf
              refine lv_iconst (v := 1) hx hb d_K_allowsRegister_99 (by decide) ?_
              refine lv_goto (tgt := 104) hx hb d_K_allowsRegister_100 (by decide) ?_
              exact W.zret (v := 1) hx hb hr (ju_nz true) (fun t ht hW => ⟨congrArg (fun z => Outcome.returned (some (Value.int (bI z)))) (Option.some.inj hf), ht⟩) (fun q h => nomatch h) d_K_allowsRegister_104
        · replace hf := (if_pos c_8).symm.trans hf
          refine lv_aload_n hx hb d_K_allowsRegister_73 rfl (lv_at hl 0 rfl) ?_
          refine lv_sipush (v := 256) hx hb d_K_allowsRegister_74 (by decide) ?_
          obtain ⟨r_11, g_12, hf⟩ := Option.bind_eq_some_iff.mp hf
          refine ju_calli (W.runV (As := [.int (256)]) (rest := []) ⟨hx, hb, hml, hown, hts⟩ (c_K_is l (ad := ad) (sk := sk) (sv := sv) (tK := tK)  i 256 hi r_11 g_12) (cwV 1 hts (aw_V aw_116 aw_118 aw_p2 aw_12 aw_119) rfl rfl rfl (by decide +kernel) ⟨Nat.le_of_ble_eq_true rfl, Nat.le_of_ble_eq_true rfl⟩) ⟨fun a U g mk q => ⟨q.1, q.2.call⟩, tb_recvK hT hi hS, fun U hU hW => ⟨rfl, hT.at hS hU hW (fun _ z => z.elim)⟩⟩ rfl rfl hl.1 rfl (lv_room (Nat.le_of_ble_eq_true rfl)) d_K_allowsRegister_77 ⟨Nat.le_refl _, Nat.le_refl _⟩) ?_
          refine lv_if_ne (tgt := 87) hx hb d_K_allowsRegister_80 (by decide) (fun c_13 => ?_) (fun c_13 => ?_)
          · replace hf := (if_neg c_13).symm.trans hf
            refine lv_iconst (v := 0) hx hb d_K_allowsRegister_87 (by decide) ?_
            exact W.zret (v := 0) hx hb hr (ju_nz false) (fun t ht hW => ⟨congrArg (fun z => Outcome.returned (some (Value.int (bI z)))) (Option.some.inj hf), ht⟩) (fun q h => nomatch h) d_K_allowsRegister_88
          · replace hf := (if_pos c_13).symm.trans hf
            refine lv_iconst (v := 1) hx hb d_K_allowsRegister_83 (by decide) ?_
            refine lv_goto (tgt := 88) hx hb d_K_allowsRegister_84 (by decide) ?_
            exact W.zret (v := 1) hx hb hr (ju_nz true) (fun t ht hW => ⟨congrArg (fun z => Outcome.returned (some (Value.int (bI z)))) (Option.some.inj hf), ht⟩) (fun q h => nomatch h) d_K_allowsRegister_88
      · replace hf := (if_pos c_7).symm.trans hf
        refine lv_aload_n hx hb d_K_allowsRegister_40 rfl (lv_at hl 0 rfl) ?_
        refine vk_getf (v := .ref (sk (k_layout i))) hx hb (tb_layout hT hi) hS hown (ht aw_763) (fun _ h9 => h9) d_K_allowsRegister_41 ?_
        obtain ⟨r_14, g_15, hf⟩ := Option.bind_eq_some_iff.mp hf
        refine ju_calli (W.runV (As := []) (rest := []) ⟨hx, hb, hml, hown, hts⟩ (c_S_length l (ad := ad) (sk := sk) (sv := sv) (tK := tK)  (k_layout i) (k_layout_lt hi) r_14 g_15) (cwV 0 hts (aw_V aw_61 aw_62 aw_63 aw_7 aw_64) rfl rfl rfl (by decide +kernel) ⟨Nat.le_of_ble_eq_true rfl, Nat.le_of_ble_eq_true rfl⟩) ⟨fun a U g mk q => ⟨q.1, q.2.call⟩, tb_recvS hT (k_layout_lt hi) hS, fun U hU hW => ⟨rfl, hT.at hS hU hW (fun _ z => z.elim)⟩⟩ rfl rfl hl.1 rfl (lv_room (Nat.le_of_ble_eq_true rfl)) d_K_allowsRegister_44 ⟨Nat.le_refl _, Nat.le_refl _⟩) ?_
        refine lv_bipush (v := 32) hx hb d_K_allowsRegister_47 (by decide) ?_
        refine lv_icmp_eq (tgt := 62) hx hb d_K_allowsRegister_49 (by decide) (fun c_16 => ?_) (fun c_16 => ?_)
        · replace hf := (if_pos c_16).symm.trans hf
          refine lv_iconst (v := 1) hx hb d_K_allowsRegister_62 (by decide) ?_
          refine lv_goto (tgt := 67) hx hb d_K_allowsRegister_63 (by decide) ?_
          exact W.zret (v := 1) hx hb hr (ju_nz true) (fun t ht hW => ⟨congrArg (fun z => Outcome.returned (some (Value.int (bI z)))) (Option.some.inj hf), ht⟩) (fun q h => nomatch h) d_K_allowsRegister_67
        · replace hf := (if_neg c_16).symm.trans hf
          refine lv_aload_n hx hb d_K_allowsRegister_52 rfl (lv_at hl 0 rfl) ?_
          refine lv_sipush (v := 128) hx hb d_K_allowsRegister_53 (by decide) ?_
          obtain ⟨r_17, g_18, hf⟩ := Option.bind_eq_some_iff.mp hf
          refine ju_calli (W.runV (As := [.int (128)]) (rest := []) ⟨hx, hb, hml, hown, hts⟩ (c_K_is l (ad := ad) (sk := sk) (sv := sv) (tK := tK)  i 128 hi r_17 g_18) (cwV 1 hts (aw_V aw_116 aw_118 aw_p2 aw_12 aw_119) rfl rfl rfl (by decide +kernel) ⟨Nat.le_of_ble_eq_true rfl, Nat.le_of_ble_eq_true rfl⟩) ⟨fun a U g mk q => ⟨q.1, q.2.call⟩, tb_recvK hT hi hS, fun U hU hW => ⟨rfl, hT.at hS hU hW (fun _ z => z.elim)⟩⟩ rfl rfl hl.1 rfl (lv_room (Nat.le_of_ble_eq_true rfl)) d_K_allowsRegister_56 ⟨Nat.le_refl _, Nat.le_refl _⟩) ?_
          refine lv_if_eq (tgt := 66) hx hb d_K_allowsRegister_59 (by decide) (fun c_19 => ?_) (fun c_19 => ?_)
          · replace hf := (if_pos c_19).symm.trans hf
            refine lv_iconst (v := 0) hx hb d_K_allowsRegister_66 (by decide) ?_
            exact W.zret (v := 0) hx hb hr (ju_nz false) (fun t ht hW => ⟨congrArg (fun z => Outcome.returned (some (Value.int (bI z)))) (Option.some.inj hf), ht⟩) (fun q h => nomatch h) d_K_allowsRegister_67
          · replace hf := (if_neg c_19).symm.trans hf
            refine lv_iconst (v := 1) hx hb d_K_allowsRegister_62 (by decide) ?_
            refine lv_goto (tgt := 67) hx hb d_K_allowsRegister_63 (by decide) ?_
            exact W.zret (v := 1) hx hb hr (ju_nz true) (fun t ht hW => ⟨congrArg (fun z => Outcome.returned (some (Value.int (bI z)))) (Option.some.inj hf), ht⟩) (fun q h => nomatch h) d_K_allowsRegister_67
    · replace hf := (if_neg c_6).symm.trans hf
      refine lv_iload_n hx hb d_K_allowsRegister_18 rfl (lv_at hl 2 rfl) ?_
      refine lv_bipush (v := 8) hx hb d_K_allowsRegister_19 (by decide) ?_
      refine lv_icmp_lt (tgt := 34) hx hb d_K_allowsRegister_21 (by decide) (fun c_20 => ?_) (fun c_20 => ?_)
      · replace hf := (if_pos c_20).symm.trans hf
        refine lv_iconst (v := 0) hx hb d_K_allowsRegister_34 (by decide) ?_
        exact W.zret (v := 0) hx hb hr (ju_nz false) (fun t ht hW => ⟨congrArg (fun z => Outcome.returned (some (Value.int (bI z)))) (Option.some.inj hf), ht⟩) (fun q h => nomatch h) d_K_allowsRegister_35
      · replace hf := (if_neg c_20).symm.trans hf
        refine lv_iload_n hx hb d_K_allowsRegister_24 rfl (lv_at hl 2 rfl) ?_
        refine lv_bipush (v := 15) hx hb d_K_allowsRegister_25 (by decide) ?_
        refine lv_icmp_gt (tgt := 34) hx hb d_K_allowsRegister_27 (by decide) (fun c_21 => ?_) (fun c_21 => ?_)
        · replace hf := (if_pos c_21).symm.trans hf
          refine lv_iconst (v := 0) hx hb d_K_allowsRegister_34 (by decide) ?_
          exact W.zret (v := 0) hx hb hr (ju_nz false) (fun t ht hW => ⟨congrArg (fun z => Outcome.returned (some (Value.int (bI z)))) (Option.some.inj hf), ht⟩) (fun q h => nomatch h) d_K_allowsRegister_35
        · replace hf := (if_neg c_21).symm.trans hf
          refine lv_iconst (v := 1) hx hb d_K_allowsRegister_30 (by decide) ?_
          refine lv_goto (tgt := 35) hx hb d_K_allowsRegister_31 (by decide) ?_
          exact W.zret (v := 1) hx hb hr (ju_nz true) (fun t ht hW => ⟨congrArg (fun z => Outcome.returned (some (Value.int (bI z)))) (Option.some.inj hf), ht⟩) (fun q h => nomatch h) d_K_allowsRegister_35
  · replace hf := (if_pos c_3).symm.trans hf
    refine lv_iconst (v := 1) hx hb d_K_allowsRegister_8 (by decide) ?_
    exact W.zret (v := 1) hx hb hr (ju_nz true) (fun t ht hW => ⟨congrArg (fun z => Outcome.returned (some (Value.int (bI z)))) (Option.some.inj hf), ht⟩) (fun q h => nomatch h) d_K_allowsRegister_9

def f_K_immediate_L105 (i : Nat) (a0 : Int32)  (x2 : Int32) (x3 : Int32) : Option (Int32) :=
  (f_K_is i 256).bind fun r_10 => if (bI r_10) = 0 then (some (x2)) else (some (x2 &&& 1048575))
def f_K_immediate_L15 (i : Nat) (a0 : Int32)  : Nat → Int32 → Int32 → Option (Int32)
  | 0, _, _ => none
  | n + 1, x2, x3 =>
    (f_S_length (k_layout i)).bind fun r_4 => if r_4 ≤ x3 then ((f_K_is i 32).bind fun r_7 => if (bI r_7) = 0 then (f_K_immediate_L105 i a0  x2 x3) else (if ((x2 >>> ((k_highestBit i) &&& 31)) &&& 1) = 0 then (f_K_immediate_L105 i a0  x2 x3) else (f_K_immediate_L105 i a0  (x2 - ((2 : Int32) <<< ((k_highestBit i) &&& 31))) x3))) else ((f_S_charAt (k_layout i) x3).bind fun r_14 => (f_K_partOf r_14).bind fun r_16 => if r_16 = 8 then ((f_S_length (k_layout i)).bind fun r_19 => f_K_immediate_L15 i a0  n (x2 ||| (((ju_ushr a0 ((r_19 - 1) - x3)) &&& 1) <<< ((r_14 - 65) &&& 31))) (x3 + 1)) else (f_K_immediate_L15 i a0  n x2 (x3 + 1)))
def f_K_immediate (i : Nat) (a0 : Int32) : Option Int32 :=
  (f_K_has i 8).bind fun r_1 => if (bI r_1) = 0 then (some (0)) else (f_K_immediate_L15 i a0  40 0 0)
set_option maxHeartbeats 4000000 in
set_option maxRecDepth 100000 in
theorem c_K_immediate (l : Launch) {ad sk sv : Nat → Nat} {tK : Nat} (i : Nat) (a0 : Int32) (hi : i < 75) (r : Int32) (hf : f_K_immediate i a0 = some r) : Met l y_K_immediate (Cond.code y_K_immediate b_K_immediate 5 (Option.some FieldType.int) :: aw) ({ frames := 4, cells := 0, slots := 0, locals := 85 } : Room) (va_Pc [.ref (ad i), .int (a0)] (fun U => tb ad sk sv tK (fun _ => False) U U.heap)) (QcRead r) 0 0 (fun _ => False) := by
  refine Met.ofW (cc := b_K_immediate) (maxL := 5) (ret := (Option.some FieldType.int)) (by decide) rfl ?_
  intro p e s m args below meth c s₁ B hml hv
  obtain ⟨rfl, hT⟩ := hv
  have hx := B.exec
  have hb := B.bytes
  have hr := B.returns
  have hts := atoms_spec (ws := (Cond.code y_K_immediate b_K_immediate 5 (Option.some FieldType.int) :: aw)) B.pre
  have ht : ∀ {w : Cond}, w ∈ aw → w.before ([.ref (ad i), .int (a0)] : List Value).toArray s = true := fun h => hts _ (List.mem_cons_of_mem _ h)
  have hown : s.vm.findClass "CodeWords$Kind" = some m.cls := findClass_of_methodNamed B.named
  have hlocks := B.notSynchronized
  have hS : va_S (fun _ => False) s.heap s.heap [] := va_S.rf
  have hl := lv_entry ([.ref (ad i), .int (a0)]) (n := 5) (Nat.le_of_ble_eq_true rfl)
  rw [lg_entry_eq]
  generalize (lg_sl ([.ref (ad i), .int (a0)]) ++ List.replicate (5 - (lg_sl ([.ref (ad i), .int (a0)])).length) Slot.unset).toArray = ls at hl ⊢
  have hl : lv_has ls 5 [(0, .ref (ad i)), (1, .int (a0))] := hl
  have J105 : ∀ (x2 : Int32) (x3 : Int32) (ls : Array Slot), lv_has ls 5 [(0, .ref (ad i)), (1, .int (a0)), (2, .int (x2)), (3, .int (x3))] → f_K_immediate_L105 i a0  x2 x3 = some r → pW p l e (headSpec (Cond.code y_K_immediate b_K_immediate 5 (Option.some FieldType.int) :: aw) ({ frames := 4, cells := 0, slots := 0, locals := 85 } : Room)).room s m ([.ref (ad i), .int (a0)] : List Value).toArray below meth c r (F0 m 105 ls []) := by
    intro x2 x3  ls  hl hf
    rw [f_K_immediate_L105] at hf
    refine lv_aload_n hx hb d_K_immediate_105 rfl (lv_at hl 0 rfl) ?_
    refine lv_sipush (v := 256) hx hb d_K_immediate_106 (by decide) ?_
    obtain ⟨r_10, g_11, hf⟩ := Option.bind_eq_some_iff.mp hf
    refine ju_calli (W.runV (As := [.int (256)]) (rest := []) ⟨hx, hb, hml, hown, hts⟩ (c_K_is l (ad := ad) (sk := sk) (sv := sv) (tK := tK)  i 256 hi r_10 g_11) (cwV 1 hts (aw_V aw_116 aw_118 aw_p2 aw_12 aw_119) rfl rfl rfl (by decide +kernel) ⟨Nat.le_of_ble_eq_true rfl, Nat.le_of_ble_eq_true rfl⟩) ⟨fun a U g mk q => ⟨q.1, q.2.call⟩, tb_recvK hT hi hS, fun U hU hW => ⟨rfl, hT.at hS hU hW (fun _ z => z.elim)⟩⟩ rfl rfl hl.1 rfl (lv_room (Nat.le_of_ble_eq_true rfl)) d_K_immediate_109 ⟨Nat.le_refl _, Nat.le_refl _⟩) ?_
    refine lv_if_eq (tgt := 123) hx hb d_K_immediate_112 (by decide) (fun c_12 => ?_) (fun c_12 => ?_)
    · replace hf := (if_pos c_12).symm.trans hf
      refine lv_iload_n hx hb d_K_immediate_123 rfl (lv_at hl 2 rfl) ?_
      exact W.iret (v := x2) hx hb hr (fun t ht hW => ⟨congrArg (fun z => Outcome.returned (some (Value.int z))) (Option.some.inj hf), ht⟩) (fun q h => nomatch h) d_K_immediate_124
    · replace hf := (if_neg c_12).symm.trans hf
      refine lv_iload_n hx hb d_K_immediate_115 rfl (lv_at hl 2 rfl) ?_
      refine lv_ldcw (v := 1048575) hx hb hown (ht aw_120) d_K_immediate_116 ?_
      refine lv_iand hx hb d_K_immediate_119 ?_
      refine lv_goto (tgt := 124) hx hb d_K_immediate_120 (by decide) ?_
      exact W.iret (v := x2 &&& 1048575) hx hb hr (fun t ht hW => ⟨congrArg (fun z => Outcome.returned (some (Value.int z))) (Option.some.inj hf), ht⟩) (fun q h => nomatch h) d_K_immediate_124
  have J15 : ∀ (n : Nat) (x2 : Int32) (x3 : Int32) (ls : Array Slot), lv_has ls 5 [(0, .ref (ad i)), (1, .int (a0)), (2, .int (x2)), (3, .int (x3))] → f_K_immediate_L15 i a0  n x2 x3 = some r → pW p l e (headSpec (Cond.code y_K_immediate b_K_immediate 5 (Option.some FieldType.int) :: aw) ({ frames := 4, cells := 0, slots := 0, locals := 85 } : Room)).room s m ([.ref (ad i), .int (a0)] : List Value).toArray below meth c r (F0 m 15 ls []) := by
    intro n
    induction n with
    | zero =>
      intro x2 x3  ls  hl hf
      rw [f_K_immediate_L15] at hf
      cases hf
    | succ n ih =>
      intro x2 x3  ls  hl hf
      rw [f_K_immediate_L15] at hf
      refine lv_iload_n hx hb d_K_immediate_15 rfl (lv_at hl 3 rfl) ?_
      refine lv_aload_n hx hb d_K_immediate_16 rfl (lv_at hl 0 rfl) ?_
      refine vk_getf (v := .ref (sk (k_layout i))) hx hb (tb_layout hT hi) hS hown (ht aw_763) (fun _ h9 => h9) d_K_immediate_17 ?_
      obtain ⟨r_4, g_5, hf⟩ := Option.bind_eq_some_iff.mp hf
      refine ju_calli (W.runV (As := []) (rest := [.int (x3)]) ⟨hx, hb, hml, hown, hts⟩ (c_S_length l (ad := ad) (sk := sk) (sv := sv) (tK := tK)  (k_layout i) (k_layout_lt hi) r_4 g_5) (cwV 0 hts (aw_V aw_61 aw_62 aw_63 aw_7 aw_64) rfl rfl rfl (by decide +kernel) ⟨Nat.le_of_ble_eq_true rfl, Nat.le_of_ble_eq_true rfl⟩) ⟨fun a U g mk q => ⟨q.1, q.2.call⟩, tb_recvS hT (k_layout_lt hi) hS, fun U hU hW => ⟨rfl, hT.at hS hU hW (fun _ z => z.elim)⟩⟩ rfl rfl hl.1 rfl (lv_room (Nat.le_of_ble_eq_true rfl)) d_K_immediate_20 ⟨Nat.le_refl _, Nat.le_refl _⟩) ?_
      refine lv_icmp_ge (tgt := 76) hx hb d_K_immediate_23 (by decide) (fun c_6 => ?_) (fun c_6 => ?_)
      · replace hf := (if_pos c_6).symm.trans hf
        refine lv_aload_n hx hb d_K_immediate_76 rfl (lv_at hl 0 rfl) ?_
        refine lv_bipush (v := 32) hx hb d_K_immediate_77 (by decide) ?_
        obtain ⟨r_7, g_8, hf⟩ := Option.bind_eq_some_iff.mp hf
        refine ju_calli (W.runV (As := [.int (32)]) (rest := []) ⟨hx, hb, hml, hown, hts⟩ (c_K_is l (ad := ad) (sk := sk) (sv := sv) (tK := tK)  i 32 hi r_7 g_8) (cwV 1 hts (aw_V aw_116 aw_118 aw_p2 aw_12 aw_119) rfl rfl rfl (by decide +kernel) ⟨Nat.le_of_ble_eq_true rfl, Nat.le_of_ble_eq_true rfl⟩) ⟨fun a U g mk q => ⟨q.1, q.2.call⟩, tb_recvK hT hi hS, fun U hU hW => ⟨rfl, hT.at hS hU hW (fun _ z => z.elim)⟩⟩ rfl rfl hl.1 rfl (lv_room (Nat.le_of_ble_eq_true rfl)) d_K_immediate_79 ⟨Nat.le_refl _, Nat.le_refl _⟩) ?_
        refine lv_if_eq (tgt := 105) hx hb d_K_immediate_82 (by decide) (fun c_9 => ?_) (fun c_9 => ?_)
        · replace hf := (if_pos c_9).symm.trans hf
          exact J105 x2 x3  _  (lv_sub hl [0, 1, 2, 3] rfl) hf
        · replace hf := (if_neg c_9).symm.trans hf
          refine lv_iload_n hx hb d_K_immediate_85 rfl (lv_at hl 2 rfl) ?_
          refine lv_aload_n hx hb d_K_immediate_86 rfl (lv_at hl 0 rfl) ?_
          refine vk_getf (v := .int (k_highestBit i)) hx hb (tb_highestBit hT hi) hS hown (ht aw_770) (fun _ h9 => h9) d_K_immediate_87 ?_
          refine lv_ishr hx hb d_K_immediate_90 ?_
          refine lv_iconst (v := 1) hx hb d_K_immediate_91 (by decide) ?_
          refine lv_iand hx hb d_K_immediate_92 ?_
          refine lv_if_eq (tgt := 105) hx hb d_K_immediate_93 (by decide) (fun c_13 => ?_) (fun c_13 => ?_)
          · replace hf := (if_pos c_13).symm.trans hf
            exact J105 x2 x3  _  (lv_sub hl [0, 1, 2, 3] rfl) hf
          · replace hf := (if_neg c_13).symm.trans hf
            refine lv_iload_n hx hb d_K_immediate_96 rfl (lv_at hl 2 rfl) ?_
            refine lv_iconst (v := 2) hx hb d_K_immediate_97 (by decide) ?_
            refine lv_aload_n hx hb d_K_immediate_98 rfl (lv_at hl 0 rfl) ?_
            refine vk_getf (v := .int (k_highestBit i)) hx hb (tb_highestBit hT hi) hS hown (ht aw_770) (fun _ h9 => h9) d_K_immediate_99 ?_
            refine lv_ishl hx hb d_K_immediate_102 ?_
            refine lv_isub hx hb d_K_immediate_103 ?_
            refine lv_istore_n (lv' := [(2, .int (x2 - ((2 : Int32) <<< ((k_highestBit i) &&& 31)))), (0, .ref (ad i)), (1, .int (a0)), (3, .int (x3))]) hx hb d_K_immediate_104 rfl hl (by decide) rfl (fun ls hl => ?_)
            exact J105 (x2 - ((2 : Int32) <<< ((k_highestBit i) &&& 31))) x3  _  (lv_sub hl [1, 2, 0, 3] rfl) hf
      · replace hf := (if_neg c_6).symm.trans hf
        refine lv_aload_n hx hb d_K_immediate_26 rfl (lv_at hl 0 rfl) ?_
        refine vk_getf (v := .ref (sk (k_layout i))) hx hb (tb_layout hT hi) hS hown (ht aw_763) (fun _ h9 => h9) d_K_immediate_27 ?_
        refine lv_iload_n hx hb d_K_immediate_30 rfl (lv_at hl 3 rfl) ?_
        obtain ⟨r_14, g_15, hf⟩ := Option.bind_eq_some_iff.mp hf
        refine ju_calli (W.runV (As := [.int (x3)]) (rest := []) ⟨hx, hb, hml, hown, hts⟩ (c_S_charAt l (ad := ad) (sk := sk) (sv := sv) (tK := tK)  (k_layout i) x3 (k_layout_lt hi) r_14 g_15) (cwV 1 hts (aw_V aw_71 aw_72 aw_73 aw_7 aw_74) rfl rfl rfl (by decide +kernel) ⟨Nat.le_of_ble_eq_true rfl, Nat.le_of_ble_eq_true rfl⟩) ⟨fun a U g mk q => ⟨q.1, q.2.call⟩, tb_recvS hT (k_layout_lt hi) hS, fun U hU hW => ⟨rfl, hT.at hS hU hW (fun _ z => z.elim)⟩⟩ rfl rfl hl.1 rfl (lv_room (Nat.le_of_ble_eq_true rfl)) d_K_immediate_31 ⟨Nat.le_refl _, Nat.le_refl _⟩) ?_
        refine lv_istore (lv' := [(4, .int (r_14)), (0, .ref (ad i)), (1, .int (a0)), (2, .int (x2)), (3, .int (x3))]) hx hb d_K_immediate_34 hl (by decide) rfl (fun ls hl => ?_)
        refine lv_iload hx hb d_K_immediate_36 (lv_at hl 0 rfl) ?_
        obtain ⟨r_16, g_17, hf⟩ := Option.bind_eq_some_iff.mp hf
        refine ju_calli (W.runS (As := [.int (r_14)]) (rest := []) ⟨hx, hb, hml, hown, hts⟩ (c_K_partOf l (ad := ad) (sk := sk) (sv := sv) (tK := tK)  r_14  r_16 g_17) (va_cwS 1 hts (aw_S aw_109 aw_110 aw_12 aw_111) rfl rfl rfl (by decide +kernel) ⟨Nat.le_of_ble_eq_true rfl, Nat.le_of_ble_eq_true rfl⟩) ⟨fun a U g mk q => ⟨q.1, q.2.call⟩, fun U hU hW => ⟨rfl, hT.at hS hU hW (fun _ z => z.elim)⟩⟩ rfl rfl hl.1 rfl (lv_room (Nat.le_of_ble_eq_true rfl)) d_K_immediate_38 ⟨Nat.le_refl _, Nat.le_refl _⟩) ?_
        refine lv_bipush (v := 8) hx hb d_K_immediate_41 (by decide) ?_
        refine lv_icmp_ne (tgt := 70) hx hb d_K_immediate_43 (by decide) (fun c_18 => ?_) (fun c_18 => ?_)
        · replace hf := (if_neg c_18).symm.trans hf
          refine lv_iinc (v := x3 + 1) (lv' := [(3, .int (x3 + 1)), (4, .int (r_14)), (0, .ref (ad i)), (1, .int (a0)), (2, .int (x2))]) hx hb d_K_immediate_70 hl (k := 4) rfl rfl (by decide) rfl (fun ls hl => ?_)
          refine lv_goto (tgt := 15) hx hb d_K_immediate_73 (by decide) ?_
          exact ih x2 (x3 + 1)  _  (lv_sub hl [2, 3, 4, 0] rfl) hf
        · replace hf := (if_pos c_18).symm.trans hf
          refine lv_iload_n hx hb d_K_immediate_46 rfl (lv_at hl 3 rfl) ?_
          refine lv_iload_n hx hb d_K_immediate_47 rfl (lv_at hl 2 rfl) ?_
          refine lv_aload_n hx hb d_K_immediate_48 rfl (lv_at hl 1 rfl) ?_
          refine vk_getf (v := .ref (sk (k_layout i))) hx hb (tb_layout hT hi) hS hown (ht aw_763) (fun _ h9 => h9) d_K_immediate_49 ?_
          obtain ⟨r_19, g_20, hf⟩ := Option.bind_eq_some_iff.mp hf
          refine ju_calli (W.runV (As := []) (rest := [.int (a0), .int (x2)]) ⟨hx, hb, hml, hown, hts⟩ (c_S_length l (ad := ad) (sk := sk) (sv := sv) (tK := tK)  (k_layout i) (k_layout_lt hi) r_19 g_20) (cwV 0 hts (aw_V aw_61 aw_62 aw_63 aw_7 aw_64) rfl rfl rfl (by decide +kernel) ⟨Nat.le_of_ble_eq_true rfl, Nat.le_of_ble_eq_true rfl⟩) ⟨fun a U g mk q => ⟨q.1, q.2.call⟩, tb_recvS hT (k_layout_lt hi) hS, fun U hU hW => ⟨rfl, hT.at hS hU hW (fun _ z => z.elim)⟩⟩ rfl rfl hl.1 rfl (lv_room (Nat.le_of_ble_eq_true rfl)) d_K_immediate_52 ⟨Nat.le_refl _, Nat.le_refl _⟩) ?_
          refine lv_iconst (v := 1) hx hb d_K_immediate_55 (by decide) ?_
          refine lv_isub hx hb d_K_immediate_56 ?_
          refine lv_iload_n hx hb d_K_immediate_57 rfl (lv_at hl 4 rfl) ?_
          refine lv_isub hx hb d_K_immediate_58 ?_
          refine lv_iushr (v := ju_ushr a0 ((r_19 - 1) - x3)) hx hb d_K_immediate_59 rfl ?_
          refine lv_iconst (v := 1) hx hb d_K_immediate_60 (by decide) ?_
          refine lv_iand hx hb d_K_immediate_61 ?_
          refine lv_iload hx hb d_K_immediate_62 (lv_at hl 0 rfl) ?_
          refine lv_bipush (v := 65) hx hb d_K_immediate_64 (by decide) ?_
          refine lv_isub hx hb d_K_immediate_66 ?_
          refine lv_ishl hx hb d_K_immediate_67 ?_
          refine lv_ior hx hb d_K_immediate_68 ?_
          refine lv_istore_n (lv' := [(2, .int (x2 ||| (((ju_ushr a0 ((r_19 - 1) - x3)) &&& 1) <<< ((r_14 - 65) &&& 31)))), (4, .int (r_14)), (0, .ref (ad i)), (1, .int (a0)), (3, .int (x3))]) hx hb d_K_immediate_69 rfl hl (by decide) rfl (fun ls hl => ?_)
          refine lv_iinc (v := x3 + 1) (lv' := [(3, .int (x3 + 1)), (2, .int (x2 ||| (((ju_ushr a0 ((r_19 - 1) - x3)) &&& 1) <<< ((r_14 - 65) &&& 31)))), (4, .int (r_14)), (0, .ref (ad i)), (1, .int (a0))]) hx hb d_K_immediate_70 hl (k := 4) rfl rfl (by decide) rfl (fun ls hl => ?_)
          refine lv_goto (tgt := 15) hx hb d_K_immediate_73 (by decide) ?_
          exact ih (x2 ||| (((ju_ushr a0 ((r_19 - 1) - x3)) &&& 1) <<< ((r_14 - 65) &&& 31))) (x3 + 1)  _  (lv_sub hl [3, 4, 1, 0] rfl) hf
  rw [f_K_immediate] at hf
  refine lv_aload_n hx hb d_K_immediate_0 rfl (lv_at hl 0 rfl) ?_
  refine lv_bipush (v := 8) hx hb d_K_immediate_1 (by decide) ?_
  obtain ⟨r_1, g_2, hf⟩ := Option.bind_eq_some_iff.mp hf
  refine ju_calli (W.runV (As := [.int (8)]) (rest := []) ⟨hx, hb, hml, hown, hts⟩ (c_K_has l (ad := ad) (sk := sk) (sv := sv) (tK := tK)  i 8 hi r_1 g_2) (cwV 1 hts (aw_V aw_48 aw_49 aw_50 aw_12 aw_51) rfl rfl rfl (by decide +kernel) ⟨Nat.le_of_ble_eq_true rfl, Nat.le_of_ble_eq_true rfl⟩) ⟨fun a U g mk q => ⟨q.1, q.2.call⟩, tb_recvK hT hi hS, fun U hU hW => ⟨rfl, hT.at hS hU hW (fun _ z => z.elim)⟩⟩ rfl rfl hl.1 rfl (lv_room (Nat.le_of_ble_eq_true rfl)) d_K_immediate_3 ⟨Nat.le_refl _, Nat.le_refl _⟩) ?_
  refine lv_if_ne (tgt := 11) hx hb d_K_immediate_6 (by decide) (fun c_3 => ?_) (fun c_3 => ?_)
  · replace hf := (if_neg c_3).symm.trans hf
    refine lv_iconst (v := 0) hx hb d_K_immediate_11 (by decide) ?_
    refine lv_istore_n (lv' := [(2, .int (0)), (0, .ref (ad i)), (1, .int (a0))]) hx hb d_K_immediate_12 rfl hl (by decide) rfl (fun ls hl => ?_)
    refine lv_iconst (v := 0) hx hb d_K_immediate_13 (by decide) ?_
    refine lv_istore_n (lv' := [(3, .int (0)), (2, .int (0)), (0, .ref (ad i)), (1, .int (a0))]) hx hb d_K_immediate_14 rfl hl (by decide) rfl (fun ls hl => ?_)
    exact J15 40 0 0  _  (lv_sub hl [2, 3, 1, 0] rfl) hf
  · replace hf := (if_pos c_3).symm.trans hf
    refine lv_iconst (v := 0) hx hb d_K_immediate_9 (by decide) ?_
    exact W.iret (v := 0) hx hb hr (fun t ht hW => ⟨congrArg (fun z => Outcome.returned (some (Value.int z))) (Option.some.inj hf), ht⟩) (fun q h => nomatch h) d_K_immediate_10

def f_K_immediateBits_L4 (i : Nat) (a0 : Int32)  : Nat → Int32 → Int32 → Option (Int32)
  | 0, _, _ => none
  | n + 1, x2, x3 =>
    (f_K_has i 8).bind fun r_1 => if (bI r_1) = 0 then (some (x2)) else ((f_S_length (k_layout i)).bind fun r_4 => if r_4 ≤ x3 then (some (x2)) else ((f_S_charAt (k_layout i) x3).bind fun r_7 => (f_K_partOf r_7).bind fun r_9 => if r_9 = 8 then ((f_S_length (k_layout i)).bind fun r_12 => f_K_immediateBits_L4 i a0  n (x2 ||| (((a0 >>> ((r_7 - 65) &&& 31)) &&& 1) <<< (((r_12 - 1) - x3) &&& 31))) (x3 + 1)) else (f_K_immediateBits_L4 i a0  n x2 (x3 + 1))))
def f_K_immediateBits (i : Nat) (a0 : Int32) : Option Int32 :=
  f_K_immediateBits_L4 i a0  40 0 0
set_option maxHeartbeats 4000000 in
set_option maxRecDepth 100000 in
theorem c_K_immediateBits (l : Launch) {ad sk sv : Nat → Nat} {tK : Nat} (i : Nat) (a0 : Int32) (hi : i < 75) (r : Int32) (hf : f_K_immediateBits i a0 = some r) : Met l y_K_immediateBits (Cond.code y_K_immediateBits b_K_immediateBits 5 (Option.some FieldType.int) :: aw) ({ frames := 4, cells := 0, slots := 0, locals := 85 } : Room) (va_Pc [.ref (ad i), .int (a0)] (fun U => tb ad sk sv tK (fun _ => False) U U.heap)) (QcRead r) 0 0 (fun _ => False) := by
  refine Met.ofW (cc := b_K_immediateBits) (maxL := 5) (ret := (Option.some FieldType.int)) (by decide) rfl ?_
  intro p e s m args below meth c s₁ B hml hv
  obtain ⟨rfl, hT⟩ := hv
  have hx := B.exec
  have hb := B.bytes
  have hr := B.returns
  have hts := atoms_spec (ws := (Cond.code y_K_immediateBits b_K_immediateBits 5 (Option.some FieldType.int) :: aw)) B.pre
  have ht : ∀ {w : Cond}, w ∈ aw → w.before ([.ref (ad i), .int (a0)] : List Value).toArray s = true := fun h => hts _ (List.mem_cons_of_mem _ h)
  have hown : s.vm.findClass "CodeWords$Kind" = some m.cls := findClass_of_methodNamed B.named
  have hlocks := B.notSynchronized
  have hS : va_S (fun _ => False) s.heap s.heap [] := va_S.rf
  have hl := lv_entry ([.ref (ad i), .int (a0)]) (n := 5) (Nat.le_of_ble_eq_true rfl)
  rw [lg_entry_eq]
  generalize (lg_sl ([.ref (ad i), .int (a0)]) ++ List.replicate (5 - (lg_sl ([.ref (ad i), .int (a0)])).length) Slot.unset).toArray = ls at hl ⊢
  have hl : lv_has ls 5 [(0, .ref (ad i)), (1, .int (a0))] := hl
  have J4 : ∀ (n : Nat) (x2 : Int32) (x3 : Int32) (ls : Array Slot), lv_has ls 5 [(0, .ref (ad i)), (1, .int (a0)), (2, .int (x2)), (3, .int (x3))] → f_K_immediateBits_L4 i a0  n x2 x3 = some r → pW p l e (headSpec (Cond.code y_K_immediateBits b_K_immediateBits 5 (Option.some FieldType.int) :: aw) ({ frames := 4, cells := 0, slots := 0, locals := 85 } : Room)).room s m ([.ref (ad i), .int (a0)] : List Value).toArray below meth c r (F0 m 4 ls []) := by
    intro n
    induction n with
    | zero =>
      intro x2 x3  ls  hl hf
      rw [f_K_immediateBits_L4] at hf
      cases hf
    | succ n ih =>
      intro x2 x3  ls  hl hf
      rw [f_K_immediateBits_L4] at hf
      refine lv_aload_n hx hb d_K_immediateBits_4 rfl (lv_at hl 0 rfl) ?_
      refine lv_bipush (v := 8) hx hb d_K_immediateBits_5 (by decide) ?_
      obtain ⟨r_1, g_2, hf⟩ := Option.bind_eq_some_iff.mp hf
      refine ju_calli (W.runV (As := [.int (8)]) (rest := []) ⟨hx, hb, hml, hown, hts⟩ (c_K_has l (ad := ad) (sk := sk) (sv := sv) (tK := tK)  i 8 hi r_1 g_2) (cwV 1 hts (aw_V aw_48 aw_49 aw_50 aw_12 aw_51) rfl rfl rfl (by decide +kernel) ⟨Nat.le_of_ble_eq_true rfl, Nat.le_of_ble_eq_true rfl⟩) ⟨fun a U g mk q => ⟨q.1, q.2.call⟩, tb_recvK hT hi hS, fun U hU hW => ⟨rfl, hT.at hS hU hW (fun _ z => z.elim)⟩⟩ rfl rfl hl.1 rfl (lv_room (Nat.le_of_ble_eq_true rfl)) d_K_immediateBits_7 ⟨Nat.le_refl _, Nat.le_refl _⟩) ?_
      refine lv_if_eq (tgt := 74) hx hb d_K_immediateBits_10 (by decide) (fun c_3 => ?_) (fun c_3 => ?_)
      · replace hf := (if_pos c_3).symm.trans hf
        refine lv_iload_n hx hb d_K_immediateBits_74 rfl (lv_at hl 2 rfl) ?_
        exact W.iret (v := x2) hx hb hr (fun t ht hW => ⟨congrArg (fun z => Outcome.returned (some (Value.int z))) (Option.some.inj hf), ht⟩) (fun q h => nomatch h) d_K_immediateBits_75
      · replace hf := (if_neg c_3).symm.trans hf
        refine lv_iload_n hx hb d_K_immediateBits_13 rfl (lv_at hl 3 rfl) ?_
        refine lv_aload_n hx hb d_K_immediateBits_14 rfl (lv_at hl 0 rfl) ?_
        refine vk_getf (v := .ref (sk (k_layout i))) hx hb (tb_layout hT hi) hS hown (ht aw_763) (fun _ h9 => h9) d_K_immediateBits_15 ?_
        obtain ⟨r_4, g_5, hf⟩ := Option.bind_eq_some_iff.mp hf
        refine ju_calli (W.runV (As := []) (rest := [.int (x3)]) ⟨hx, hb, hml, hown, hts⟩ (c_S_length l (ad := ad) (sk := sk) (sv := sv) (tK := tK)  (k_layout i) (k_layout_lt hi) r_4 g_5) (cwV 0 hts (aw_V aw_61 aw_62 aw_63 aw_7 aw_64) rfl rfl rfl (by decide +kernel) ⟨Nat.le_of_ble_eq_true rfl, Nat.le_of_ble_eq_true rfl⟩) ⟨fun a U g mk q => ⟨q.1, q.2.call⟩, tb_recvS hT (k_layout_lt hi) hS, fun U hU hW => ⟨rfl, hT.at hS hU hW (fun _ z => z.elim)⟩⟩ rfl rfl hl.1 rfl (lv_room (Nat.le_of_ble_eq_true rfl)) d_K_immediateBits_18 ⟨Nat.le_refl _, Nat.le_refl _⟩) ?_
        refine lv_icmp_ge (tgt := 74) hx hb d_K_immediateBits_21 (by decide) (fun c_6 => ?_) (fun c_6 => ?_)
        · replace hf := (if_pos c_6).symm.trans hf
          refine lv_iload_n hx hb d_K_immediateBits_74 rfl (lv_at hl 2 rfl) ?_
          exact W.iret (v := x2) hx hb hr (fun t ht hW => ⟨congrArg (fun z => Outcome.returned (some (Value.int z))) (Option.some.inj hf), ht⟩) (fun q h => nomatch h) d_K_immediateBits_75
        · replace hf := (if_neg c_6).symm.trans hf
          refine lv_aload_n hx hb d_K_immediateBits_24 rfl (lv_at hl 0 rfl) ?_
          refine vk_getf (v := .ref (sk (k_layout i))) hx hb (tb_layout hT hi) hS hown (ht aw_763) (fun _ h9 => h9) d_K_immediateBits_25 ?_
          refine lv_iload_n hx hb d_K_immediateBits_28 rfl (lv_at hl 3 rfl) ?_
          obtain ⟨r_7, g_8, hf⟩ := Option.bind_eq_some_iff.mp hf
          refine ju_calli (W.runV (As := [.int (x3)]) (rest := []) ⟨hx, hb, hml, hown, hts⟩ (c_S_charAt l (ad := ad) (sk := sk) (sv := sv) (tK := tK)  (k_layout i) x3 (k_layout_lt hi) r_7 g_8) (cwV 1 hts (aw_V aw_71 aw_72 aw_73 aw_7 aw_74) rfl rfl rfl (by decide +kernel) ⟨Nat.le_of_ble_eq_true rfl, Nat.le_of_ble_eq_true rfl⟩) ⟨fun a U g mk q => ⟨q.1, q.2.call⟩, tb_recvS hT (k_layout_lt hi) hS, fun U hU hW => ⟨rfl, hT.at hS hU hW (fun _ z => z.elim)⟩⟩ rfl rfl hl.1 rfl (lv_room (Nat.le_of_ble_eq_true rfl)) d_K_immediateBits_29 ⟨Nat.le_refl _, Nat.le_refl _⟩) ?_
          refine lv_istore (lv' := [(4, .int (r_7)), (0, .ref (ad i)), (1, .int (a0)), (2, .int (x2)), (3, .int (x3))]) hx hb d_K_immediateBits_32 hl (by decide) rfl (fun ls hl => ?_)
          refine lv_iload hx hb d_K_immediateBits_34 (lv_at hl 0 rfl) ?_
          obtain ⟨r_9, g_10, hf⟩ := Option.bind_eq_some_iff.mp hf
          refine ju_calli (W.runS (As := [.int (r_7)]) (rest := []) ⟨hx, hb, hml, hown, hts⟩ (c_K_partOf l (ad := ad) (sk := sk) (sv := sv) (tK := tK)  r_7  r_9 g_10) (va_cwS 1 hts (aw_S aw_109 aw_110 aw_12 aw_111) rfl rfl rfl (by decide +kernel) ⟨Nat.le_of_ble_eq_true rfl, Nat.le_of_ble_eq_true rfl⟩) ⟨fun a U g mk q => ⟨q.1, q.2.call⟩, fun U hU hW => ⟨rfl, hT.at hS hU hW (fun _ z => z.elim)⟩⟩ rfl rfl hl.1 rfl (lv_room (Nat.le_of_ble_eq_true rfl)) d_K_immediateBits_36 ⟨Nat.le_refl _, Nat.le_refl _⟩) ?_
          refine lv_bipush (v := 8) hx hb d_K_immediateBits_39 (by decide) ?_
          refine lv_icmp_ne (tgt := 68) hx hb d_K_immediateBits_41 (by decide) (fun c_11 => ?_) (fun c_11 => ?_)
          · replace hf := (if_neg c_11).symm.trans hf
            refine lv_iinc (v := x3 + 1) (lv' := [(3, .int (x3 + 1)), (4, .int (r_7)), (0, .ref (ad i)), (1, .int (a0)), (2, .int (x2))]) hx hb d_K_immediateBits_68 hl (k := 4) rfl rfl (by decide) rfl (fun ls hl => ?_)
            refine lv_goto (tgt := 4) hx hb d_K_immediateBits_71 (by decide) ?_
            exact ih x2 (x3 + 1)  _  (lv_sub hl [2, 3, 4, 0] rfl) hf
          · replace hf := (if_pos c_11).symm.trans hf
            refine lv_iload_n hx hb d_K_immediateBits_44 rfl (lv_at hl 3 rfl) ?_
            refine lv_iload_n hx hb d_K_immediateBits_45 rfl (lv_at hl 2 rfl) ?_
            refine lv_iload hx hb d_K_immediateBits_46 (lv_at hl 0 rfl) ?_
            refine lv_bipush (v := 65) hx hb d_K_immediateBits_48 (by decide) ?_
            refine lv_isub hx hb d_K_immediateBits_50 ?_
            refine lv_ishr hx hb d_K_immediateBits_51 ?_
            refine lv_iconst (v := 1) hx hb d_K_immediateBits_52 (by decide) ?_
            refine lv_iand hx hb d_K_immediateBits_53 ?_
            refine lv_aload_n hx hb d_K_immediateBits_54 rfl (lv_at hl 1 rfl) ?_
            refine vk_getf (v := .ref (sk (k_layout i))) hx hb (tb_layout hT hi) hS hown (ht aw_763) (fun _ h9 => h9) d_K_immediateBits_55 ?_
            obtain ⟨r_12, g_13, hf⟩ := Option.bind_eq_some_iff.mp hf
            refine ju_calli (W.runV (As := []) (rest := [.int ((a0 >>> ((r_7 - 65) &&& 31)) &&& 1), .int (x2)]) ⟨hx, hb, hml, hown, hts⟩ (c_S_length l (ad := ad) (sk := sk) (sv := sv) (tK := tK)  (k_layout i) (k_layout_lt hi) r_12 g_13) (cwV 0 hts (aw_V aw_61 aw_62 aw_63 aw_7 aw_64) rfl rfl rfl (by decide +kernel) ⟨Nat.le_of_ble_eq_true rfl, Nat.le_of_ble_eq_true rfl⟩) ⟨fun a U g mk q => ⟨q.1, q.2.call⟩, tb_recvS hT (k_layout_lt hi) hS, fun U hU hW => ⟨rfl, hT.at hS hU hW (fun _ z => z.elim)⟩⟩ rfl rfl hl.1 rfl (lv_room (Nat.le_of_ble_eq_true rfl)) d_K_immediateBits_58 ⟨Nat.le_refl _, Nat.le_refl _⟩) ?_
            refine lv_iconst (v := 1) hx hb d_K_immediateBits_61 (by decide) ?_
            refine lv_isub hx hb d_K_immediateBits_62 ?_
            refine lv_iload_n hx hb d_K_immediateBits_63 rfl (lv_at hl 4 rfl) ?_
            refine lv_isub hx hb d_K_immediateBits_64 ?_
            refine lv_ishl hx hb d_K_immediateBits_65 ?_
            refine lv_ior hx hb d_K_immediateBits_66 ?_
            refine lv_istore_n (lv' := [(2, .int (x2 ||| (((a0 >>> ((r_7 - 65) &&& 31)) &&& 1) <<< (((r_12 - 1) - x3) &&& 31)))), (4, .int (r_7)), (0, .ref (ad i)), (1, .int (a0)), (3, .int (x3))]) hx hb d_K_immediateBits_67 rfl hl (by decide) rfl (fun ls hl => ?_)
            refine lv_iinc (v := x3 + 1) (lv' := [(3, .int (x3 + 1)), (2, .int (x2 ||| (((a0 >>> ((r_7 - 65) &&& 31)) &&& 1) <<< (((r_12 - 1) - x3) &&& 31)))), (4, .int (r_7)), (0, .ref (ad i)), (1, .int (a0))]) hx hb d_K_immediateBits_68 hl (k := 4) rfl rfl (by decide) rfl (fun ls hl => ?_)
            refine lv_goto (tgt := 4) hx hb d_K_immediateBits_71 (by decide) ?_
            exact ih (x2 ||| (((a0 >>> ((r_7 - 65) &&& 31)) &&& 1) <<< (((r_12 - 1) - x3) &&& 31))) (x3 + 1)  _  (lv_sub hl [3, 4, 1, 0] rfl) hf
  rw [f_K_immediateBits] at hf
  refine lv_iconst (v := 0) hx hb d_K_immediateBits_0 (by decide) ?_
  refine lv_istore_n (lv' := [(2, .int (0)), (0, .ref (ad i)), (1, .int (a0))]) hx hb d_K_immediateBits_1 rfl hl (by decide) rfl (fun ls hl => ?_)
  refine lv_iconst (v := 0) hx hb d_K_immediateBits_2 (by decide) ?_
  refine lv_istore_n (lv' := [(3, .int (0)), (2, .int (0)), (0, .ref (ad i)), (1, .int (a0))]) hx hb d_K_immediateBits_3 rfl hl (by decide) rfl (fun ls hl => ?_)
  exact J4 40 0 0  _  (lv_sub hl [2, 3, 1, 0] rfl) hf

def f_K_compose (i : Nat) (a0 : Int32) (a1 : Int32) (a2 : Int32) (a3 : Int32) : Option Int32 :=
  (f_K_registerBits i 1 a0).bind fun r_1 => (f_K_registerBits i 2 a1).bind fun r_3 => (f_K_registerBits i 4 a2).bind fun r_5 => (f_K_immediateBits i a3).bind fun r_7 => some (((((k_ownBits i) ||| r_1) ||| r_3) ||| r_5) ||| r_7)
set_option maxHeartbeats 4000000 in
set_option maxRecDepth 100000 in
theorem c_K_compose (l : Launch) {ad sk sv : Nat → Nat} {tK : Nat} (i : Nat) (a0 : Int32) (a1 : Int32) (a2 : Int32) (a3 : Int32) (hi : i < 75) (r : Int32) (hf : f_K_compose i a0 a1 a2 a3 = some r) : Met l y_K_compose (Cond.code y_K_compose b_K_compose 5 (Option.some FieldType.int) :: aw) ({ frames := 6, cells := 0, slots := 0, locals := 129 } : Room) (va_Pc [.ref (ad i), .int (a0), .int (a1), .int (a2), .int (a3)] (fun U => tb ad sk sv tK (fun _ => False) U U.heap)) (QcRead r) 0 0 (fun _ => False) := by
  refine Met.ofW (cc := b_K_compose) (maxL := 5) (ret := (Option.some FieldType.int)) (by decide) rfl ?_
  intro p e s m args below meth c s₁ B hml hv
  obtain ⟨rfl, hT⟩ := hv
  have hx := B.exec
  have hb := B.bytes
  have hr := B.returns
  have hts := atoms_spec (ws := (Cond.code y_K_compose b_K_compose 5 (Option.some FieldType.int) :: aw)) B.pre
  have ht : ∀ {w : Cond}, w ∈ aw → w.before ([.ref (ad i), .int (a0), .int (a1), .int (a2), .int (a3)] : List Value).toArray s = true := fun h => hts _ (List.mem_cons_of_mem _ h)
  have hown : s.vm.findClass "CodeWords$Kind" = some m.cls := findClass_of_methodNamed B.named
  have hlocks := B.notSynchronized
  have hS : va_S (fun _ => False) s.heap s.heap [] := va_S.rf
  have hl := lv_entry ([.ref (ad i), .int (a0), .int (a1), .int (a2), .int (a3)]) (n := 5) (Nat.le_of_ble_eq_true rfl)
  rw [lg_entry_eq]
  generalize (lg_sl ([.ref (ad i), .int (a0), .int (a1), .int (a2), .int (a3)]) ++ List.replicate (5 - (lg_sl ([.ref (ad i), .int (a0), .int (a1), .int (a2), .int (a3)])).length) Slot.unset).toArray = ls at hl ⊢
  have hl : lv_has ls 5 [(0, .ref (ad i)), (1, .int (a0)), (2, .int (a1)), (3, .int (a2)), (4, .int (a3))] := hl
  rw [f_K_compose] at hf
  refine lv_aload_n hx hb d_K_compose_0 rfl (lv_at hl 0 rfl) ?_
  refine vk_getf (v := .int (k_ownBits i)) hx hb (tb_ownBits hT hi) hS hown (ht aw_772) (fun _ h9 => h9) d_K_compose_1 ?_
  refine lv_aload_n hx hb d_K_compose_4 rfl (lv_at hl 0 rfl) ?_
  refine lv_iconst (v := 1) hx hb d_K_compose_5 (by decide) ?_
  refine lv_iload_n hx hb d_K_compose_6 rfl (lv_at hl 1 rfl) ?_
  obtain ⟨r_1, g_2, hf⟩ := Option.bind_eq_some_iff.mp hf
  refine ju_calli (W.runV (As := [.int (1), .int (a0)]) (rest := [.int (k_ownBits i)]) ⟨hx, hb, hml, hown, hts⟩ (c_K_registerBits l (ad := ad) (sk := sk) (sv := sv) (tK := tK)  i 1 a0 hi r_1 g_2) (cwV 2 hts (aw_V aw_159 aw_161 aw_p4 aw_12 aw_162) rfl rfl rfl (by decide +kernel) ⟨Nat.le_of_ble_eq_true rfl, Nat.le_of_ble_eq_true rfl⟩) ⟨fun a U g mk q => ⟨q.1, q.2.call⟩, tb_recvK hT hi hS, fun U hU hW => ⟨rfl, hT.at hS hU hW (fun _ z => z.elim)⟩⟩ rfl rfl hl.1 rfl (lv_room (Nat.le_of_ble_eq_true rfl)) d_K_compose_7 ⟨Nat.le_refl _, Nat.le_refl _⟩) ?_
  refine lv_ior hx hb d_K_compose_10 ?_
  refine lv_aload_n hx hb d_K_compose_11 rfl (lv_at hl 0 rfl) ?_
  refine lv_iconst (v := 2) hx hb d_K_compose_12 (by decide) ?_
  refine lv_iload_n hx hb d_K_compose_13 rfl (lv_at hl 2 rfl) ?_
  obtain ⟨r_3, g_4, hf⟩ := Option.bind_eq_some_iff.mp hf
  refine ju_calli (W.runV (As := [.int (2), .int (a1)]) (rest := [.int ((k_ownBits i) ||| r_1)]) ⟨hx, hb, hml, hown, hts⟩ (c_K_registerBits l (ad := ad) (sk := sk) (sv := sv) (tK := tK)  i 2 a1 hi r_3 g_4) (cwV 2 hts (aw_V aw_159 aw_161 aw_p4 aw_12 aw_162) rfl rfl rfl (by decide +kernel) ⟨Nat.le_of_ble_eq_true rfl, Nat.le_of_ble_eq_true rfl⟩) ⟨fun a U g mk q => ⟨q.1, q.2.call⟩, tb_recvK hT hi hS, fun U hU hW => ⟨rfl, hT.at hS hU hW (fun _ z => z.elim)⟩⟩ rfl rfl hl.1 rfl (lv_room (Nat.le_of_ble_eq_true rfl)) d_K_compose_14 ⟨Nat.le_refl _, Nat.le_refl _⟩) ?_
  refine lv_ior hx hb d_K_compose_17 ?_
  refine lv_aload_n hx hb d_K_compose_18 rfl (lv_at hl 0 rfl) ?_
  refine lv_iconst (v := 4) hx hb d_K_compose_19 (by decide) ?_
  refine lv_iload_n hx hb d_K_compose_20 rfl (lv_at hl 3 rfl) ?_
  obtain ⟨r_5, g_6, hf⟩ := Option.bind_eq_some_iff.mp hf
  refine ju_calli (W.runV (As := [.int (4), .int (a2)]) (rest := [.int (((k_ownBits i) ||| r_1) ||| r_3)]) ⟨hx, hb, hml, hown, hts⟩ (c_K_registerBits l (ad := ad) (sk := sk) (sv := sv) (tK := tK)  i 4 a2 hi r_5 g_6) (cwV 2 hts (aw_V aw_159 aw_161 aw_p4 aw_12 aw_162) rfl rfl rfl (by decide +kernel) ⟨Nat.le_of_ble_eq_true rfl, Nat.le_of_ble_eq_true rfl⟩) ⟨fun a U g mk q => ⟨q.1, q.2.call⟩, tb_recvK hT hi hS, fun U hU hW => ⟨rfl, hT.at hS hU hW (fun _ z => z.elim)⟩⟩ rfl rfl hl.1 rfl (lv_room (Nat.le_of_ble_eq_true rfl)) d_K_compose_21 ⟨Nat.le_refl _, Nat.le_refl _⟩) ?_
  refine lv_ior hx hb d_K_compose_24 ?_
  refine lv_aload_n hx hb d_K_compose_25 rfl (lv_at hl 0 rfl) ?_
  refine lv_iload hx hb d_K_compose_26 (lv_at hl 4 rfl) ?_
  obtain ⟨r_7, g_8, hf⟩ := Option.bind_eq_some_iff.mp hf
  refine ju_calli (W.runV (As := [.int (a3)]) (rest := [.int ((((k_ownBits i) ||| r_1) ||| r_3) ||| r_5)]) ⟨hx, hb, hml, hown, hts⟩ (c_K_immediateBits l (ad := ad) (sk := sk) (sv := sv) (tK := tK)  i a3 hi r_7 g_8) (cwV 1 hts (aw_V aw_163 aw_165 aw_p5 aw_12 aw_166) rfl rfl rfl (by decide +kernel) ⟨Nat.le_of_ble_eq_true rfl, Nat.le_of_ble_eq_true rfl⟩) ⟨fun a U g mk q => ⟨q.1, q.2.call⟩, tb_recvK hT hi hS, fun U hU hW => ⟨rfl, hT.at hS hU hW (fun _ z => z.elim)⟩⟩ rfl rfl hl.1 rfl (lv_room (Nat.le_of_ble_eq_true rfl)) d_K_compose_28 ⟨Nat.le_refl _, Nat.le_refl _⟩) ?_
  refine lv_ior hx hb d_K_compose_31 ?_
  exact W.iret (v := ((((k_ownBits i) ||| r_1) ||| r_3) ||| r_5) ||| r_7) hx hb hr (fun t ht hW => ⟨congrArg (fun z => Outcome.returned (some (Value.int z))) (Option.some.inj hf), ht⟩) (fun q h => nomatch h) d_K_compose_32

def f_K_allows (i : Nat) (a0 : Int32) (a1 : Int32) (a2 : Int32) (a3 : Int32) : Option Bool :=
  (f_K_allowsRegister i 1 a0).bind fun r_1 => if (bI r_1) = 0 then (some false) else ((f_K_allowsRegister i 2 a1).bind fun r_4 => if (bI r_4) = 0 then (some false) else ((f_K_allowsRegister i 4 a2).bind fun r_7 => if (bI r_7) = 0 then (some false) else ((f_K_has i 8).bind fun r_10 => if (bI r_10) = 0 then (some true) else ((f_K_allowsImmediate i a3.toInt64).bind fun r_13 => if (bI r_13) = 0 then (some false) else (some true)))))
set_option maxHeartbeats 4000000 in
set_option maxRecDepth 100000 in
theorem c_K_allows (l : Launch) {ad sk sv : Nat → Nat} {tK : Nat} (i : Nat) (a0 : Int32) (a1 : Int32) (a2 : Int32) (a3 : Int32) (hi : i < 75) (r : Bool) (hf : f_K_allows i a0 a1 a2 a3 = some r) : Met l y_K_allows (Cond.code y_K_allows b_K_allows 5 (Option.some FieldType.boolean) :: aw) ({ frames := 6, cells := 0, slots := 0, locals := 129 } : Room) (va_Pc [.ref (ad i), .int (a0), .int (a1), .int (a2), .int (a3)] (fun U => tb ad sk sv tK (fun _ => False) U U.heap)) (QcRead (bI r)) 0 0 (fun _ => False) := by
  refine Met.ofW (cc := b_K_allows) (maxL := 5) (ret := (Option.some FieldType.boolean)) (by decide) rfl ?_
  intro p e s m args below meth c s₁ B hml hv
  obtain ⟨rfl, hT⟩ := hv
  have hx := B.exec
  have hb := B.bytes
  have hr := B.returns
  have hts := atoms_spec (ws := (Cond.code y_K_allows b_K_allows 5 (Option.some FieldType.boolean) :: aw)) B.pre
  have ht : ∀ {w : Cond}, w ∈ aw → w.before ([.ref (ad i), .int (a0), .int (a1), .int (a2), .int (a3)] : List Value).toArray s = true := fun h => hts _ (List.mem_cons_of_mem _ h)
  have hown : s.vm.findClass "CodeWords$Kind" = some m.cls := findClass_of_methodNamed B.named
  have hlocks := B.notSynchronized
  have hS : va_S (fun _ => False) s.heap s.heap [] := va_S.rf
  have hl := lv_entry ([.ref (ad i), .int (a0), .int (a1), .int (a2), .int (a3)]) (n := 5) (Nat.le_of_ble_eq_true rfl)
  rw [lg_entry_eq]
  generalize (lg_sl ([.ref (ad i), .int (a0), .int (a1), .int (a2), .int (a3)]) ++ List.replicate (5 - (lg_sl ([.ref (ad i), .int (a0), .int (a1), .int (a2), .int (a3)])).length) Slot.unset).toArray = ls at hl ⊢
  have hl : lv_has ls 5 [(0, .ref (ad i)), (1, .int (a0)), (2, .int (a1)), (3, .int (a2)), (4, .int (a3))] := hl
  rw [f_K_allows] at hf
  refine lv_aload_n hx hb d_K_allows_0 rfl (lv_at hl 0 rfl) ?_
  refine lv_iconst (v := 1) hx hb d_K_allows_1 (by decide) ?_
  refine lv_iload_n hx hb d_K_allows_2 rfl (lv_at hl 1 rfl) ?_
  obtain ⟨r_1, g_2, hf⟩ := Option.bind_eq_some_iff.mp hf
  refine ju_calli (W.runV (As := [.int (1), .int (a0)]) (rest := []) ⟨hx, hb, hml, hown, hts⟩ (c_K_allowsRegister l (ad := ad) (sk := sk) (sv := sv) (tK := tK)  i 1 a0 hi r_1 g_2) (cwV 2 hts (aw_V aw_125 aw_127 aw_p3 aw_12 aw_128) rfl rfl rfl (by decide +kernel) ⟨Nat.le_of_ble_eq_true rfl, Nat.le_of_ble_eq_true rfl⟩) ⟨fun a U g mk q => ⟨q.1, q.2.call⟩, tb_recvK hT hi hS, fun U hU hW => ⟨rfl, hT.at hS hU hW (fun _ z => z.elim)⟩⟩ rfl rfl hl.1 rfl (lv_room (Nat.le_of_ble_eq_true rfl)) d_K_allows_3 ⟨Nat.le_refl _, Nat.le_refl _⟩) ?_
  refine lv_if_eq (tgt := 50) hx hb d_K_allows_6 (by decide) (fun c_3 => ?_) (fun c_3 => ?_)
  · replace hf := (if_pos c_3).symm.trans hf
    refine lv_iconst (v := 0) hx hb d_K_allows_50 (by decide) ?_
    exact W.zret (v := 0) hx hb hr (ju_nz false) (fun t ht hW => ⟨congrArg (fun z => Outcome.returned (some (Value.int (bI z)))) (Option.some.inj hf), ht⟩) (fun q h => nomatch h) d_K_allows_51
  · replace hf := (if_neg c_3).symm.trans hf
    refine lv_aload_n hx hb d_K_allows_9 rfl (lv_at hl 0 rfl) ?_
    refine lv_iconst (v := 2) hx hb d_K_allows_10 (by decide) ?_
    refine lv_iload_n hx hb d_K_allows_11 rfl (lv_at hl 2 rfl) ?_
    obtain ⟨r_4, g_5, hf⟩ := Option.bind_eq_some_iff.mp hf
    refine ju_calli (W.runV (As := [.int (2), .int (a1)]) (rest := []) ⟨hx, hb, hml, hown, hts⟩ (c_K_allowsRegister l (ad := ad) (sk := sk) (sv := sv) (tK := tK)  i 2 a1 hi r_4 g_5) (cwV 2 hts (aw_V aw_125 aw_127 aw_p3 aw_12 aw_128) rfl rfl rfl (by decide +kernel) ⟨Nat.le_of_ble_eq_true rfl, Nat.le_of_ble_eq_true rfl⟩) ⟨fun a U g mk q => ⟨q.1, q.2.call⟩, tb_recvK hT hi hS, fun U hU hW => ⟨rfl, hT.at hS hU hW (fun _ z => z.elim)⟩⟩ rfl rfl hl.1 rfl (lv_room (Nat.le_of_ble_eq_true rfl)) d_K_allows_12 ⟨Nat.le_refl _, Nat.le_refl _⟩) ?_
    refine lv_if_eq (tgt := 50) hx hb d_K_allows_15 (by decide) (fun c_6 => ?_) (fun c_6 => ?_)
    · replace hf := (if_pos c_6).symm.trans hf
      refine lv_iconst (v := 0) hx hb d_K_allows_50 (by decide) ?_
      exact W.zret (v := 0) hx hb hr (ju_nz false) (fun t ht hW => ⟨congrArg (fun z => Outcome.returned (some (Value.int (bI z)))) (Option.some.inj hf), ht⟩) (fun q h => nomatch h) d_K_allows_51
    · replace hf := (if_neg c_6).symm.trans hf
      refine lv_aload_n hx hb d_K_allows_18 rfl (lv_at hl 0 rfl) ?_
      refine lv_iconst (v := 4) hx hb d_K_allows_19 (by decide) ?_
      refine lv_iload_n hx hb d_K_allows_20 rfl (lv_at hl 3 rfl) ?_
      obtain ⟨r_7, g_8, hf⟩ := Option.bind_eq_some_iff.mp hf
      refine ju_calli (W.runV (As := [.int (4), .int (a2)]) (rest := []) ⟨hx, hb, hml, hown, hts⟩ (c_K_allowsRegister l (ad := ad) (sk := sk) (sv := sv) (tK := tK)  i 4 a2 hi r_7 g_8) (cwV 2 hts (aw_V aw_125 aw_127 aw_p3 aw_12 aw_128) rfl rfl rfl (by decide +kernel) ⟨Nat.le_of_ble_eq_true rfl, Nat.le_of_ble_eq_true rfl⟩) ⟨fun a U g mk q => ⟨q.1, q.2.call⟩, tb_recvK hT hi hS, fun U hU hW => ⟨rfl, hT.at hS hU hW (fun _ z => z.elim)⟩⟩ rfl rfl hl.1 rfl (lv_room (Nat.le_of_ble_eq_true rfl)) d_K_allows_21 ⟨Nat.le_refl _, Nat.le_refl _⟩) ?_
      refine lv_if_eq (tgt := 50) hx hb d_K_allows_24 (by decide) (fun c_9 => ?_) (fun c_9 => ?_)
      · replace hf := (if_pos c_9).symm.trans hf
        refine lv_iconst (v := 0) hx hb d_K_allows_50 (by decide) ?_
        exact W.zret (v := 0) hx hb hr (ju_nz false) (fun t ht hW => ⟨congrArg (fun z => Outcome.returned (some (Value.int (bI z)))) (Option.some.inj hf), ht⟩) (fun q h => nomatch h) d_K_allows_51
      · replace hf := (if_neg c_9).symm.trans hf
        refine lv_aload_n hx hb d_K_allows_27 rfl (lv_at hl 0 rfl) ?_
        refine lv_bipush (v := 8) hx hb d_K_allows_28 (by decide) ?_
        obtain ⟨r_10, g_11, hf⟩ := Option.bind_eq_some_iff.mp hf
        refine ju_calli (W.runV (As := [.int (8)]) (rest := []) ⟨hx, hb, hml, hown, hts⟩ (c_K_has l (ad := ad) (sk := sk) (sv := sv) (tK := tK)  i 8 hi r_10 g_11) (cwV 1 hts (aw_V aw_48 aw_49 aw_50 aw_12 aw_51) rfl rfl rfl (by decide +kernel) ⟨Nat.le_of_ble_eq_true rfl, Nat.le_of_ble_eq_true rfl⟩) ⟨fun a U g mk q => ⟨q.1, q.2.call⟩, tb_recvK hT hi hS, fun U hU hW => ⟨rfl, hT.at hS hU hW (fun _ z => z.elim)⟩⟩ rfl rfl hl.1 rfl (lv_room (Nat.le_of_ble_eq_true rfl)) d_K_allows_30 ⟨Nat.le_refl _, Nat.le_refl _⟩) ?_
        refine lv_if_eq (tgt := 46) hx hb d_K_allows_33 (by decide) (fun c_12 => ?_) (fun c_12 => ?_)
        · replace hf := (if_pos c_12).symm.trans hf
          refine lv_iconst (v := 1) hx hb d_K_allows_46 (by decide) ?_
          refine lv_goto (tgt := 51) hx hb d_K_allows_47 (by decide) ?_
          exact W.zret (v := 1) hx hb hr (ju_nz true) (fun t ht hW => ⟨congrArg (fun z => Outcome.returned (some (Value.int (bI z)))) (Option.some.inj hf), ht⟩) (fun q h => nomatch h) d_K_allows_51
        · replace hf := (if_neg c_12).symm.trans hf
          refine lv_aload_n hx hb d_K_allows_36 rfl (lv_at hl 0 rfl) ?_
          refine lv_iload hx hb d_K_allows_37 (lv_at hl 4 rfl) ?_
          refine lv_i2l (v := a3.toInt64) hx hb d_K_allows_39 rfl ?_
          obtain ⟨r_13, g_14, hf⟩ := Option.bind_eq_some_iff.mp hf
          refine ju_calli (W.runV (As := [.long (a3.toInt64)]) (rest := []) ⟨hx, hb, hml, hown, hts⟩ (c_K_allowsImmediate l (ad := ad) (sk := sk) (sv := sv) (tK := tK)  i a3.toInt64 hi r_13 g_14) (cwV 1 hts (aw_V aw_129 aw_130 aw_131 aw_12 aw_132) rfl rfl rfl (by decide +kernel) ⟨Nat.le_of_ble_eq_true rfl, Nat.le_of_ble_eq_true rfl⟩) ⟨fun a U g mk q => ⟨q.1, q.2.call⟩, tb_recvK hT hi hS, fun U hU hW => ⟨rfl, hT.at hS hU hW (fun _ z => z.elim)⟩⟩ rfl rfl hl.1 rfl (lv_room (Nat.le_of_ble_eq_true rfl)) d_K_allows_40 ⟨Nat.le_refl _, Nat.le_refl _⟩) ?_
          refine lv_if_eq (tgt := 50) hx hb d_K_allows_43 (by decide) (fun c_15 => ?_) (fun c_15 => ?_)
          · replace hf := (if_pos c_15).symm.trans hf
            refine lv_iconst (v := 0) hx hb d_K_allows_50 (by decide) ?_
            exact W.zret (v := 0) hx hb hr (ju_nz false) (fun t ht hW => ⟨congrArg (fun z => Outcome.returned (some (Value.int (bI z)))) (Option.some.inj hf), ht⟩) (fun q h => nomatch h) d_K_allows_51
          · replace hf := (if_neg c_15).symm.trans hf
            refine lv_iconst (v := 1) hx hb d_K_allows_46 (by decide) ?_
            refine lv_goto (tgt := 51) hx hb d_K_allows_47 (by decide) ?_
            exact W.zret (v := 1) hx hb hr (ju_nz true) (fun t ht hW => ⟨congrArg (fun z => Outcome.returned (some (Value.int (bI z)))) (Option.some.inj hf), ht⟩) (fun q h => nomatch h) d_K_allows_51

def f_K_admits (i : Nat) (a0 : Int32) : Option Bool :=
  if (a0 &&& (k_ownMask i)) = (k_ownBits i) then ((f_K_register i a0 1).bind fun r_2 => (f_K_register i a0 2).bind fun r_4 => (f_K_register i a0 4).bind fun r_6 => (f_K_immediate i a0).bind fun r_8 => (f_K_allows i r_2 r_4 r_6 r_8).bind fun r_10 => if (bI r_10) = 0 then (some false) else (some true)) else (some false)
set_option maxHeartbeats 4000000 in
set_option maxRecDepth 100000 in
theorem c_K_admits (l : Launch) {ad sk sv : Nat → Nat} {tK : Nat} (i : Nat) (a0 : Int32) (hi : i < 75) (r : Bool) (hf : f_K_admits i a0 = some r) : Met l y_K_admits (Cond.code y_K_admits b_K_admits 2 (Option.some FieldType.boolean) :: aw) ({ frames := 7, cells := 0, slots := 0, locals := 153 } : Room) (va_Pc [.ref (ad i), .int (a0)] (fun U => tb ad sk sv tK (fun _ => False) U U.heap)) (QcRead (bI r)) 0 0 (fun _ => False) := by
  refine Met.ofW (cc := b_K_admits) (maxL := 2) (ret := (Option.some FieldType.boolean)) (by decide) rfl ?_
  intro p e s m args below meth c s₁ B hml hv
  obtain ⟨rfl, hT⟩ := hv
  have hx := B.exec
  have hb := B.bytes
  have hr := B.returns
  have hts := atoms_spec (ws := (Cond.code y_K_admits b_K_admits 2 (Option.some FieldType.boolean) :: aw)) B.pre
  have ht : ∀ {w : Cond}, w ∈ aw → w.before ([.ref (ad i), .int (a0)] : List Value).toArray s = true := fun h => hts _ (List.mem_cons_of_mem _ h)
  have hown : s.vm.findClass "CodeWords$Kind" = some m.cls := findClass_of_methodNamed B.named
  have hlocks := B.notSynchronized
  have hS : va_S (fun _ => False) s.heap s.heap [] := va_S.rf
  have hl := lv_entry ([.ref (ad i), .int (a0)]) (n := 2) (Nat.le_of_ble_eq_true rfl)
  rw [lg_entry_eq]
  generalize (lg_sl ([.ref (ad i), .int (a0)]) ++ List.replicate (2 - (lg_sl ([.ref (ad i), .int (a0)])).length) Slot.unset).toArray = ls at hl ⊢
  have hl : lv_has ls 2 [(0, .ref (ad i)), (1, .int (a0))] := hl
  rw [f_K_admits] at hf
  refine lv_iload_n hx hb d_K_admits_0 rfl (lv_at hl 1 rfl) ?_
  refine lv_aload_n hx hb d_K_admits_1 rfl (lv_at hl 0 rfl) ?_
  refine vk_getf (v := .int (k_ownMask i)) hx hb (tb_ownMask hT hi) hS hown (ht aw_773) (fun _ h9 => h9) d_K_admits_2 ?_
  refine lv_iand hx hb d_K_admits_5 ?_
  refine lv_aload_n hx hb d_K_admits_6 rfl (lv_at hl 0 rfl) ?_
  refine vk_getf (v := .int (k_ownBits i)) hx hb (tb_ownBits hT hi) hS hown (ht aw_772) (fun _ h9 => h9) d_K_admits_7 ?_
  refine lv_icmp_ne (tgt := 47) hx hb d_K_admits_10 (by decide) (fun c_1 => ?_) (fun c_1 => ?_)
  · replace hf := (if_neg c_1).symm.trans hf
    refine lv_iconst (v := 0) hx hb d_K_admits_47 (by decide) ?_
    exact W.zret (v := 0) hx hb hr (ju_nz false) (fun t ht hW => ⟨congrArg (fun z => Outcome.returned (some (Value.int (bI z)))) (Option.some.inj hf), ht⟩) (fun q h => nomatch h) d_K_admits_48
  · replace hf := (if_pos c_1).symm.trans hf
    refine lv_aload_n hx hb d_K_admits_13 rfl (lv_at hl 0 rfl) ?_
    refine lv_aload_n hx hb d_K_admits_14 rfl (lv_at hl 0 rfl) ?_
    refine lv_iload_n hx hb d_K_admits_15 rfl (lv_at hl 1 rfl) ?_
    refine lv_iconst (v := 1) hx hb d_K_admits_16 (by decide) ?_
    obtain ⟨r_2, g_3, hf⟩ := Option.bind_eq_some_iff.mp hf
    refine ju_calli (W.runV (As := [.int (a0), .int (1)]) (rest := [.ref (ad i)]) ⟨hx, hb, hml, hown, hts⟩ (c_K_register l (ad := ad) (sk := sk) (sv := sv) (tK := tK)  i a0 1 hi r_2 g_3) (cwV 2 hts (aw_V aw_44 aw_45 aw_46 aw_12 aw_47) rfl rfl rfl (by decide +kernel) ⟨Nat.le_of_ble_eq_true rfl, Nat.le_of_ble_eq_true rfl⟩) ⟨fun a U g mk q => ⟨q.1, q.2.call⟩, tb_recvK hT hi hS, fun U hU hW => ⟨rfl, hT.at hS hU hW (fun _ z => z.elim)⟩⟩ rfl rfl hl.1 rfl (lv_room (Nat.le_of_ble_eq_true rfl)) d_K_admits_17 ⟨Nat.le_refl _, Nat.le_refl _⟩) ?_
    refine lv_aload_n hx hb d_K_admits_20 rfl (lv_at hl 0 rfl) ?_
    refine lv_iload_n hx hb d_K_admits_21 rfl (lv_at hl 1 rfl) ?_
    refine lv_iconst (v := 2) hx hb d_K_admits_22 (by decide) ?_
    obtain ⟨r_4, g_5, hf⟩ := Option.bind_eq_some_iff.mp hf
    refine ju_calli (W.runV (As := [.int (a0), .int (2)]) (rest := [.int (r_2), .ref (ad i)]) ⟨hx, hb, hml, hown, hts⟩ (c_K_register l (ad := ad) (sk := sk) (sv := sv) (tK := tK)  i a0 2 hi r_4 g_5) (cwV 2 hts (aw_V aw_44 aw_45 aw_46 aw_12 aw_47) rfl rfl rfl (by decide +kernel) ⟨Nat.le_of_ble_eq_true rfl, Nat.le_of_ble_eq_true rfl⟩) ⟨fun a U g mk q => ⟨q.1, q.2.call⟩, tb_recvK hT hi hS, fun U hU hW => ⟨rfl, hT.at hS hU hW (fun _ z => z.elim)⟩⟩ rfl rfl hl.1 rfl (lv_room (Nat.le_of_ble_eq_true rfl)) d_K_admits_23 ⟨Nat.le_refl _, Nat.le_refl _⟩) ?_
    refine lv_aload_n hx hb d_K_admits_26 rfl (lv_at hl 0 rfl) ?_
    refine lv_iload_n hx hb d_K_admits_27 rfl (lv_at hl 1 rfl) ?_
    refine lv_iconst (v := 4) hx hb d_K_admits_28 (by decide) ?_
    obtain ⟨r_6, g_7, hf⟩ := Option.bind_eq_some_iff.mp hf
    refine ju_calli (W.runV (As := [.int (a0), .int (4)]) (rest := [.int (r_4), .int (r_2), .ref (ad i)]) ⟨hx, hb, hml, hown, hts⟩ (c_K_register l (ad := ad) (sk := sk) (sv := sv) (tK := tK)  i a0 4 hi r_6 g_7) (cwV 2 hts (aw_V aw_44 aw_45 aw_46 aw_12 aw_47) rfl rfl rfl (by decide +kernel) ⟨Nat.le_of_ble_eq_true rfl, Nat.le_of_ble_eq_true rfl⟩) ⟨fun a U g mk q => ⟨q.1, q.2.call⟩, tb_recvK hT hi hS, fun U hU hW => ⟨rfl, hT.at hS hU hW (fun _ z => z.elim)⟩⟩ rfl rfl hl.1 rfl (lv_room (Nat.le_of_ble_eq_true rfl)) d_K_admits_29 ⟨Nat.le_refl _, Nat.le_refl _⟩) ?_
    refine lv_aload_n hx hb d_K_admits_32 rfl (lv_at hl 0 rfl) ?_
    refine lv_iload_n hx hb d_K_admits_33 rfl (lv_at hl 1 rfl) ?_
    obtain ⟨r_8, g_9, hf⟩ := Option.bind_eq_some_iff.mp hf
    refine ju_calli (W.runV (As := [.int (a0)]) (rest := [.int (r_6), .int (r_4), .int (r_2), .ref (ad i)]) ⟨hx, hb, hml, hown, hts⟩ (c_K_immediate l (ad := ad) (sk := sk) (sv := sv) (tK := tK)  i a0 hi r_8 g_9) (cwV 1 hts (aw_V aw_112 aw_113 aw_114 aw_12 aw_115) rfl rfl rfl (by decide +kernel) ⟨Nat.le_of_ble_eq_true rfl, Nat.le_of_ble_eq_true rfl⟩) ⟨fun a U g mk q => ⟨q.1, q.2.call⟩, tb_recvK hT hi hS, fun U hU hW => ⟨rfl, hT.at hS hU hW (fun _ z => z.elim)⟩⟩ rfl rfl hl.1 rfl (lv_room (Nat.le_of_ble_eq_true rfl)) d_K_admits_34 ⟨Nat.le_refl _, Nat.le_refl _⟩) ?_
    obtain ⟨r_10, g_11, hf⟩ := Option.bind_eq_some_iff.mp hf
    refine ju_calli (W.runV (As := [.int (r_2), .int (r_4), .int (r_6), .int (r_8)]) (rest := []) ⟨hx, hb, hml, hown, hts⟩ (c_K_allows l (ad := ad) (sk := sk) (sv := sv) (tK := tK)  i r_2 r_4 r_6 r_8 hi r_10 g_11) (cwV 4 hts (aw_V aw_121 aw_122 aw_123 aw_12 aw_124) rfl rfl rfl (by decide +kernel) ⟨Nat.le_of_ble_eq_true rfl, Nat.le_of_ble_eq_true rfl⟩) ⟨fun a U g mk q => ⟨q.1, q.2.call⟩, tb_recvK hT hi hS, fun U hU hW => ⟨rfl, hT.at hS hU hW (fun _ z => z.elim)⟩⟩ rfl rfl hl.1 rfl (lv_room (Nat.le_of_ble_eq_true rfl)) d_K_admits_37 ⟨Nat.le_refl _, Nat.le_refl _⟩) ?_
    refine lv_if_eq (tgt := 47) hx hb d_K_admits_40 (by decide) (fun c_12 => ?_) (fun c_12 => ?_)
    · replace hf := (if_pos c_12).symm.trans hf
      refine lv_iconst (v := 0) hx hb d_K_admits_47 (by decide) ?_
      exact W.zret (v := 0) hx hb hr (ju_nz false) (fun t ht hW => ⟨congrArg (fun z => Outcome.returned (some (Value.int (bI z)))) (Option.some.inj hf), ht⟩) (fun q h => nomatch h) d_K_admits_48
    · replace hf := (if_neg c_12).symm.trans hf
      refine lv_iconst (v := 1) hx hb d_K_admits_43 (by decide) ?_
      refine lv_goto (tgt := 48) hx hb d_K_admits_44 (by decide) ?_
      exact W.zret (v := 1) hx hb hr (ju_nz true) (fun t ht hW => ⟨congrArg (fun z => Outcome.returned (some (Value.int (bI z)))) (Option.some.inj hf), ht⟩) (fun q h => nomatch h) d_K_admits_48

