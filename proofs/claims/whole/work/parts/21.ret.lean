def f_C_word (a0 : Int32) (a1 : Int32) (a2 : Int32) (a3 : Int32) (a4 : Int32) : Option (Int32 ⊕ String) :=
  (f_C_isKind a0).bind fun r_1 => if (bI r_1) = 0 then (some (.inr "java/lang/IndexOutOfBoundsException")) else (if a0 < 0 ∨ 75 ≤ a0.toNatClampNeg then none else (f_K_allows a0.toNatClampNeg a1 a2 a3 a4).bind fun r_5 => if (bI r_5) = 0 then (some (.inr "java/lang/IllegalArgumentException")) else (if a0 < 0 ∨ 75 ≤ a0.toNatClampNeg then none else (f_K_compose a0.toNatClampNeg a1 a2 a3 a4).bind fun r_9 => some (.inl (r_9))))
set_option maxHeartbeats 4000000 in
set_option maxRecDepth 100000 in
theorem c_C_word (l : Launch) {ad sk sv : Nat → Nat} {tK : Nat} (h0 : Nat) (a0 : Int32) (a1 : Int32) (a2 : Int32) (a3 : Int32) (a4 : Int32) (r : Int32) (hf : f_C_word a0 a1 a2 a3 a4 = some (.inl r)) : Met l y_C_word (Cond.code y_C_word b_C_word 6 (Option.some FieldType.int) :: aw) ({ frames := 7, cells := 0, slots := 0, locals := 153 } : Room) (va_Pc [.ref (h0), .int (a0), .int (a1), .int (a2), .int (a3), .int (a4)] (fun U => tb ad sk sv tK (fun _ => False) U U.heap)) (QcRead r) 0 0 (fun _ => False) := by
  refine Met.ofW (cc := b_C_word) (maxL := 6) (ret := (Option.some FieldType.int)) (by decide) rfl ?_
  intro p e s m args below meth c s₁ B hml hv
  obtain ⟨rfl, hT⟩ := hv
  have hx := B.exec
  have hb := B.bytes
  have hr := B.returns
  have hts := atoms_spec (ws := (Cond.code y_C_word b_C_word 6 (Option.some FieldType.int) :: aw)) B.pre
  have ht : ∀ {w : Cond}, w ∈ aw → w.before ([.ref (h0), .int (a0), .int (a1), .int (a2), .int (a3), .int (a4)] : List Value).toArray s = true := fun h => hts _ (List.mem_cons_of_mem _ h)
  have hown : s.vm.findClass "CodeWords" = some m.cls := findClass_of_methodNamed B.named
  have hlocks := B.notSynchronized
  have hS : va_S (fun _ => False) s.heap s.heap [] := va_S.rf
  have hl := lv_entry ([.ref (h0), .int (a0), .int (a1), .int (a2), .int (a3), .int (a4)]) (n := 6) (Nat.le_of_ble_eq_true rfl)
  rw [lg_entry_eq]
  generalize (lg_sl ([.ref (h0), .int (a0), .int (a1), .int (a2), .int (a3), .int (a4)]) ++ List.replicate (6 - (lg_sl ([.ref (h0), .int (a0), .int (a1), .int (a2), .int (a3), .int (a4)])).length) Slot.unset).toArray = ls at hl ⊢
  have hl : lv_has ls 6 [(0, .ref (h0)), (1, .int (a0)), (2, .int (a1)), (3, .int (a2)), (4, .int (a3)), (5, .int (a4))] := hl
  rw [f_C_word] at hf
  refine lv_iload_n hx hb d_C_word_0 rfl (lv_at hl 1 rfl) ?_
  obtain ⟨r_1, g_2, hf⟩ := Option.bind_eq_some_iff.mp hf
  refine ju_calli (W.runS (As := [.int (a0)]) (rest := []) ⟨hx, hb, hml, hown, hts⟩ (c_C_isKind l (ad := ad) (sk := sk) (sv := sv) (tK := tK)  a0  r_1 g_2) (va_cwS 1 hts (aw_S aw_152 aw_153 aw_1 aw_154) rfl rfl rfl (by decide +kernel) ⟨Nat.le_of_ble_eq_true rfl, Nat.le_of_ble_eq_true rfl⟩) ⟨fun a U g mk q => ⟨q.1, q.2.call⟩, fun U hU hW => ⟨rfl, hT.at hS hU hW (fun _ z => z.elim)⟩⟩ rfl rfl hl.1 rfl (lv_room (Nat.le_of_ble_eq_true rfl)) d_C_word_1 ⟨Nat.le_refl _, Nat.le_refl _⟩) ?_
  refine lv_if_ne (tgt := 17) hx hb d_C_word_4 (by decide) (fun c_3 => ?_) (fun c_3 => ?_)
  · replace hf := (if_neg c_3).symm.trans hf
    refine va_gets (v := .ref (tK)) hx hb hT.1 hS hown (ht aw_38) (fun _ h9 => h9) d_C_word_17 ?_
    refine lv_iload_n hx hb d_C_word_20 rfl (lv_at hl 1 rfl) ?_
    obtain ⟨z_4, hf⟩ := ju_gd hf
    refine vb_tq (v := .ref (ad a0.toNatClampNeg)) hx hb hT.2.1 hS z_4 rfl d_C_word_21 ?_
    refine lv_iload_n hx hb d_C_word_22 rfl (lv_at hl 2 rfl) ?_
    refine lv_iload_n hx hb d_C_word_23 rfl (lv_at hl 3 rfl) ?_
    refine lv_iload hx hb d_C_word_24 (lv_at hl 4 rfl) ?_
    refine lv_iload hx hb d_C_word_26 (lv_at hl 5 rfl) ?_
    obtain ⟨r_5, g_6, hf⟩ := Option.bind_eq_some_iff.mp hf
    refine ju_calli (W.runV (As := [.int (a1), .int (a2), .int (a3), .int (a4)]) (rest := []) ⟨hx, hb, hml, hown, hts⟩ (c_K_allows l (ad := ad) (sk := sk) (sv := sv) (tK := tK)  a0.toNatClampNeg a1 a2 a3 a4 (ju_lt z_4) r_5 g_6) (cwV 4 hts (aw_V aw_167 aw_122 aw_123 aw_12 aw_124) rfl rfl rfl (by decide +kernel) ⟨Nat.le_of_ble_eq_true rfl, Nat.le_of_ble_eq_true rfl⟩) ⟨fun a U g mk q => ⟨q.1, q.2.call⟩, tb_recvK hT (ju_lt z_4) hS, fun U hU hW => ⟨rfl, hT.at hS hU hW (fun _ z => z.elim)⟩⟩ rfl rfl hl.1 rfl (lv_room (Nat.le_of_ble_eq_true rfl)) d_C_word_28 ⟨Nat.le_refl _, Nat.le_refl _⟩) ?_
    refine lv_if_ne (tgt := 44) hx hb d_C_word_31 (by decide) (fun c_7 => ?_) (fun c_7 => ?_)
    · replace hf := (if_neg c_7).symm.trans hf
      refine va_gets (v := .ref (tK)) hx hb hT.1 hS hown (ht aw_38) (fun _ h9 => h9) d_C_word_44 ?_
      refine lv_iload_n hx hb d_C_word_47 rfl (lv_at hl 1 rfl) ?_
      obtain ⟨z_8, hf⟩ := ju_gd hf
      refine vb_tq (v := .ref (ad a0.toNatClampNeg)) hx hb hT.2.1 hS z_8 rfl d_C_word_48 ?_
      refine lv_iload_n hx hb d_C_word_49 rfl (lv_at hl 2 rfl) ?_
      refine lv_iload_n hx hb d_C_word_50 rfl (lv_at hl 3 rfl) ?_
      refine lv_iload hx hb d_C_word_51 (lv_at hl 4 rfl) ?_
      refine lv_iload hx hb d_C_word_53 (lv_at hl 5 rfl) ?_
      obtain ⟨r_9, g_10, hf⟩ := Option.bind_eq_some_iff.mp hf
      refine ju_calli (W.runV (As := [.int (a1), .int (a2), .int (a3), .int (a4)]) (rest := []) ⟨hx, hb, hml, hown, hts⟩ (c_K_compose l (ad := ad) (sk := sk) (sv := sv) (tK := tK)  a0.toNatClampNeg a1 a2 a3 a4 (ju_lt z_8) r_9 g_10) (cwV 4 hts (aw_V aw_155 aw_156 aw_157 aw_12 aw_158) rfl rfl rfl (by decide +kernel) ⟨Nat.le_of_ble_eq_true rfl, Nat.le_of_ble_eq_true rfl⟩) ⟨fun a U g mk q => ⟨q.1, q.2.call⟩, tb_recvK hT (ju_lt z_8) hS, fun U hU hW => ⟨rfl, hT.at hS hU hW (fun _ z => z.elim)⟩⟩ rfl rfl hl.1 rfl (lv_room (Nat.le_of_ble_eq_true rfl)) d_C_word_55 ⟨Nat.le_refl _, Nat.le_refl _⟩) ?_
      exact W.iret (v := r_9) hx hb hr (fun t ht hW => ⟨congrArg (fun z => Outcome.returned (some (Value.int z))) (Sum.inl.inj (Option.some.inj hf)), ht⟩) (fun q h => nomatch h) d_C_word_58
    · replace hf := (if_pos c_7).symm.trans hf
      cases hf
  · replace hf := (if_pos c_3).symm.trans hf
    cases hf

def f_C_part (a0 : Int32) (a1 : Int32) : Option (Int32 ⊕ String) :=
  (f_C_numberOf a0).bind fun r_1 => if r_1 = ((-1)) then (some (.inr "java/util/NoSuchElementException")) else (if a1 < 0 then (some (.inr "java/util/NoSuchElementException")) else (if 3 < a1 then (some (.inr "java/util/NoSuchElementException")) else (if r_1 < 0 ∨ 75 ≤ r_1.toNatClampNeg then none else (f_K_has r_1.toNatClampNeg ((1 : Int32) <<< (a1 &&& 31))).bind fun r_7 => if (bI r_7) = 0 then (some (.inr "java/util/NoSuchElementException")) else (if a1 = 3 then (if r_1 < 0 ∨ 75 ≤ r_1.toNatClampNeg then none else (f_K_immediate r_1.toNatClampNeg a0).bind fun r_15 => some (.inl (r_15))) else (if r_1 < 0 ∨ 75 ≤ r_1.toNatClampNeg then none else (f_K_register r_1.toNatClampNeg a0 ((1 : Int32) <<< (a1 &&& 31))).bind fun r_12 => some (.inl (r_12)))))))
set_option maxHeartbeats 4000000 in
set_option maxRecDepth 100000 in
theorem c_C_part (l : Launch) {ad sk sv : Nat → Nat} {tK : Nat} (h0 : Nat) (a0 : Int32) (a1 : Int32) (r : Int32) (hf : f_C_part a0 a1 = some (.inl r)) : Met l y_C_part (Cond.code y_C_part b_C_part 4 (Option.some FieldType.int) :: aw) ({ frames := 9, cells := 0, slots := 0, locals := 195 } : Room) (va_Pc [.ref (h0), .int (a0), .int (a1)] (fun U => tb ad sk sv tK (fun _ => False) U U.heap)) (QcRead r) 0 0 (fun _ => False) := by
  refine Met.ofW (cc := b_C_part) (maxL := 4) (ret := (Option.some FieldType.int)) (by decide) rfl ?_
  intro p e s m args below meth c s₁ B hml hv
  obtain ⟨rfl, hT⟩ := hv
  have hx := B.exec
  have hb := B.bytes
  have hr := B.returns
  have hts := atoms_spec (ws := (Cond.code y_C_part b_C_part 4 (Option.some FieldType.int) :: aw)) B.pre
  have ht : ∀ {w : Cond}, w ∈ aw → w.before ([.ref (h0), .int (a0), .int (a1)] : List Value).toArray s = true := fun h => hts _ (List.mem_cons_of_mem _ h)
  have hown : s.vm.findClass "CodeWords" = some m.cls := findClass_of_methodNamed B.named
  have hlocks := B.notSynchronized
  have hS : va_S (fun _ => False) s.heap s.heap [] := va_S.rf
  have hl := lv_entry ([.ref (h0), .int (a0), .int (a1)]) (n := 4) (Nat.le_of_ble_eq_true rfl)
  rw [lg_entry_eq]
  generalize (lg_sl ([.ref (h0), .int (a0), .int (a1)]) ++ List.replicate (4 - (lg_sl ([.ref (h0), .int (a0), .int (a1)])).length) Slot.unset).toArray = ls at hl ⊢
  have hl : lv_has ls 4 [(0, .ref (h0)), (1, .int (a0)), (2, .int (a1))] := hl
  rw [f_C_part] at hf
  refine lv_iload_n hx hb d_C_part_0 rfl (lv_at hl 1 rfl) ?_
  obtain ⟨r_1, g_2, hf⟩ := Option.bind_eq_some_iff.mp hf
  refine ju_calli (W.runS (As := [.int (a0)]) (rest := []) ⟨hx, hb, hml, hown, hts⟩ (c_C_numberOf l (ad := ad) (sk := sk) (sv := sv) (tK := tK)  a0  r_1 g_2) (va_cwS 1 hts (aw_S aw_35 aw_36 aw_1 aw_37) rfl rfl rfl (by decide +kernel) ⟨Nat.le_of_ble_eq_true rfl, Nat.le_of_ble_eq_true rfl⟩) ⟨fun a U g mk q => ⟨q.1, q.2.call⟩, fun U hU hW => ⟨rfl, hT.at hS hU hW (fun _ z => z.elim)⟩⟩ rfl rfl hl.1 rfl (lv_room (Nat.le_of_ble_eq_true rfl)) d_C_part_1 ⟨Nat.le_refl _, Nat.le_refl _⟩) ?_
  refine lv_istore_n (lv' := [(3, .int (r_1)), (0, .ref (h0)), (1, .int (a0)), (2, .int (a1))]) hx hb d_C_part_4 rfl hl (by decide) rfl (fun ls hl => ?_)
  refine lv_iload_n hx hb d_C_part_5 rfl (lv_at hl 0 rfl) ?_
  refine lv_iconst (v := (-1)) hx hb d_C_part_6 (by decide) ?_
  refine lv_icmp_ne (tgt := 20) hx hb d_C_part_7 (by decide) (fun c_3 => ?_) (fun c_3 => ?_)
  · replace hf := (if_neg c_3).symm.trans hf
    refine lv_iload_n hx hb d_C_part_20 rfl (lv_at hl 3 rfl) ?_
    refine lv_if_lt (tgt := 43) hx hb d_C_part_21 (by decide) (fun c_4 => ?_) (fun c_4 => ?_)
    · replace hf := (if_pos c_4).symm.trans hf
      cases hf
    · replace hf := (if_neg c_4).symm.trans hf
      refine lv_iload_n hx hb d_C_part_24 rfl (lv_at hl 3 rfl) ?_
      refine lv_iconst (v := 3) hx hb d_C_part_25 (by decide) ?_
      refine lv_icmp_gt (tgt := 43) hx hb d_C_part_26 (by decide) (fun c_5 => ?_) (fun c_5 => ?_)
      · replace hf := (if_pos c_5).symm.trans hf
        cases hf
      · replace hf := (if_neg c_5).symm.trans hf
        refine va_gets (v := .ref (tK)) hx hb hT.1 hS hown (ht aw_38) (fun _ h9 => h9) d_C_part_29 ?_
        refine lv_iload_n hx hb d_C_part_32 rfl (lv_at hl 0 rfl) ?_
        obtain ⟨z_6, hf⟩ := ju_gd hf
        refine vb_tq (v := .ref (ad r_1.toNatClampNeg)) hx hb hT.2.1 hS z_6 rfl d_C_part_33 ?_
        refine lv_iconst (v := 1) hx hb d_C_part_34 (by decide) ?_
        refine lv_iload_n hx hb d_C_part_35 rfl (lv_at hl 3 rfl) ?_
        refine lv_ishl hx hb d_C_part_36 ?_
        obtain ⟨r_7, g_8, hf⟩ := Option.bind_eq_some_iff.mp hf
        refine ju_calli (W.runV (As := [.int ((1 : Int32) <<< (a1 &&& 31))]) (rest := []) ⟨hx, hb, hml, hown, hts⟩ (c_K_has l (ad := ad) (sk := sk) (sv := sv) (tK := tK)  r_1.toNatClampNeg ((1 : Int32) <<< (a1 &&& 31)) (ju_lt z_6) r_7 g_8) (cwV 1 hts (aw_V aw_176 aw_49 aw_50 aw_12 aw_51) rfl rfl rfl (by decide +kernel) ⟨Nat.le_of_ble_eq_true rfl, Nat.le_of_ble_eq_true rfl⟩) ⟨fun a U g mk q => ⟨q.1, q.2.call⟩, tb_recvK hT (ju_lt z_6) hS, fun U hU hW => ⟨rfl, hT.at hS hU hW (fun _ z => z.elim)⟩⟩ rfl rfl hl.1 rfl (lv_room (Nat.le_of_ble_eq_true rfl)) d_C_part_37 ⟨Nat.le_refl _, Nat.le_refl _⟩) ?_
        refine lv_if_ne (tgt := 53) hx hb d_C_part_40 (by decide) (fun c_9 => ?_) (fun c_9 => ?_)
        · replace hf := (if_neg c_9).symm.trans hf
          refine lv_iload_n hx hb d_C_part_53 rfl (lv_at hl 3 rfl) ?_
          refine lv_iconst (v := 3) hx hb d_C_part_54 (by decide) ?_
          refine lv_icmp_ne (tgt := 70) hx hb d_C_part_55 (by decide) (fun c_10 => ?_) (fun c_10 => ?_)
          · replace hf := (if_neg c_10).symm.trans hf
            refine va_gets (v := .ref (tK)) hx hb hT.1 hS hown (ht aw_38) (fun _ h9 => h9) d_C_part_70 ?_
            refine lv_iload_n hx hb d_C_part_73 rfl (lv_at hl 0 rfl) ?_
            obtain ⟨z_11, hf⟩ := ju_gd hf
            refine vb_tq (v := .ref (ad r_1.toNatClampNeg)) hx hb hT.2.1 hS z_11 rfl d_C_part_74 ?_
            refine lv_iload_n hx hb d_C_part_75 rfl (lv_at hl 2 rfl) ?_
            refine lv_iconst (v := 1) hx hb d_C_part_76 (by decide) ?_
            refine lv_iload_n hx hb d_C_part_77 rfl (lv_at hl 3 rfl) ?_
            refine lv_ishl hx hb d_C_part_78 ?_
            obtain ⟨r_12, g_13, hf⟩ := Option.bind_eq_some_iff.mp hf
            refine ju_calli (W.runV (As := [.int (a0), .int ((1 : Int32) <<< (a1 &&& 31))]) (rest := []) ⟨hx, hb, hml, hown, hts⟩ (c_K_register l (ad := ad) (sk := sk) (sv := sv) (tK := tK)  r_1.toNatClampNeg a0 ((1 : Int32) <<< (a1 &&& 31)) (ju_lt z_11) r_12 g_13) (cwV 2 hts (aw_V aw_147 aw_45 aw_46 aw_12 aw_47) rfl rfl rfl (by decide +kernel) ⟨Nat.le_of_ble_eq_true rfl, Nat.le_of_ble_eq_true rfl⟩) ⟨fun a U g mk q => ⟨q.1, q.2.call⟩, tb_recvK hT (ju_lt z_11) hS, fun U hU hW => ⟨rfl, hT.at hS hU hW (fun _ z => z.elim)⟩⟩ rfl rfl hl.1 rfl (lv_room (Nat.le_of_ble_eq_true rfl)) d_C_part_79 ⟨Nat.le_refl _, Nat.le_refl _⟩) ?_
            exact W.iret (v := r_12) hx hb hr (fun t ht hW => ⟨congrArg (fun z => Outcome.returned (some (Value.int z))) (Sum.inl.inj (Option.some.inj hf)), ht⟩) (fun q h => nomatch h) d_C_part_82
          · replace hf := (if_pos c_10).symm.trans hf
            refine va_gets (v := .ref (tK)) hx hb hT.1 hS hown (ht aw_38) (fun _ h9 => h9) d_C_part_58 ?_
            refine lv_iload_n hx hb d_C_part_61 rfl (lv_at hl 0 rfl) ?_
            obtain ⟨z_14, hf⟩ := ju_gd hf
            refine vb_tq (v := .ref (ad r_1.toNatClampNeg)) hx hb hT.2.1 hS z_14 rfl d_C_part_62 ?_
            refine lv_iload_n hx hb d_C_part_63 rfl (lv_at hl 2 rfl) ?_
            obtain ⟨r_15, g_16, hf⟩ := Option.bind_eq_some_iff.mp hf
            refine ju_calli (W.runV (As := [.int (a0)]) (rest := []) ⟨hx, hb, hml, hown, hts⟩ (c_K_immediate l (ad := ad) (sk := sk) (sv := sv) (tK := tK)  r_1.toNatClampNeg a0 (ju_lt z_14) r_15 g_16) (cwV 1 hts (aw_V aw_148 aw_113 aw_114 aw_12 aw_115) rfl rfl rfl (by decide +kernel) ⟨Nat.le_of_ble_eq_true rfl, Nat.le_of_ble_eq_true rfl⟩) ⟨fun a U g mk q => ⟨q.1, q.2.call⟩, tb_recvK hT (ju_lt z_14) hS, fun U hU hW => ⟨rfl, hT.at hS hU hW (fun _ z => z.elim)⟩⟩ rfl rfl hl.1 rfl (lv_room (Nat.le_of_ble_eq_true rfl)) d_C_part_64 ⟨Nat.le_refl _, Nat.le_refl _⟩) ?_
            refine lv_goto (tgt := 82) hx hb d_C_part_67 (by decide) ?_
            exact W.iret (v := r_15) hx hb hr (fun t ht hW => ⟨congrArg (fun z => Outcome.returned (some (Value.int z))) (Sum.inl.inj (Option.some.inj hf)), ht⟩) (fun q h => nomatch h) d_C_part_82
        · replace hf := (if_pos c_9).symm.trans hf
          cases hf
  · replace hf := (if_pos c_3).symm.trans hf
    cases hf

def f_C_longer (a0 : Int32) : Option (Int32 ⊕ String) :=
  (f_C_numberOf a0).bind fun r_1 => if r_1 = ((-1)) then (some (.inr "java/util/NoSuchElementException")) else (if r_1 < 0 ∨ 75 ≤ r_1.toNatClampNeg then none else (f_C_isKind (k_stands r_1.toNatClampNeg)).bind fun r_5 => if (bI r_5) = 0 then (some (.inr "java/util/NoSuchElementException")) else (if r_1 < 0 ∨ 75 ≤ r_1.toNatClampNeg then none else (f_K_register r_1.toNatClampNeg a0 1).bind fun r_9 => (f_K_register r_1.toNatClampNeg a0 2).bind fun r_11 => (f_K_register r_1.toNatClampNeg a0 4).bind fun r_13 => (f_K_immediate r_1.toNatClampNeg a0).bind fun r_15 => (f_C_longOf r_1.toNatClampNeg r_9 r_11 r_13 r_15).bind fun r_17 => some (.inl (r_17))))
set_option maxHeartbeats 4000000 in
set_option maxRecDepth 100000 in
theorem c_C_longer (l : Launch) {ad sk sv : Nat → Nat} {tK : Nat} (h0 : Nat) (a0 : Int32) (r : Int32) (hf : f_C_longer a0 = some (.inl r)) : Met l y_C_longer (Cond.code y_C_longer b_C_longer 4 (Option.some FieldType.int) :: aw) ({ frames := 9, cells := 0, slots := 0, locals := 195 } : Room) (va_Pc [.ref (h0), .int (a0)] (fun U => tb ad sk sv tK (fun _ => False) U U.heap)) (QcRead r) 0 0 (fun _ => False) := by
  refine Met.ofW (cc := b_C_longer) (maxL := 4) (ret := (Option.some FieldType.int)) (by decide) rfl ?_
  intro p e s m args below meth c s₁ B hml hv
  obtain ⟨rfl, hT⟩ := hv
  have hx := B.exec
  have hb := B.bytes
  have hr := B.returns
  have hts := atoms_spec (ws := (Cond.code y_C_longer b_C_longer 4 (Option.some FieldType.int) :: aw)) B.pre
  have ht : ∀ {w : Cond}, w ∈ aw → w.before ([.ref (h0), .int (a0)] : List Value).toArray s = true := fun h => hts _ (List.mem_cons_of_mem _ h)
  have hown : s.vm.findClass "CodeWords" = some m.cls := findClass_of_methodNamed B.named
  have hlocks := B.notSynchronized
  have hS : va_S (fun _ => False) s.heap s.heap [] := va_S.rf
  have hl := lv_entry ([.ref (h0), .int (a0)]) (n := 4) (Nat.le_of_ble_eq_true rfl)
  rw [lg_entry_eq]
  generalize (lg_sl ([.ref (h0), .int (a0)]) ++ List.replicate (4 - (lg_sl ([.ref (h0), .int (a0)])).length) Slot.unset).toArray = ls at hl ⊢
  have hl : lv_has ls 4 [(0, .ref (h0)), (1, .int (a0))] := hl
  rw [f_C_longer] at hf
  refine lv_iload_n hx hb d_C_longer_0 rfl (lv_at hl 1 rfl) ?_
  obtain ⟨r_1, g_2, hf⟩ := Option.bind_eq_some_iff.mp hf
  refine ju_calli (W.runS (As := [.int (a0)]) (rest := []) ⟨hx, hb, hml, hown, hts⟩ (c_C_numberOf l (ad := ad) (sk := sk) (sv := sv) (tK := tK)  a0  r_1 g_2) (va_cwS 1 hts (aw_S aw_35 aw_36 aw_1 aw_37) rfl rfl rfl (by decide +kernel) ⟨Nat.le_of_ble_eq_true rfl, Nat.le_of_ble_eq_true rfl⟩) ⟨fun a U g mk q => ⟨q.1, q.2.call⟩, fun U hU hW => ⟨rfl, hT.at hS hU hW (fun _ z => z.elim)⟩⟩ rfl rfl hl.1 rfl (lv_room (Nat.le_of_ble_eq_true rfl)) d_C_longer_1 ⟨Nat.le_refl _, Nat.le_refl _⟩) ?_
  refine lv_istore_n (lv' := [(2, .int (r_1)), (0, .ref (h0)), (1, .int (a0))]) hx hb d_C_longer_4 rfl hl (by decide) rfl (fun ls hl => ?_)
  refine lv_iload_n hx hb d_C_longer_5 rfl (lv_at hl 0 rfl) ?_
  refine lv_iconst (v := (-1)) hx hb d_C_longer_6 (by decide) ?_
  refine lv_icmp_eq (tgt := 24) hx hb d_C_longer_7 (by decide) (fun c_3 => ?_) (fun c_3 => ?_)
  · replace hf := (if_pos c_3).symm.trans hf
    cases hf
  · replace hf := (if_neg c_3).symm.trans hf
    refine va_gets (v := .ref (tK)) hx hb hT.1 hS hown (ht aw_38) (fun _ h9 => h9) d_C_longer_10 ?_
    refine lv_iload_n hx hb d_C_longer_13 rfl (lv_at hl 0 rfl) ?_
    obtain ⟨z_4, hf⟩ := ju_gd hf
    refine vb_tq (v := .ref (ad r_1.toNatClampNeg)) hx hb hT.2.1 hS z_4 rfl d_C_longer_14 ?_
    refine vk_getf (v := .int (k_stands r_1.toNatClampNeg)) hx hb (tb_stands hT (ju_lt z_4)) hS hown (ht aw_774) (fun _ h9 => h9) d_C_longer_15 ?_
    obtain ⟨r_5, g_6, hf⟩ := Option.bind_eq_some_iff.mp hf
    refine ju_calli (W.runS (As := [.int (k_stands r_1.toNatClampNeg)]) (rest := []) ⟨hx, hb, hml, hown, hts⟩ (c_C_isKind l (ad := ad) (sk := sk) (sv := sv) (tK := tK)  (k_stands r_1.toNatClampNeg)  r_5 g_6) (va_cwS 1 hts (aw_S aw_152 aw_153 aw_1 aw_154) rfl rfl rfl (by decide +kernel) ⟨Nat.le_of_ble_eq_true rfl, Nat.le_of_ble_eq_true rfl⟩) ⟨fun a U g mk q => ⟨q.1, q.2.call⟩, fun U hU hW => ⟨rfl, hT.at hS hU hW (fun _ z => z.elim)⟩⟩ rfl rfl hl.1 rfl (lv_room (Nat.le_of_ble_eq_true rfl)) d_C_longer_18 ⟨Nat.le_refl _, Nat.le_refl _⟩) ?_
    refine lv_if_ne (tgt := 34) hx hb d_C_longer_21 (by decide) (fun c_7 => ?_) (fun c_7 => ?_)
    · replace hf := (if_neg c_7).symm.trans hf
      refine va_gets (v := .ref (tK)) hx hb hT.1 hS hown (ht aw_38) (fun _ h9 => h9) d_C_longer_34 ?_
      refine lv_iload_n hx hb d_C_longer_37 rfl (lv_at hl 0 rfl) ?_
      obtain ⟨z_8, hf⟩ := ju_gd hf
      refine vb_tq (v := .ref (ad r_1.toNatClampNeg)) hx hb hT.2.1 hS z_8 rfl d_C_longer_38 ?_
      refine lv_astore_n (lv' := [(3, .ref (ad r_1.toNatClampNeg)), (2, .int (r_1)), (0, .ref (h0)), (1, .int (a0))]) hx hb d_C_longer_39 rfl hl (by decide) rfl (fun ls hl => ?_)
      refine lv_aload_n hx hb d_C_longer_40 rfl (lv_at hl 0 rfl) ?_
      refine lv_aload_n hx hb d_C_longer_41 rfl (lv_at hl 0 rfl) ?_
      refine lv_iload_n hx hb d_C_longer_42 rfl (lv_at hl 3 rfl) ?_
      refine lv_iconst (v := 1) hx hb d_C_longer_43 (by decide) ?_
      obtain ⟨r_9, g_10, hf⟩ := Option.bind_eq_some_iff.mp hf
      refine ju_calli (W.runV (As := [.int (a0), .int (1)]) (rest := [.ref (ad r_1.toNatClampNeg)]) ⟨hx, hb, hml, hown, hts⟩ (c_K_register l (ad := ad) (sk := sk) (sv := sv) (tK := tK)  r_1.toNatClampNeg a0 1 (ju_lt z_8) r_9 g_10) (cwV 2 hts (aw_V aw_147 aw_45 aw_46 aw_12 aw_47) rfl rfl rfl (by decide +kernel) ⟨Nat.le_of_ble_eq_true rfl, Nat.le_of_ble_eq_true rfl⟩) ⟨fun a U g mk q => ⟨q.1, q.2.call⟩, tb_recvK hT (ju_lt z_8) hS, fun U hU hW => ⟨rfl, hT.at hS hU hW (fun _ z => z.elim)⟩⟩ rfl rfl hl.1 rfl (lv_room (Nat.le_of_ble_eq_true rfl)) d_C_longer_44 ⟨Nat.le_refl _, Nat.le_refl _⟩) ?_
      refine lv_aload_n hx hb d_C_longer_47 rfl (lv_at hl 0 rfl) ?_
      refine lv_iload_n hx hb d_C_longer_48 rfl (lv_at hl 3 rfl) ?_
      refine lv_iconst (v := 2) hx hb d_C_longer_49 (by decide) ?_
      obtain ⟨r_11, g_12, hf⟩ := Option.bind_eq_some_iff.mp hf
      refine ju_calli (W.runV (As := [.int (a0), .int (2)]) (rest := [.int (r_9), .ref (ad r_1.toNatClampNeg)]) ⟨hx, hb, hml, hown, hts⟩ (c_K_register l (ad := ad) (sk := sk) (sv := sv) (tK := tK)  r_1.toNatClampNeg a0 2 (ju_lt z_8) r_11 g_12) (cwV 2 hts (aw_V aw_147 aw_45 aw_46 aw_12 aw_47) rfl rfl rfl (by decide +kernel) ⟨Nat.le_of_ble_eq_true rfl, Nat.le_of_ble_eq_true rfl⟩) ⟨fun a U g mk q => ⟨q.1, q.2.call⟩, tb_recvK hT (ju_lt z_8) hS, fun U hU hW => ⟨rfl, hT.at hS hU hW (fun _ z => z.elim)⟩⟩ rfl rfl hl.1 rfl (lv_room (Nat.le_of_ble_eq_true rfl)) d_C_longer_50 ⟨Nat.le_refl _, Nat.le_refl _⟩) ?_
      refine lv_aload_n hx hb d_C_longer_53 rfl (lv_at hl 0 rfl) ?_
      refine lv_iload_n hx hb d_C_longer_54 rfl (lv_at hl 3 rfl) ?_
      refine lv_iconst (v := 4) hx hb d_C_longer_55 (by decide) ?_
      obtain ⟨r_13, g_14, hf⟩ := Option.bind_eq_some_iff.mp hf
      refine ju_calli (W.runV (As := [.int (a0), .int (4)]) (rest := [.int (r_11), .int (r_9), .ref (ad r_1.toNatClampNeg)]) ⟨hx, hb, hml, hown, hts⟩ (c_K_register l (ad := ad) (sk := sk) (sv := sv) (tK := tK)  r_1.toNatClampNeg a0 4 (ju_lt z_8) r_13 g_14) (cwV 2 hts (aw_V aw_147 aw_45 aw_46 aw_12 aw_47) rfl rfl rfl (by decide +kernel) ⟨Nat.le_of_ble_eq_true rfl, Nat.le_of_ble_eq_true rfl⟩) ⟨fun a U g mk q => ⟨q.1, q.2.call⟩, tb_recvK hT (ju_lt z_8) hS, fun U hU hW => ⟨rfl, hT.at hS hU hW (fun _ z => z.elim)⟩⟩ rfl rfl hl.1 rfl (lv_room (Nat.le_of_ble_eq_true rfl)) d_C_longer_56 ⟨Nat.le_refl _, Nat.le_refl _⟩) ?_
      refine lv_aload_n hx hb d_C_longer_59 rfl (lv_at hl 0 rfl) ?_
      refine lv_iload_n hx hb d_C_longer_60 rfl (lv_at hl 3 rfl) ?_
      obtain ⟨r_15, g_16, hf⟩ := Option.bind_eq_some_iff.mp hf
      refine ju_calli (W.runV (As := [.int (a0)]) (rest := [.int (r_13), .int (r_11), .int (r_9), .ref (ad r_1.toNatClampNeg)]) ⟨hx, hb, hml, hown, hts⟩ (c_K_immediate l (ad := ad) (sk := sk) (sv := sv) (tK := tK)  r_1.toNatClampNeg a0 (ju_lt z_8) r_15 g_16) (cwV 1 hts (aw_V aw_148 aw_113 aw_114 aw_12 aw_115) rfl rfl rfl (by decide +kernel) ⟨Nat.le_of_ble_eq_true rfl, Nat.le_of_ble_eq_true rfl⟩) ⟨fun a U g mk q => ⟨q.1, q.2.call⟩, tb_recvK hT (ju_lt z_8) hS, fun U hU hW => ⟨rfl, hT.at hS hU hW (fun _ z => z.elim)⟩⟩ rfl rfl hl.1 rfl (lv_room (Nat.le_of_ble_eq_true rfl)) d_C_longer_61 ⟨Nat.le_refl _, Nat.le_refl _⟩) ?_
      obtain ⟨r_17, g_18, hf⟩ := Option.bind_eq_some_iff.mp hf
      refine ju_calli (W.runS (As := [.ref (ad r_1.toNatClampNeg), .int (r_9), .int (r_11), .int (r_13), .int (r_15)]) (rest := []) ⟨hx, hb, hml, hown, hts⟩ (c_C_longOf l (ad := ad) (sk := sk) (sv := sv) (tK := tK)  r_1.toNatClampNeg r_9 r_11 r_13 r_15 (ju_lt z_8) r_17 g_18) (va_cwS 5 hts (aw_S aw_168 aw_169 aw_1 aw_170) rfl rfl rfl (by decide +kernel) ⟨Nat.le_of_ble_eq_true rfl, Nat.le_of_ble_eq_true rfl⟩) ⟨fun a U g mk q => ⟨q.1, q.2.call⟩, fun U hU hW => ⟨rfl, hT.at hS hU hW (fun _ z => z.elim)⟩⟩ rfl rfl hl.1 rfl (lv_room (Nat.le_of_ble_eq_true rfl)) d_C_longer_64 ⟨Nat.le_refl _, Nat.le_refl _⟩) ?_
      exact W.iret (v := r_17) hx hb hr (fun t ht hW => ⟨congrArg (fun z => Outcome.returned (some (Value.int z))) (Sum.inl.inj (Option.some.inj hf)), ht⟩) (fun q h => nomatch h) d_C_longer_67
    · replace hf := (if_pos c_7).symm.trans hf
      cases hf

def f_C_fit (a0 : Int32) (a1 : Int64) : Option (Int32 ⊕ String) :=
  (f_C_numberOf a0).bind fun r_1 => if r_1 = ((-1)) then (some (.inr "java/lang/IllegalArgumentException")) else (if r_1 < 0 ∨ 75 ≤ r_1.toNatClampNeg then none else (f_K_allowsImmediate r_1.toNatClampNeg a1).bind fun r_5 => if (bI r_5) = 0 then (some (.inr "java/lang/IllegalArgumentException")) else ((f_K_register r_1.toNatClampNeg a0 1).bind fun r_8 => (f_K_register r_1.toNatClampNeg a0 2).bind fun r_10 => (f_K_register r_1.toNatClampNeg a0 4).bind fun r_12 => (f_K_compose r_1.toNatClampNeg r_8 r_10 r_12 a1.toInt32).bind fun r_14 => some (.inl (r_14))))
set_option maxHeartbeats 4000000 in
set_option maxRecDepth 100000 in
theorem c_C_fit (l : Launch) {ad sk sv : Nat → Nat} {tK : Nat} (h0 : Nat) (a0 : Int32) (a1 : Int64) (r : Int32) (hf : f_C_fit a0 a1 = some (.inl r)) : Met l y_C_fit (Cond.code y_C_fit b_C_fit 6 (Option.some FieldType.int) :: aw) ({ frames := 9, cells := 0, slots := 0, locals := 195 } : Room) (va_Pc [.ref (h0), .int (a0), .long (a1)] (fun U => tb ad sk sv tK (fun _ => False) U U.heap)) (QcRead r) 0 0 (fun _ => False) := by
  refine Met.ofW (cc := b_C_fit) (maxL := 6) (ret := (Option.some FieldType.int)) (by decide) rfl ?_
  intro p e s m args below meth c s₁ B hml hv
  obtain ⟨rfl, hT⟩ := hv
  have hx := B.exec
  have hb := B.bytes
  have hr := B.returns
  have hts := atoms_spec (ws := (Cond.code y_C_fit b_C_fit 6 (Option.some FieldType.int) :: aw)) B.pre
  have ht : ∀ {w : Cond}, w ∈ aw → w.before ([.ref (h0), .int (a0), .long (a1)] : List Value).toArray s = true := fun h => hts _ (List.mem_cons_of_mem _ h)
  have hown : s.vm.findClass "CodeWords" = some m.cls := findClass_of_methodNamed B.named
  have hlocks := B.notSynchronized
  have hS : va_S (fun _ => False) s.heap s.heap [] := va_S.rf
  have hl := lv_entry ([.ref (h0), .int (a0), .long (a1)]) (n := 6) (Nat.le_of_ble_eq_true rfl)
  rw [lg_entry_eq]
  generalize (lg_sl ([.ref (h0), .int (a0), .long (a1)]) ++ List.replicate (6 - (lg_sl ([.ref (h0), .int (a0), .long (a1)])).length) Slot.unset).toArray = ls at hl ⊢
  have hl : lv_has ls 6 [(0, .ref (h0)), (1, .int (a0)), (2, .long (a1))] := hl
  rw [f_C_fit] at hf
  refine lv_iload_n hx hb d_C_fit_0 rfl (lv_at hl 1 rfl) ?_
  obtain ⟨r_1, g_2, hf⟩ := Option.bind_eq_some_iff.mp hf
  refine ju_calli (W.runS (As := [.int (a0)]) (rest := []) ⟨hx, hb, hml, hown, hts⟩ (c_C_numberOf l (ad := ad) (sk := sk) (sv := sv) (tK := tK)  a0  r_1 g_2) (va_cwS 1 hts (aw_S aw_35 aw_36 aw_1 aw_37) rfl rfl rfl (by decide +kernel) ⟨Nat.le_of_ble_eq_true rfl, Nat.le_of_ble_eq_true rfl⟩) ⟨fun a U g mk q => ⟨q.1, q.2.call⟩, fun U hU hW => ⟨rfl, hT.at hS hU hW (fun _ z => z.elim)⟩⟩ rfl rfl hl.1 rfl (lv_room (Nat.le_of_ble_eq_true rfl)) d_C_fit_1 ⟨Nat.le_refl _, Nat.le_refl _⟩) ?_
  refine lv_istore (lv' := [(4, .int (r_1)), (0, .ref (h0)), (1, .int (a0)), (2, .long (a1))]) hx hb d_C_fit_4 hl (by decide) rfl (fun ls hl => ?_)
  refine lv_iload hx hb d_C_fit_6 (lv_at hl 0 rfl) ?_
  refine lv_iconst (v := (-1)) hx hb d_C_fit_8 (by decide) ?_
  refine lv_icmp_ne (tgt := 22) hx hb d_C_fit_9 (by decide) (fun c_3 => ?_) (fun c_3 => ?_)
  · replace hf := (if_neg c_3).symm.trans hf
    refine va_gets (v := .ref (tK)) hx hb hT.1 hS hown (ht aw_38) (fun _ h9 => h9) d_C_fit_22 ?_
    refine lv_iload hx hb d_C_fit_25 (lv_at hl 0 rfl) ?_
    obtain ⟨z_4, hf⟩ := ju_gd hf
    refine vb_tq (v := .ref (ad r_1.toNatClampNeg)) hx hb hT.2.1 hS z_4 rfl d_C_fit_27 ?_
    refine lv_astore (lv' := [(5, .ref (ad r_1.toNatClampNeg)), (4, .int (r_1)), (0, .ref (h0)), (1, .int (a0)), (2, .long (a1))]) hx hb d_C_fit_28 hl (by decide) rfl (fun ls hl => ?_)
    refine lv_aload hx hb d_C_fit_30 (lv_at hl 0 rfl) ?_
    refine lv_lload_n hx hb d_C_fit_32 rfl (lv_at hl 4 rfl) ?_
    obtain ⟨r_5, g_6, hf⟩ := Option.bind_eq_some_iff.mp hf
    refine ju_calli (W.runV (As := [.long (a1)]) (rest := []) ⟨hx, hb, hml, hown, hts⟩ (c_K_allowsImmediate l (ad := ad) (sk := sk) (sv := sv) (tK := tK)  r_1.toNatClampNeg a1 (ju_lt z_4) r_5 g_6) (cwV 1 hts (aw_V aw_184 aw_130 aw_131 aw_12 aw_132) rfl rfl rfl (by decide +kernel) ⟨Nat.le_of_ble_eq_true rfl, Nat.le_of_ble_eq_true rfl⟩) ⟨fun a U g mk q => ⟨q.1, q.2.call⟩, tb_recvK hT (ju_lt z_4) hS, fun U hU hW => ⟨rfl, hT.at hS hU hW (fun _ z => z.elim)⟩⟩ rfl rfl hl.1 rfl (lv_room (Nat.le_of_ble_eq_true rfl)) d_C_fit_33 ⟨Nat.le_refl _, Nat.le_refl _⟩) ?_
    refine lv_if_ne (tgt := 49) hx hb d_C_fit_36 (by decide) (fun c_7 => ?_) (fun c_7 => ?_)
    · replace hf := (if_neg c_7).symm.trans hf
      refine lv_aload hx hb d_C_fit_49 (lv_at hl 0 rfl) ?_
      refine lv_aload hx hb d_C_fit_51 (lv_at hl 0 rfl) ?_
      refine lv_iload_n hx hb d_C_fit_53 rfl (lv_at hl 3 rfl) ?_
      refine lv_iconst (v := 1) hx hb d_C_fit_54 (by decide) ?_
      obtain ⟨r_8, g_9, hf⟩ := Option.bind_eq_some_iff.mp hf
      refine ju_calli (W.runV (As := [.int (a0), .int (1)]) (rest := [.ref (ad r_1.toNatClampNeg)]) ⟨hx, hb, hml, hown, hts⟩ (c_K_register l (ad := ad) (sk := sk) (sv := sv) (tK := tK)  r_1.toNatClampNeg a0 1 (ju_lt z_4) r_8 g_9) (cwV 2 hts (aw_V aw_147 aw_45 aw_46 aw_12 aw_47) rfl rfl rfl (by decide +kernel) ⟨Nat.le_of_ble_eq_true rfl, Nat.le_of_ble_eq_true rfl⟩) ⟨fun a U g mk q => ⟨q.1, q.2.call⟩, tb_recvK hT (ju_lt z_4) hS, fun U hU hW => ⟨rfl, hT.at hS hU hW (fun _ z => z.elim)⟩⟩ rfl rfl hl.1 rfl (lv_room (Nat.le_of_ble_eq_true rfl)) d_C_fit_55 ⟨Nat.le_refl _, Nat.le_refl _⟩) ?_
      refine lv_aload hx hb d_C_fit_58 (lv_at hl 0 rfl) ?_
      refine lv_iload_n hx hb d_C_fit_60 rfl (lv_at hl 3 rfl) ?_
      refine lv_iconst (v := 2) hx hb d_C_fit_61 (by decide) ?_
      obtain ⟨r_10, g_11, hf⟩ := Option.bind_eq_some_iff.mp hf
      refine ju_calli (W.runV (As := [.int (a0), .int (2)]) (rest := [.int (r_8), .ref (ad r_1.toNatClampNeg)]) ⟨hx, hb, hml, hown, hts⟩ (c_K_register l (ad := ad) (sk := sk) (sv := sv) (tK := tK)  r_1.toNatClampNeg a0 2 (ju_lt z_4) r_10 g_11) (cwV 2 hts (aw_V aw_147 aw_45 aw_46 aw_12 aw_47) rfl rfl rfl (by decide +kernel) ⟨Nat.le_of_ble_eq_true rfl, Nat.le_of_ble_eq_true rfl⟩) ⟨fun a U g mk q => ⟨q.1, q.2.call⟩, tb_recvK hT (ju_lt z_4) hS, fun U hU hW => ⟨rfl, hT.at hS hU hW (fun _ z => z.elim)⟩⟩ rfl rfl hl.1 rfl (lv_room (Nat.le_of_ble_eq_true rfl)) d_C_fit_62 ⟨Nat.le_refl _, Nat.le_refl _⟩) ?_
      refine lv_aload hx hb d_C_fit_65 (lv_at hl 0 rfl) ?_
      refine lv_iload_n hx hb d_C_fit_67 rfl (lv_at hl 3 rfl) ?_
      refine lv_iconst (v := 4) hx hb d_C_fit_68 (by decide) ?_
      obtain ⟨r_12, g_13, hf⟩ := Option.bind_eq_some_iff.mp hf
      refine ju_calli (W.runV (As := [.int (a0), .int (4)]) (rest := [.int (r_10), .int (r_8), .ref (ad r_1.toNatClampNeg)]) ⟨hx, hb, hml, hown, hts⟩ (c_K_register l (ad := ad) (sk := sk) (sv := sv) (tK := tK)  r_1.toNatClampNeg a0 4 (ju_lt z_4) r_12 g_13) (cwV 2 hts (aw_V aw_147 aw_45 aw_46 aw_12 aw_47) rfl rfl rfl (by decide +kernel) ⟨Nat.le_of_ble_eq_true rfl, Nat.le_of_ble_eq_true rfl⟩) ⟨fun a U g mk q => ⟨q.1, q.2.call⟩, tb_recvK hT (ju_lt z_4) hS, fun U hU hW => ⟨rfl, hT.at hS hU hW (fun _ z => z.elim)⟩⟩ rfl rfl hl.1 rfl (lv_room (Nat.le_of_ble_eq_true rfl)) d_C_fit_69 ⟨Nat.le_refl _, Nat.le_refl _⟩) ?_
      refine lv_lload_n hx hb d_C_fit_72 rfl (lv_at hl 4 rfl) ?_
      refine lv_l2i (v := a1.toInt32) hx hb d_C_fit_73 rfl ?_
      obtain ⟨r_14, g_15, hf⟩ := Option.bind_eq_some_iff.mp hf
      refine ju_calli (W.runV (As := [.int (r_8), .int (r_10), .int (r_12), .int (a1.toInt32)]) (rest := []) ⟨hx, hb, hml, hown, hts⟩ (c_K_compose l (ad := ad) (sk := sk) (sv := sv) (tK := tK)  r_1.toNatClampNeg r_8 r_10 r_12 a1.toInt32 (ju_lt z_4) r_14 g_15) (cwV 4 hts (aw_V aw_155 aw_156 aw_157 aw_12 aw_158) rfl rfl rfl (by decide +kernel) ⟨Nat.le_of_ble_eq_true rfl, Nat.le_of_ble_eq_true rfl⟩) ⟨fun a U g mk q => ⟨q.1, q.2.call⟩, tb_recvK hT (ju_lt z_4) hS, fun U hU hW => ⟨rfl, hT.at hS hU hW (fun _ z => z.elim)⟩⟩ rfl rfl hl.1 rfl (lv_room (Nat.le_of_ble_eq_true rfl)) d_C_fit_74 ⟨Nat.le_refl _, Nat.le_refl _⟩) ?_
      exact W.iret (v := r_14) hx hb hr (fun t ht hW => ⟨congrArg (fun z => Outcome.returned (some (Value.int z))) (Sum.inl.inj (Option.some.inj hf)), ht⟩) (fun q h => nomatch h) d_C_fit_77
    · replace hf := (if_pos c_7).symm.trans hf
      cases hf
  · replace hf := (if_pos c_3).symm.trans hf
    cases hf
