theorem s_nar {a : Nat} {b r : Int32} (h : f_S_charAt a b = some r) : narrow .char (.int r) = .int r := by
  rw [f_S_charAt] at h
  obtain ⟨u, -, h⟩ := Option.bind_eq_some_iff.mp h
  by_cases c : bI u = 0
  · rw [if_pos c] at h; cases h
  · rw [if_neg c] at h
    obtain ⟨v, h1, h⟩ := Option.bind_eq_some_iff.mp h
    rw [← Option.some.inj h]
    exact s1_nar h1
def f_C_isKind (a0 : Int32) : Option Bool :=
  if a0 < 0 then (some false) else (if 75 ≤ a0 then (some false) else (some true))
set_option maxHeartbeats 4000000 in
set_option maxRecDepth 100000 in
theorem c_C_isKind (l : Launch) {ad sk sv : Nat → Nat} {tK : Nat} (a0 : Int32)  (r : Bool) (hf : f_C_isKind a0 = some r) : Met l y_C_isKind (Cond.code y_C_isKind b_C_isKind 1 (Option.some FieldType.boolean) :: aw) ({ frames := 0, cells := 0, slots := 0, locals := 0 } : Room) (va_Pc [.int (a0)] (fun U => tb ad sk sv tK (fun _ => False) U U.heap)) (QcRead (bI r)) 0 0 (fun _ => False) := by
  refine Met.ofW (cc := b_C_isKind) (maxL := 1) (ret := (Option.some FieldType.boolean)) (by decide) rfl ?_
  intro p e s m args below meth c s₁ B hml hv
  obtain ⟨rfl, hT⟩ := hv
  have hx := B.exec
  have hb := B.bytes
  have hr := B.returns
  have hts := atoms_spec (ws := (Cond.code y_C_isKind b_C_isKind 1 (Option.some FieldType.boolean) :: aw)) B.pre
  have ht : ∀ {w : Cond}, w ∈ aw → w.before ([.int (a0)] : List Value).toArray s = true := fun h => hts _ (List.mem_cons_of_mem _ h)
  have hown : s.vm.findClass "CodeWords" = some m.cls := findClass_of_methodNamed B.named
  have hlocks := B.notSynchronized
  have hS : va_S (fun _ => False) s.heap s.heap [] := va_S.rf
  have hl := lv_entry ([.int (a0)]) (n := 1) (Nat.le_of_ble_eq_true rfl)
  rw [lg_entry_eq]
  generalize (lg_sl ([.int (a0)]) ++ List.replicate (1 - (lg_sl ([.int (a0)])).length) Slot.unset).toArray = ls at hl ⊢
  have hl : lv_has ls 1 [(0, .int (a0))] := hl
  rw [f_C_isKind] at hf
  refine lv_iload_n hx hb d_C_isKind_0 rfl (lv_at hl 0 rfl) ?_
  refine lv_if_lt (tgt := 16) hx hb d_C_isKind_1 (by decide) (fun c_1 => ?_) (fun c_1 => ?_)
  · replace hf := (if_pos c_1).symm.trans hf
    refine lv_iconst (v := 0) hx hb d_C_isKind_16 (by decide) ?_
    exact W.zret (v := 0) hx hb hr (ju_nz false) (fun t ht hW => ⟨congrArg (fun z => Outcome.returned (some (Value.int (bI z)))) (Option.some.inj hf), ht⟩) (fun q h => nomatch h) d_C_isKind_17
  · replace hf := (if_neg c_1).symm.trans hf
    refine lv_iload_n hx hb d_C_isKind_4 rfl (lv_at hl 0 rfl) ?_
    refine va_gets (v := .ref (tK)) hx hb hT.1 hS hown (ht aw_38) (fun _ h9 => h9) d_C_isKind_5 ?_
    refine va_tlen (v := 75) hx hb hT.2.1 hS rfl d_C_isKind_8 ?_
    refine lv_icmp_ge (tgt := 16) hx hb d_C_isKind_9 (by decide) (fun c_2 => ?_) (fun c_2 => ?_)
    · replace hf := (if_pos c_2).symm.trans hf
      refine lv_iconst (v := 0) hx hb d_C_isKind_16 (by decide) ?_
      exact W.zret (v := 0) hx hb hr (ju_nz false) (fun t ht hW => ⟨congrArg (fun z => Outcome.returned (some (Value.int (bI z)))) (Option.some.inj hf), ht⟩) (fun q h => nomatch h) d_C_isKind_17
    · replace hf := (if_neg c_2).symm.trans hf
      refine lv_iconst (v := 1) hx hb d_C_isKind_12 (by decide) ?_
      refine lv_goto (tgt := 17) hx hb d_C_isKind_13 (by decide) ?_
      exact W.zret (v := 1) hx hb hr (ju_nz true) (fun t ht hW => ⟨congrArg (fun z => Outcome.returned (some (Value.int (bI z)))) (Option.some.inj hf), ht⟩) (fun q h => nomatch h) d_C_isKind_17

theorem ju_48 {i : Nat} (hi : i < 75) {r : Bool} (g : f_C_isKind (k_stands i) = some r) (c : ¬ bI r = 0) : 48 ≤ i := by
  have h : ∀ i, i < 48 → f_C_isKind (k_stands i) = some false := by decide +kernel
  rcases Nat.lt_or_ge i 48 with q | q
  · rw [h i q] at g
    obtain rfl := Option.some.inj g
    exact absurd rfl c
  · exact q
def f_C_isLong (a0 : Int32) : Option Bool :=
  if (a0 &&& 3) = 3 then (some true) else (some false)
set_option maxHeartbeats 4000000 in
set_option maxRecDepth 100000 in
theorem c_C_isLong (l : Launch) {ad sk sv : Nat → Nat} {tK : Nat} (a0 : Int32)  (r : Bool) (hf : f_C_isLong a0 = some r) : Met l y_C_isLong (Cond.code y_C_isLong b_C_isLong 1 (Option.some FieldType.boolean) :: aw) ({ frames := 0, cells := 0, slots := 0, locals := 0 } : Room) (va_Pc [.int (a0)] (fun U => tb ad sk sv tK (fun _ => False) U U.heap)) (QcRead (bI r)) 0 0 (fun _ => False) := by
  refine Met.ofW (cc := b_C_isLong) (maxL := 1) (ret := (Option.some FieldType.boolean)) (by decide) rfl ?_
  intro p e s m args below meth c s₁ B hml hv
  obtain ⟨rfl, hT⟩ := hv
  have hx := B.exec
  have hb := B.bytes
  have hr := B.returns
  have hts := atoms_spec (ws := (Cond.code y_C_isLong b_C_isLong 1 (Option.some FieldType.boolean) :: aw)) B.pre
  have ht : ∀ {w : Cond}, w ∈ aw → w.before ([.int (a0)] : List Value).toArray s = true := fun h => hts _ (List.mem_cons_of_mem _ h)
  have hown : s.vm.findClass "CodeWords" = some m.cls := findClass_of_methodNamed B.named
  have hlocks := B.notSynchronized
  have hS : va_S (fun _ => False) s.heap s.heap [] := va_S.rf
  have hl := lv_entry ([.int (a0)]) (n := 1) (Nat.le_of_ble_eq_true rfl)
  rw [lg_entry_eq]
  generalize (lg_sl ([.int (a0)]) ++ List.replicate (1 - (lg_sl ([.int (a0)])).length) Slot.unset).toArray = ls at hl ⊢
  have hl : lv_has ls 1 [(0, .int (a0))] := hl
  rw [f_C_isLong] at hf
  refine lv_iload_n hx hb d_C_isLong_0 rfl (lv_at hl 0 rfl) ?_
  refine lv_iconst (v := 3) hx hb d_C_isLong_1 (by decide) ?_
  refine lv_iand hx hb d_C_isLong_2 ?_
  refine lv_iconst (v := 3) hx hb d_C_isLong_3 (by decide) ?_
  refine lv_icmp_ne (tgt := 11) hx hb d_C_isLong_4 (by decide) (fun c_1 => ?_) (fun c_1 => ?_)
  · replace hf := (if_neg c_1).symm.trans hf
    refine lv_iconst (v := 0) hx hb d_C_isLong_11 (by decide) ?_
    exact W.zret (v := 0) hx hb hr (ju_nz false) (fun t ht hW => ⟨congrArg (fun z => Outcome.returned (some (Value.int (bI z)))) (Option.some.inj hf), ht⟩) (fun q h => nomatch h) d_C_isLong_12
  · replace hf := (if_pos c_1).symm.trans hf
    refine lv_iconst (v := 1) hx hb d_C_isLong_7 (by decide) ?_
    refine lv_goto (tgt := 12) hx hb d_C_isLong_8 (by decide) ?_
    exact W.zret (v := 1) hx hb hr (ju_nz true) (fun t ht hW => ⟨congrArg (fun z => Outcome.returned (some (Value.int (bI z)))) (Option.some.inj hf), ht⟩) (fun q h => nomatch h) d_C_isLong_12

def f_C_exchanges (a0 : Int32) : Option Bool :=
  if a0 = 27 then (some true) else (if a0 = 32 then (some true) else (if a0 = 35 then (some true) else (if a0 = 36 then (some true) else (some false))))
set_option maxHeartbeats 4000000 in
set_option maxRecDepth 100000 in
theorem c_C_exchanges (l : Launch) {ad sk sv : Nat → Nat} {tK : Nat} (a0 : Int32)  (r : Bool) (hf : f_C_exchanges a0 = some r) : Met l y_C_exchanges (Cond.code y_C_exchanges b_C_exchanges 1 (Option.some FieldType.boolean) :: aw) ({ frames := 0, cells := 0, slots := 0, locals := 0 } : Room) (va_Pc [.int (a0)] (fun U => tb ad sk sv tK (fun _ => False) U U.heap)) (QcRead (bI r)) 0 0 (fun _ => False) := by
  refine Met.ofW (cc := b_C_exchanges) (maxL := 1) (ret := (Option.some FieldType.boolean)) (by decide) rfl ?_
  intro p e s m args below meth c s₁ B hml hv
  obtain ⟨rfl, hT⟩ := hv
  have hx := B.exec
  have hb := B.bytes
  have hr := B.returns
  have hts := atoms_spec (ws := (Cond.code y_C_exchanges b_C_exchanges 1 (Option.some FieldType.boolean) :: aw)) B.pre
  have ht : ∀ {w : Cond}, w ∈ aw → w.before ([.int (a0)] : List Value).toArray s = true := fun h => hts _ (List.mem_cons_of_mem _ h)
  have hown : s.vm.findClass "CodeWords" = some m.cls := findClass_of_methodNamed B.named
  have hlocks := B.notSynchronized
  have hS : va_S (fun _ => False) s.heap s.heap [] := va_S.rf
  have hl := lv_entry ([.int (a0)]) (n := 1) (Nat.le_of_ble_eq_true rfl)
  rw [lg_entry_eq]
  generalize (lg_sl ([.int (a0)]) ++ List.replicate (1 - (lg_sl ([.int (a0)])).length) Slot.unset).toArray = ls at hl ⊢
  have hl : lv_has ls 1 [(0, .int (a0))] := hl
  rw [f_C_exchanges] at hf
  refine lv_iload_n hx hb d_C_exchanges_0 rfl (lv_at hl 0 rfl) ?_
  refine lv_bipush (v := 27) hx hb d_C_exchanges_1 (by decide) ?_
  refine lv_icmp_eq (tgt := 24) hx hb d_C_exchanges_3 (by decide) (fun c_1 => ?_) (fun c_1 => ?_)
  · replace hf := (if_pos c_1).symm.trans hf
    refine lv_iconst (v := 1) hx hb d_C_exchanges_24 (by decide) ?_
    refine lv_goto (tgt := 29) hx hb d_C_exchanges_25 (by decide) ?_
    exact W.zret (v := 1) hx hb hr (ju_nz true) (fun t ht hW => ⟨congrArg (fun z => Outcome.returned (some (Value.int (bI z)))) (Option.some.inj hf), ht⟩) (fun q h => nomatch h) d_C_exchanges_29
  · replace hf := (if_neg c_1).symm.trans hf
    refine lv_iload_n hx hb d_C_exchanges_6 rfl (lv_at hl 0 rfl) ?_
    refine lv_bipush (v := 32) hx hb d_C_exchanges_7 (by decide) ?_
    refine lv_icmp_eq (tgt := 24) hx hb d_C_exchanges_9 (by decide) (fun c_2 => ?_) (fun c_2 => ?_)
    · replace hf := (if_pos c_2).symm.trans hf
      refine lv_iconst (v := 1) hx hb d_C_exchanges_24 (by decide) ?_
      refine lv_goto (tgt := 29) hx hb d_C_exchanges_25 (by decide) ?_
      exact W.zret (v := 1) hx hb hr (ju_nz true) (fun t ht hW => ⟨congrArg (fun z => Outcome.returned (some (Value.int (bI z)))) (Option.some.inj hf), ht⟩) (fun q h => nomatch h) d_C_exchanges_29
    · replace hf := (if_neg c_2).symm.trans hf
      refine lv_iload_n hx hb d_C_exchanges_12 rfl (lv_at hl 0 rfl) ?_
      refine lv_bipush (v := 35) hx hb d_C_exchanges_13 (by decide) ?_
      refine lv_icmp_eq (tgt := 24) hx hb d_C_exchanges_15 (by decide) (fun c_3 => ?_) (fun c_3 => ?_)
      · replace hf := (if_pos c_3).symm.trans hf
        refine lv_iconst (v := 1) hx hb d_C_exchanges_24 (by decide) ?_
        refine lv_goto (tgt := 29) hx hb d_C_exchanges_25 (by decide) ?_
        exact W.zret (v := 1) hx hb hr (ju_nz true) (fun t ht hW => ⟨congrArg (fun z => Outcome.returned (some (Value.int (bI z)))) (Option.some.inj hf), ht⟩) (fun q h => nomatch h) d_C_exchanges_29
      · replace hf := (if_neg c_3).symm.trans hf
        refine lv_iload_n hx hb d_C_exchanges_18 rfl (lv_at hl 0 rfl) ?_
        refine lv_bipush (v := 36) hx hb d_C_exchanges_19 (by decide) ?_
        refine lv_icmp_ne (tgt := 28) hx hb d_C_exchanges_21 (by decide) (fun c_4 => ?_) (fun c_4 => ?_)
        · replace hf := (if_neg c_4).symm.trans hf
          refine lv_iconst (v := 0) hx hb d_C_exchanges_28 (by decide) ?_
          exact W.zret (v := 0) hx hb hr (ju_nz false) (fun t ht hW => ⟨congrArg (fun z => Outcome.returned (some (Value.int (bI z)))) (Option.some.inj hf), ht⟩) (fun q h => nomatch h) d_C_exchanges_29
        · replace hf := (if_pos c_4).symm.trans hf
          refine lv_iconst (v := 1) hx hb d_C_exchanges_24 (by decide) ?_
          refine lv_goto (tgt := 29) hx hb d_C_exchanges_25 (by decide) ?_
          exact W.zret (v := 1) hx hb hr (ju_nz true) (fun t ht hW => ⟨congrArg (fun z => Outcome.returned (some (Value.int (bI z)))) (Option.some.inj hf), ht⟩) (fun q h => nomatch h) d_C_exchanges_29

def f_C_numberOf_L2 (a0 : Int32)  : Nat → Int32 → Option (Int32)
  | 0, _ => none
  | n + 1, x1 =>
    if 75 ≤ x1 then (some ((-1))) else (if x1 < 0 ∨ 75 ≤ x1.toNatClampNeg then none else (f_K_admits x1.toNatClampNeg a0).bind fun r_3 => if (bI r_3) = 0 then (f_C_numberOf_L2 a0  n (x1 + 1)) else (some (x1)))
def f_C_numberOf (a0 : Int32) : Option Int32 :=
  f_C_numberOf_L2 a0  80 0
set_option maxHeartbeats 4000000 in
set_option maxRecDepth 100000 in
theorem c_C_numberOf (l : Launch) {ad sk sv : Nat → Nat} {tK : Nat} (a0 : Int32)  (r : Int32) (hf : f_C_numberOf a0 = some r) : Met l y_C_numberOf (Cond.code y_C_numberOf b_C_numberOf 2 (Option.some FieldType.int) :: aw) ({ frames := 8, cells := 0, slots := 0, locals := 174 } : Room) (va_Pc [.int (a0)] (fun U => tb ad sk sv tK (fun _ => False) U U.heap)) (QcRead r) 0 0 (fun _ => False) := by
  refine Met.ofW (cc := b_C_numberOf) (maxL := 2) (ret := (Option.some FieldType.int)) (by decide) rfl ?_
  intro p e s m args below meth c s₁ B hml hv
  obtain ⟨rfl, hT⟩ := hv
  have hx := B.exec
  have hb := B.bytes
  have hr := B.returns
  have hts := atoms_spec (ws := (Cond.code y_C_numberOf b_C_numberOf 2 (Option.some FieldType.int) :: aw)) B.pre
  have ht : ∀ {w : Cond}, w ∈ aw → w.before ([.int (a0)] : List Value).toArray s = true := fun h => hts _ (List.mem_cons_of_mem _ h)
  have hown : s.vm.findClass "CodeWords" = some m.cls := findClass_of_methodNamed B.named
  have hlocks := B.notSynchronized
  have hS : va_S (fun _ => False) s.heap s.heap [] := va_S.rf
  have hl := lv_entry ([.int (a0)]) (n := 2) (Nat.le_of_ble_eq_true rfl)
  rw [lg_entry_eq]
  generalize (lg_sl ([.int (a0)]) ++ List.replicate (2 - (lg_sl ([.int (a0)])).length) Slot.unset).toArray = ls at hl ⊢
  have hl : lv_has ls 2 [(0, .int (a0))] := hl
  have J2 : ∀ (n : Nat) (x1 : Int32) (ls : Array Slot), lv_has ls 2 [(0, .int (a0)), (1, .int (x1))] → f_C_numberOf_L2 a0  n x1 = some r → pW p l e (headSpec (Cond.code y_C_numberOf b_C_numberOf 2 (Option.some FieldType.int) :: aw) ({ frames := 8, cells := 0, slots := 0, locals := 174 } : Room)).room s m ([.int (a0)] : List Value).toArray below meth c r (F0 m 2 ls []) := by
    intro n
    induction n with
    | zero =>
      intro x1  ls  hl hf
      rw [f_C_numberOf_L2] at hf
      cases hf
    | succ n ih =>
      intro x1  ls  hl hf
      rw [f_C_numberOf_L2] at hf
      refine lv_iload_n hx hb d_C_numberOf_2 rfl (lv_at hl 1 rfl) ?_
      refine va_gets (v := .ref (tK)) hx hb hT.1 hS hown (ht aw_38) (fun _ h9 => h9) d_C_numberOf_3 ?_
      refine va_tlen (v := 75) hx hb hT.2.1 hS rfl d_C_numberOf_6 ?_
      refine lv_icmp_ge (tgt := 30) hx hb d_C_numberOf_7 (by decide) (fun c_1 => ?_) (fun c_1 => ?_)
      · replace hf := (if_pos c_1).symm.trans hf
        refine lv_iconst (v := (-1)) hx hb d_C_numberOf_30 (by decide) ?_
        exact W.iret (v := (-1)) hx hb hr (fun t ht hW => ⟨congrArg (fun z => Outcome.returned (some (Value.int z))) (Option.some.inj hf), ht⟩) (fun q h => nomatch h) d_C_numberOf_31
      · replace hf := (if_neg c_1).symm.trans hf
        refine va_gets (v := .ref (tK)) hx hb hT.1 hS hown (ht aw_38) (fun _ h9 => h9) d_C_numberOf_10 ?_
        refine lv_iload_n hx hb d_C_numberOf_13 rfl (lv_at hl 1 rfl) ?_
        obtain ⟨z_2, hf⟩ := ju_gd hf
        refine vb_tq (v := .ref (ad x1.toNatClampNeg)) hx hb hT.2.1 hS z_2 rfl d_C_numberOf_14 ?_
        refine lv_iload_n hx hb d_C_numberOf_15 rfl (lv_at hl 0 rfl) ?_
        obtain ⟨r_3, g_4, hf⟩ := Option.bind_eq_some_iff.mp hf
        refine ju_calli (W.runV (As := [.int (a0)]) (rest := []) ⟨hx, hb, hml, hown, hts⟩ (c_K_admits l (ad := ad) (sk := sk) (sv := sv) (tK := tK)  x1.toNatClampNeg a0 (ju_lt z_2) r_3 g_4) (cwV 1 hts (aw_V aw_40 aw_41 aw_42 aw_12 aw_43) rfl rfl rfl (by decide +kernel) ⟨Nat.le_of_ble_eq_true rfl, Nat.le_of_ble_eq_true rfl⟩) ⟨fun a U g mk q => ⟨q.1, q.2.call⟩, tb_recvK hT (ju_lt z_2) hS, fun U hU hW => ⟨rfl, hT.at hS hU hW (fun _ z => z.elim)⟩⟩ rfl rfl hl.1 rfl (lv_room (Nat.le_of_ble_eq_true rfl)) d_C_numberOf_16 ⟨Nat.le_refl _, Nat.le_refl _⟩) ?_
        refine lv_if_eq (tgt := 24) hx hb d_C_numberOf_19 (by decide) (fun c_5 => ?_) (fun c_5 => ?_)
        · replace hf := (if_pos c_5).symm.trans hf
          refine lv_iinc (v := x1 + 1) (lv' := [(1, .int (x1 + 1)), (0, .int (a0))]) hx hb d_C_numberOf_24 hl (k := 1) rfl rfl (by decide) rfl (fun ls hl => ?_)
          refine lv_goto (tgt := 2) hx hb d_C_numberOf_27 (by decide) ?_
          exact ih (x1 + 1)  _  (lv_sub hl [1, 0] rfl) hf
        · replace hf := (if_neg c_5).symm.trans hf
          refine lv_iload_n hx hb d_C_numberOf_22 rfl (lv_at hl 1 rfl) ?_
          exact W.iret (v := x1) hx hb hr (fun t ht hW => ⟨congrArg (fun z => Outcome.returned (some (Value.int z))) (Option.some.inj hf), ht⟩) (fun q h => nomatch h) d_C_numberOf_23
  rw [f_C_numberOf] at hf
  refine lv_iconst (v := 0) hx hb d_C_numberOf_0 (by decide) ?_
  refine lv_istore_n (lv' := [(1, .int (0)), (0, .int (a0))]) hx hb d_C_numberOf_1 rfl hl (by decide) rfl (fun ls hl => ?_)
  exact J2 80 0  _  (lv_sub hl [1, 0] rfl) hf

def f_C_slotRegister (a0 : Nat) (a1 : Int32) (a2 : Int32) (a3 : Int32) (a4 : Int32) : Option Int32 :=
  if a1 < 0 then (some (0)) else ((f_S_length a0).bind fun r_2 => if a1 < r_2 then ((f_S_charAt a0 a1).bind fun r_5 => if r_5 = 100 then (some (a2)) else (if r_5 = 97 then (some (a3)) else (if r_5 = 98 then (some (a4)) else (if r_5 < 48 then (some (0)) else (if 57 < r_5 then (some (0)) else (some (r_5 - 48))))))) else (some (0)))
set_option maxHeartbeats 4000000 in
set_option maxRecDepth 100000 in
theorem c_C_slotRegister (l : Launch) {ad sk sv : Nat → Nat} {tK : Nat} (a0 : Nat) (a1 : Int32) (a2 : Int32) (a3 : Int32) (a4 : Int32) (ha0 : a0 < 180) (r : Int32) (hf : f_C_slotRegister a0 a1 a2 a3 a4 = some r) : Met l y_C_slotRegister (Cond.code y_C_slotRegister b_C_slotRegister 6 (Option.some FieldType.int) :: aw) ({ frames := 4, cells := 0, slots := 0, locals := 85 } : Room) (va_Pc [.ref (sk a0), .int (a1), .int (a2), .int (a3), .int (a4)] (fun U => tb ad sk sv tK (fun _ => False) U U.heap)) (QcRead r) 0 0 (fun _ => False) := by
  refine Met.ofW (cc := b_C_slotRegister) (maxL := 6) (ret := (Option.some FieldType.int)) (by decide) rfl ?_
  intro p e s m args below meth c s₁ B hml hv
  obtain ⟨rfl, hT⟩ := hv
  have hx := B.exec
  have hb := B.bytes
  have hr := B.returns
  have hts := atoms_spec (ws := (Cond.code y_C_slotRegister b_C_slotRegister 6 (Option.some FieldType.int) :: aw)) B.pre
  have ht : ∀ {w : Cond}, w ∈ aw → w.before ([.ref (sk a0), .int (a1), .int (a2), .int (a3), .int (a4)] : List Value).toArray s = true := fun h => hts _ (List.mem_cons_of_mem _ h)
  have hown : s.vm.findClass "CodeWords" = some m.cls := findClass_of_methodNamed B.named
  have hlocks := B.notSynchronized
  have hS : va_S (fun _ => False) s.heap s.heap [] := va_S.rf
  have hl := lv_entry ([.ref (sk a0), .int (a1), .int (a2), .int (a3), .int (a4)]) (n := 6) (Nat.le_of_ble_eq_true rfl)
  rw [lg_entry_eq]
  generalize (lg_sl ([.ref (sk a0), .int (a1), .int (a2), .int (a3), .int (a4)]) ++ List.replicate (6 - (lg_sl ([.ref (sk a0), .int (a1), .int (a2), .int (a3), .int (a4)])).length) Slot.unset).toArray = ls at hl ⊢
  have hl : lv_has ls 6 [(0, .ref (sk a0)), (1, .int (a1)), (2, .int (a2)), (3, .int (a3)), (4, .int (a4))] := hl
  rw [f_C_slotRegister] at hf
  refine lv_iload_n hx hb d_C_slotRegister_0 rfl (lv_at hl 1 rfl) ?_
  refine lv_if_lt (tgt := 12) hx hb d_C_slotRegister_1 (by decide) (fun c_1 => ?_) (fun c_1 => ?_)
  · replace hf := (if_pos c_1).symm.trans hf
    refine lv_iconst (v := 0) hx hb d_C_slotRegister_12 (by decide) ?_
    exact W.iret (v := 0) hx hb hr (fun t ht hW => ⟨congrArg (fun z => Outcome.returned (some (Value.int z))) (Option.some.inj hf), ht⟩) (fun q h => nomatch h) d_C_slotRegister_13
  · replace hf := (if_neg c_1).symm.trans hf
    refine lv_iload_n hx hb d_C_slotRegister_4 rfl (lv_at hl 1 rfl) ?_
    refine lv_aload_n hx hb d_C_slotRegister_5 rfl (lv_at hl 0 rfl) ?_
    obtain ⟨r_2, g_3, hf⟩ := Option.bind_eq_some_iff.mp hf
    refine ju_calli (W.runV (As := []) (rest := [.int (a1)]) ⟨hx, hb, hml, hown, hts⟩ (c_S_length l (ad := ad) (sk := sk) (sv := sv) (tK := tK)  a0 ha0 r_2 g_3) (cwV 0 hts (aw_V aw_174 aw_62 aw_63 aw_7 aw_64) rfl rfl rfl (by decide +kernel) ⟨Nat.le_of_ble_eq_true rfl, Nat.le_of_ble_eq_true rfl⟩) ⟨fun a U g mk q => ⟨q.1, q.2.call⟩, tb_recvS hT ha0 hS, fun U hU hW => ⟨rfl, hT.at hS hU hW (fun _ z => z.elim)⟩⟩ rfl rfl hl.1 rfl (lv_room (Nat.le_of_ble_eq_true rfl)) d_C_slotRegister_6 ⟨Nat.le_refl _, Nat.le_refl _⟩) ?_
    refine lv_icmp_lt (tgt := 14) hx hb d_C_slotRegister_9 (by decide) (fun c_4 => ?_) (fun c_4 => ?_)
    · replace hf := (if_pos c_4).symm.trans hf
      refine lv_aload_n hx hb d_C_slotRegister_14 rfl (lv_at hl 0 rfl) ?_
      refine lv_iload_n hx hb d_C_slotRegister_15 rfl (lv_at hl 1 rfl) ?_
      obtain ⟨r_5, g_6, hf⟩ := Option.bind_eq_some_iff.mp hf
      refine ju_calli (W.runV (As := [.int (a1)]) (rest := []) ⟨hx, hb, hml, hown, hts⟩ (c_S_charAt l (ad := ad) (sk := sk) (sv := sv) (tK := tK)  a0 a1 ha0 r_5 g_6) (cwV 1 hts (aw_V aw_175 aw_72 aw_73 aw_7 aw_74) rfl rfl rfl (by decide +kernel) ⟨Nat.le_of_ble_eq_true rfl, Nat.le_of_ble_eq_true rfl⟩) ⟨fun a U g mk q => ⟨q.1, q.2.call⟩, tb_recvS hT ha0 hS, fun U hU hW => ⟨rfl, hT.at hS hU hW (fun _ z => z.elim)⟩⟩ rfl rfl hl.1 rfl (lv_room (Nat.le_of_ble_eq_true rfl)) d_C_slotRegister_16 ⟨Nat.le_refl _, Nat.le_refl _⟩) ?_
      refine lv_istore (lv' := [(5, .int (r_5)), (0, .ref (sk a0)), (1, .int (a1)), (2, .int (a2)), (3, .int (a3)), (4, .int (a4))]) hx hb d_C_slotRegister_19 hl (by decide) rfl (fun ls hl => ?_)
      refine lv_iload hx hb d_C_slotRegister_21 (lv_at hl 0 rfl) ?_
      refine lv_bipush (v := 100) hx hb d_C_slotRegister_23 (by decide) ?_
      refine lv_icmp_ne (tgt := 30) hx hb d_C_slotRegister_25 (by decide) (fun c_7 => ?_) (fun c_7 => ?_)
      · replace hf := (if_neg c_7).symm.trans hf
        refine lv_iload hx hb d_C_slotRegister_30 (lv_at hl 0 rfl) ?_
        refine lv_bipush (v := 97) hx hb d_C_slotRegister_32 (by decide) ?_
        refine lv_icmp_ne (tgt := 39) hx hb d_C_slotRegister_34 (by decide) (fun c_8 => ?_) (fun c_8 => ?_)
        · replace hf := (if_neg c_8).symm.trans hf
          refine lv_iload hx hb d_C_slotRegister_39 (lv_at hl 0 rfl) ?_
          refine lv_bipush (v := 98) hx hb d_C_slotRegister_41 (by decide) ?_
          refine lv_icmp_ne (tgt := 49) hx hb d_C_slotRegister_43 (by decide) (fun c_9 => ?_) (fun c_9 => ?_)
          · replace hf := (if_neg c_9).symm.trans hf
            refine lv_iload hx hb d_C_slotRegister_49 (lv_at hl 0 rfl) ?_
            refine lv_bipush (v := 48) hx hb d_C_slotRegister_51 (by decide) ?_
            refine lv_icmp_lt (tgt := 71) hx hb d_C_slotRegister_53 (by decide) (fun c_10 => ?_) (fun c_10 => ?_)
            · replace hf := (if_pos c_10).symm.trans hf
              refine lv_iconst (v := 0) hx hb d_C_slotRegister_71 (by decide) ?_
              exact W.iret (v := 0) hx hb hr (fun t ht hW => ⟨congrArg (fun z => Outcome.returned (some (Value.int z))) (Option.some.inj hf), ht⟩) (fun q h => nomatch h) d_C_slotRegister_72
            · replace hf := (if_neg c_10).symm.trans hf
              refine lv_iload hx hb d_C_slotRegister_56 (lv_at hl 0 rfl) ?_
              refine lv_bipush (v := 57) hx hb d_C_slotRegister_58 (by decide) ?_
              refine lv_icmp_gt (tgt := 71) hx hb d_C_slotRegister_60 (by decide) (fun c_11 => ?_) (fun c_11 => ?_)
              · replace hf := (if_pos c_11).symm.trans hf
                refine lv_iconst (v := 0) hx hb d_C_slotRegister_71 (by decide) ?_
                exact W.iret (v := 0) hx hb hr (fun t ht hW => ⟨congrArg (fun z => Outcome.returned (some (Value.int z))) (Option.some.inj hf), ht⟩) (fun q h => nomatch h) d_C_slotRegister_72
              · replace hf := (if_neg c_11).symm.trans hf
                refine lv_iload hx hb d_C_slotRegister_63 (lv_at hl 0 rfl) ?_
                refine lv_bipush (v := 48) hx hb d_C_slotRegister_65 (by decide) ?_
                refine lv_isub hx hb d_C_slotRegister_67 ?_
                refine lv_goto (tgt := 72) hx hb d_C_slotRegister_68 (by decide) ?_
                exact W.iret (v := r_5 - 48) hx hb hr (fun t ht hW => ⟨congrArg (fun z => Outcome.returned (some (Value.int z))) (Option.some.inj hf), ht⟩) (fun q h => nomatch h) d_C_slotRegister_72
          · replace hf := (if_pos c_9).symm.trans hf
            refine lv_iload hx hb d_C_slotRegister_46 (lv_at hl 5 rfl) ?_
            exact W.iret (v := a4) hx hb hr (fun t ht hW => ⟨congrArg (fun z => Outcome.returned (some (Value.int z))) (Option.some.inj hf), ht⟩) (fun q h => nomatch h) d_C_slotRegister_48
        · replace hf := (if_pos c_8).symm.trans hf
          refine lv_iload_n hx hb d_C_slotRegister_37 rfl (lv_at hl 4 rfl) ?_
          exact W.iret (v := a3) hx hb hr (fun t ht hW => ⟨congrArg (fun z => Outcome.returned (some (Value.int z))) (Option.some.inj hf), ht⟩) (fun q h => nomatch h) d_C_slotRegister_38
      · replace hf := (if_pos c_7).symm.trans hf
        refine lv_iload_n hx hb d_C_slotRegister_28 rfl (lv_at hl 3 rfl) ?_
        exact W.iret (v := a2) hx hb hr (fun t ht hW => ⟨congrArg (fun z => Outcome.returned (some (Value.int z))) (Option.some.inj hf), ht⟩) (fun q h => nomatch h) d_C_slotRegister_29
    · replace hf := (if_neg c_4).symm.trans hf
      refine lv_iconst (v := 0) hx hb d_C_slotRegister_12 (by decide) ?_
      exact W.iret (v := 0) hx hb hr (fun t ht hW => ⟨congrArg (fun z => Outcome.returned (some (Value.int z))) (Option.some.inj hf), ht⟩) (fun q h => nomatch h) d_C_slotRegister_13

def f_C_longOf (a0 : Nat) (a1 : Int32) (a2 : Int32) (a3 : Int32) (a4 : Int32) : Option Int32 :=
  (f_C_isKind (k_stands a0)).bind fun r_1 => if (bI r_1) = 0 then (some ((-1))) else ((f_C_slotRegister (k_slots a0) 0 a1 a2 a3).bind fun r_4 => (f_C_slotRegister (k_slots a0) 1 a1 a2 a3).bind fun r_6 => (f_C_slotRegister (k_slots a0) 2 a1 a2 a3).bind fun r_8 => if (k_stands a0) < 0 ∨ 75 ≤ (k_stands a0).toNatClampNeg then none else (f_K_has a0 8).bind fun r_11 => if (bI r_11) = 0 then ((f_K_compose ((k_stands a0).toNatClampNeg) r_4 r_6 r_8 0).bind fun r_14 => some (r_14)) else ((f_K_compose ((k_stands a0).toNatClampNeg) r_4 r_6 r_8 a4).bind fun r_16 => some (r_16)))
set_option maxHeartbeats 4000000 in
set_option maxRecDepth 100000 in
theorem c_C_longOf (l : Launch) {ad sk sv : Nat → Nat} {tK : Nat} (a0 : Nat) (a1 : Int32) (a2 : Int32) (a3 : Int32) (a4 : Int32) (ha0 : a0 < 75) (r : Int32) (hf : f_C_longOf a0 a1 a2 a3 a4 = some r) : Met l y_C_longOf (Cond.code y_C_longOf b_C_longOf 8 (Option.some FieldType.int) :: aw) ({ frames := 7, cells := 0, slots := 0, locals := 153 } : Room) (va_Pc [.ref (ad a0), .int (a1), .int (a2), .int (a3), .int (a4)] (fun U => tb ad sk sv tK (fun _ => False) U U.heap)) (QcRead r) 0 0 (fun _ => False) := by
  refine Met.ofW (cc := b_C_longOf) (maxL := 8) (ret := (Option.some FieldType.int)) (by decide) rfl ?_
  intro p e s m args below meth c s₁ B hml hv
  obtain ⟨rfl, hT⟩ := hv
  have hx := B.exec
  have hb := B.bytes
  have hr := B.returns
  have hts := atoms_spec (ws := (Cond.code y_C_longOf b_C_longOf 8 (Option.some FieldType.int) :: aw)) B.pre
  have ht : ∀ {w : Cond}, w ∈ aw → w.before ([.ref (ad a0), .int (a1), .int (a2), .int (a3), .int (a4)] : List Value).toArray s = true := fun h => hts _ (List.mem_cons_of_mem _ h)
  have hown : s.vm.findClass "CodeWords" = some m.cls := findClass_of_methodNamed B.named
  have hlocks := B.notSynchronized
  have hS : va_S (fun _ => False) s.heap s.heap [] := va_S.rf
  have hl := lv_entry ([.ref (ad a0), .int (a1), .int (a2), .int (a3), .int (a4)]) (n := 8) (Nat.le_of_ble_eq_true rfl)
  rw [lg_entry_eq]
  generalize (lg_sl ([.ref (ad a0), .int (a1), .int (a2), .int (a3), .int (a4)]) ++ List.replicate (8 - (lg_sl ([.ref (ad a0), .int (a1), .int (a2), .int (a3), .int (a4)])).length) Slot.unset).toArray = ls at hl ⊢
  have hl : lv_has ls 8 [(0, .ref (ad a0)), (1, .int (a1)), (2, .int (a2)), (3, .int (a3)), (4, .int (a4))] := hl
  rw [f_C_longOf] at hf
  refine lv_aload_n hx hb d_C_longOf_0 rfl (lv_at hl 0 rfl) ?_
  refine vk_getf (v := .int (k_stands a0)) hx hb (tb_stands hT ha0) hS hown (ht aw_774) (fun _ h9 => h9) d_C_longOf_1 ?_
  obtain ⟨r_1, g_2, hf⟩ := Option.bind_eq_some_iff.mp hf
  refine ju_calli (W.runS (As := [.int (k_stands a0)]) (rest := []) ⟨hx, hb, hml, hown, hts⟩ (c_C_isKind l (ad := ad) (sk := sk) (sv := sv) (tK := tK)  (k_stands a0)  r_1 g_2) (va_cwS 1 hts (aw_S aw_152 aw_153 aw_1 aw_154) rfl rfl rfl (by decide +kernel) ⟨Nat.le_of_ble_eq_true rfl, Nat.le_of_ble_eq_true rfl⟩) ⟨fun a U g mk q => ⟨q.1, q.2.call⟩, fun U hU hW => ⟨rfl, hT.at hS hU hW (fun _ z => z.elim)⟩⟩ rfl rfl hl.1 rfl (lv_room (Nat.le_of_ble_eq_true rfl)) d_C_longOf_4 ⟨Nat.le_refl _, Nat.le_refl _⟩) ?_
  refine lv_if_ne (tgt := 12) hx hb d_C_longOf_7 (by decide) (fun c_3 => ?_) (fun c_3 => ?_)
  · replace hf := (if_neg c_3).symm.trans hf
    refine lv_aload_n hx hb d_C_longOf_12 rfl (lv_at hl 0 rfl) ?_
    refine vk_getf (v := .ref (sk (k_slots a0))) hx hb (tb_slots hT ha0 (ju_48 ha0 ‹_› ‹_›)) hS hown (ht aw_775) (fun _ h9 => h9) d_C_longOf_13 ?_
    refine lv_iconst (v := 0) hx hb d_C_longOf_16 (by decide) ?_
    refine lv_iload_n hx hb d_C_longOf_17 rfl (lv_at hl 1 rfl) ?_
    refine lv_iload_n hx hb d_C_longOf_18 rfl (lv_at hl 2 rfl) ?_
    refine lv_iload_n hx hb d_C_longOf_19 rfl (lv_at hl 3 rfl) ?_
    obtain ⟨r_4, g_5, hf⟩ := Option.bind_eq_some_iff.mp hf
    refine ju_calli (W.runS (As := [.ref (sk (k_slots a0)), .int (0), .int (a1), .int (a2), .int (a3)]) (rest := []) ⟨hx, hb, hml, hown, hts⟩ (c_C_slotRegister l (ad := ad) (sk := sk) (sv := sv) (tK := tK)  (k_slots a0) 0 a1 a2 a3 (k_slots_lt ha0) r_4 g_5) (va_cwS 5 hts (aw_S aw_171 aw_172 aw_1 aw_173) rfl rfl rfl (by decide +kernel) ⟨Nat.le_of_ble_eq_true rfl, Nat.le_of_ble_eq_true rfl⟩) ⟨fun a U g mk q => ⟨q.1, q.2.call⟩, fun U hU hW => ⟨rfl, hT.at hS hU hW (fun _ z => z.elim)⟩⟩ rfl rfl hl.1 rfl (lv_room (Nat.le_of_ble_eq_true rfl)) d_C_longOf_20 ⟨Nat.le_refl _, Nat.le_refl _⟩) ?_
    refine lv_istore (lv' := [(5, .int (r_4)), (0, .ref (ad a0)), (1, .int (a1)), (2, .int (a2)), (3, .int (a3)), (4, .int (a4))]) hx hb d_C_longOf_23 hl (by decide) rfl (fun ls hl => ?_)
    refine lv_aload_n hx hb d_C_longOf_25 rfl (lv_at hl 1 rfl) ?_
    refine vk_getf (v := .ref (sk (k_slots a0))) hx hb (tb_slots hT ha0 (ju_48 ha0 ‹_› ‹_›)) hS hown (ht aw_775) (fun _ h9 => h9) d_C_longOf_26 ?_
    refine lv_iconst (v := 1) hx hb d_C_longOf_29 (by decide) ?_
    refine lv_iload_n hx hb d_C_longOf_30 rfl (lv_at hl 2 rfl) ?_
    refine lv_iload_n hx hb d_C_longOf_31 rfl (lv_at hl 3 rfl) ?_
    refine lv_iload_n hx hb d_C_longOf_32 rfl (lv_at hl 4 rfl) ?_
    obtain ⟨r_6, g_7, hf⟩ := Option.bind_eq_some_iff.mp hf
    refine ju_calli (W.runS (As := [.ref (sk (k_slots a0)), .int (1), .int (a1), .int (a2), .int (a3)]) (rest := []) ⟨hx, hb, hml, hown, hts⟩ (c_C_slotRegister l (ad := ad) (sk := sk) (sv := sv) (tK := tK)  (k_slots a0) 1 a1 a2 a3 (k_slots_lt ha0) r_6 g_7) (va_cwS 5 hts (aw_S aw_171 aw_172 aw_1 aw_173) rfl rfl rfl (by decide +kernel) ⟨Nat.le_of_ble_eq_true rfl, Nat.le_of_ble_eq_true rfl⟩) ⟨fun a U g mk q => ⟨q.1, q.2.call⟩, fun U hU hW => ⟨rfl, hT.at hS hU hW (fun _ z => z.elim)⟩⟩ rfl rfl hl.1 rfl (lv_room (Nat.le_of_ble_eq_true rfl)) d_C_longOf_33 ⟨Nat.le_refl _, Nat.le_refl _⟩) ?_
    refine lv_istore (lv' := [(6, .int (r_6)), (5, .int (r_4)), (0, .ref (ad a0)), (1, .int (a1)), (2, .int (a2)), (3, .int (a3)), (4, .int (a4))]) hx hb d_C_longOf_36 hl (by decide) rfl (fun ls hl => ?_)
    refine lv_aload_n hx hb d_C_longOf_38 rfl (lv_at hl 2 rfl) ?_
    refine vk_getf (v := .ref (sk (k_slots a0))) hx hb (tb_slots hT ha0 (ju_48 ha0 ‹_› ‹_›)) hS hown (ht aw_775) (fun _ h9 => h9) d_C_longOf_39 ?_
    refine lv_iconst (v := 2) hx hb d_C_longOf_42 (by decide) ?_
    refine lv_iload_n hx hb d_C_longOf_43 rfl (lv_at hl 3 rfl) ?_
    refine lv_iload_n hx hb d_C_longOf_44 rfl (lv_at hl 4 rfl) ?_
    refine lv_iload_n hx hb d_C_longOf_45 rfl (lv_at hl 5 rfl) ?_
    obtain ⟨r_8, g_9, hf⟩ := Option.bind_eq_some_iff.mp hf
    refine ju_calli (W.runS (As := [.ref (sk (k_slots a0)), .int (2), .int (a1), .int (a2), .int (a3)]) (rest := []) ⟨hx, hb, hml, hown, hts⟩ (c_C_slotRegister l (ad := ad) (sk := sk) (sv := sv) (tK := tK)  (k_slots a0) 2 a1 a2 a3 (k_slots_lt ha0) r_8 g_9) (va_cwS 5 hts (aw_S aw_171 aw_172 aw_1 aw_173) rfl rfl rfl (by decide +kernel) ⟨Nat.le_of_ble_eq_true rfl, Nat.le_of_ble_eq_true rfl⟩) ⟨fun a U g mk q => ⟨q.1, q.2.call⟩, fun U hU hW => ⟨rfl, hT.at hS hU hW (fun _ z => z.elim)⟩⟩ rfl rfl hl.1 rfl (lv_room (Nat.le_of_ble_eq_true rfl)) d_C_longOf_46 ⟨Nat.le_refl _, Nat.le_refl _⟩) ?_
    refine lv_istore (lv' := [(7, .int (r_8)), (6, .int (r_6)), (5, .int (r_4)), (0, .ref (ad a0)), (1, .int (a1)), (2, .int (a2)), (3, .int (a3)), (4, .int (a4))]) hx hb d_C_longOf_49 hl (by decide) rfl (fun ls hl => ?_)
    refine va_gets (v := .ref (tK)) hx hb hT.1 hS hown (ht aw_38) (fun _ h9 => h9) d_C_longOf_51 ?_
    refine lv_aload_n hx hb d_C_longOf_54 rfl (lv_at hl 3 rfl) ?_
    refine vk_getf (v := .int (k_stands a0)) hx hb (tb_stands hT ha0) hS hown (ht aw_774) (fun _ h9 => h9) d_C_longOf_55 ?_
    obtain ⟨z_10, hf⟩ := ju_gd hf
    refine vb_tq (v := .ref (ad (k_stands a0).toNatClampNeg)) hx hb hT.2.1 hS z_10 rfl d_C_longOf_58 ?_
    refine lv_iload hx hb d_C_longOf_59 (lv_at hl 2 rfl) ?_
    refine lv_iload hx hb d_C_longOf_61 (lv_at hl 1 rfl) ?_
    refine lv_iload hx hb d_C_longOf_63 (lv_at hl 0 rfl) ?_
    refine lv_aload_n hx hb d_C_longOf_65 rfl (lv_at hl 3 rfl) ?_
    refine lv_bipush (v := 8) hx hb d_C_longOf_66 (by decide) ?_
    obtain ⟨r_11, g_12, hf⟩ := Option.bind_eq_some_iff.mp hf
    refine ju_calli (W.runV (As := [.int (8)]) (rest := [.int (r_8), .int (r_6), .int (r_4), .ref (ad (k_stands a0).toNatClampNeg)]) ⟨hx, hb, hml, hown, hts⟩ (c_K_has l (ad := ad) (sk := sk) (sv := sv) (tK := tK)  a0 8 ha0 r_11 g_12) (cwV 1 hts (aw_V aw_176 aw_49 aw_50 aw_12 aw_51) rfl rfl rfl (by decide +kernel) ⟨Nat.le_of_ble_eq_true rfl, Nat.le_of_ble_eq_true rfl⟩) ⟨fun a U g mk q => ⟨q.1, q.2.call⟩, tb_recvK hT ha0 hS, fun U hU hW => ⟨rfl, hT.at hS hU hW (fun _ z => z.elim)⟩⟩ rfl rfl hl.1 rfl (lv_room (Nat.le_of_ble_eq_true rfl)) d_C_longOf_68 ⟨Nat.le_refl _, Nat.le_refl _⟩) ?_
    refine lv_if_eq (tgt := 79) hx hb d_C_longOf_71 (by decide) (fun c_13 => ?_) (fun c_13 => ?_)
    · replace hf := (if_pos c_13).symm.trans hf
      refine lv_iconst (v := 0) hx hb d_C_longOf_79 (by decide) ?_
      obtain ⟨r_14, g_15, hf⟩ := Option.bind_eq_some_iff.mp hf
      refine ju_calli (W.runV (As := [.int (r_4), .int (r_6), .int (r_8), .int (0)]) (rest := []) ⟨hx, hb, hml, hown, hts⟩ (c_K_compose l (ad := ad) (sk := sk) (sv := sv) (tK := tK)  ((k_stands a0).toNatClampNeg) r_4 r_6 r_8 0 (ju_lt z_10) r_14 g_15) (cwV 4 hts (aw_V aw_155 aw_156 aw_157 aw_12 aw_158) rfl rfl rfl (by decide +kernel) ⟨Nat.le_of_ble_eq_true rfl, Nat.le_of_ble_eq_true rfl⟩) ⟨fun a U g mk q => ⟨q.1, q.2.call⟩, tb_recvK hT (ju_lt z_10) hS, fun U hU hW => ⟨rfl, hT.at hS hU hW (fun _ z => z.elim)⟩⟩ rfl rfl hl.1 rfl (lv_room (Nat.le_of_ble_eq_true rfl)) d_C_longOf_80 ⟨Nat.le_refl _, Nat.le_refl _⟩) ?_
      exact W.iret (v := r_14) hx hb hr (fun t ht hW => ⟨congrArg (fun z => Outcome.returned (some (Value.int z))) (Option.some.inj hf), ht⟩) (fun q h => nomatch h) d_C_longOf_83
    · replace hf := (if_neg c_13).symm.trans hf
      refine lv_iload hx hb d_C_longOf_74 (lv_at hl 7 rfl) ?_
      refine lv_goto (tgt := 80) hx hb d_C_longOf_76 (by decide) ?_
      obtain ⟨r_16, g_17, hf⟩ := Option.bind_eq_some_iff.mp hf
      refine ju_calli (W.runV (As := [.int (r_4), .int (r_6), .int (r_8), .int (a4)]) (rest := []) ⟨hx, hb, hml, hown, hts⟩ (c_K_compose l (ad := ad) (sk := sk) (sv := sv) (tK := tK)  ((k_stands a0).toNatClampNeg) r_4 r_6 r_8 a4 (ju_lt z_10) r_16 g_17) (cwV 4 hts (aw_V aw_155 aw_156 aw_157 aw_12 aw_158) rfl rfl rfl (by decide +kernel) ⟨Nat.le_of_ble_eq_true rfl, Nat.le_of_ble_eq_true rfl⟩) ⟨fun a U g mk q => ⟨q.1, q.2.call⟩, tb_recvK hT (ju_lt z_10) hS, fun U hU hW => ⟨rfl, hT.at hS hU hW (fun _ z => z.elim)⟩⟩ rfl rfl hl.1 rfl (lv_room (Nat.le_of_ble_eq_true rfl)) d_C_longOf_80 ⟨Nat.le_refl _, Nat.le_refl _⟩) ?_
      exact W.iret (v := r_16) hx hb hr (fun t ht hW => ⟨congrArg (fun z => Outcome.returned (some (Value.int z))) (Option.some.inj hf), ht⟩) (fun q h => nomatch h) d_C_longOf_83
  · replace hf := (if_pos c_3).symm.trans hf
    refine lv_iconst (v := (-1)) hx hb d_C_longOf_10 (by decide) ?_
    exact W.iret (v := (-1)) hx hb hr (fun t ht hW => ⟨congrArg (fun z => Outcome.returned (some (Value.int z))) (Option.some.inj hf), ht⟩) (fun q h => nomatch h) d_C_longOf_11

def f_C_shortOf_L27 (a0 : Int32) (a1 : Int32) (a2 : Int32) (a3 : Int32) (a4 : Int32)  : Nat → Int32 → Int32 → Option (Int32)
  | 0, _, _ => none
  | n + 1, x5, x6 =>
    if 75 ≤ x6 then (some ((-1))) else (if x6 < 0 ∨ 75 ≤ x6.toNatClampNeg then none else if (k_stands x6.toNatClampNeg) = a0 then ((f_K_allows x6.toNatClampNeg a1 a2 a3 a4).bind fun r_10 => if (bI r_10) = 0 then (f_C_shortOf_L27 a0 a1 a2 a3 a4  n x5 (x6 + 1)) else ((f_C_longOf x6.toNatClampNeg a1 a2 a3 a4).bind fun r_13 => if r_13 = x5 then ((f_K_compose x6.toNatClampNeg a1 a2 a3 a4).bind fun r_16 => some (r_16)) else (f_C_shortOf_L27 a0 a1 a2 a3 a4  n x5 (x6 + 1)))) else (f_C_shortOf_L27 a0 a1 a2 a3 a4  n x5 (x6 + 1)))
def f_C_shortOf (a0 : Int32) (a1 : Int32) (a2 : Int32) (a3 : Int32) (a4 : Int32) : Option Int32 :=
  (f_C_isKind a0).bind fun r_1 => if (bI r_1) = 0 then (some ((-1))) else (if a0 < 0 ∨ 75 ≤ a0.toNatClampNeg then none else (f_K_compose a0.toNatClampNeg a1 a2 a3 a4).bind fun r_5 => f_C_shortOf_L27 a0 a1 a2 a3 a4  80 r_5 0)
set_option maxHeartbeats 4000000 in
set_option maxRecDepth 100000 in
theorem c_C_shortOf (l : Launch) {ad sk sv : Nat → Nat} {tK : Nat} (a0 : Int32) (a1 : Int32) (a2 : Int32) (a3 : Int32) (a4 : Int32)  (r : Int32) (hf : f_C_shortOf a0 a1 a2 a3 a4 = some r) : Met l y_C_shortOf (Cond.code y_C_shortOf b_C_shortOf 8 (Option.some FieldType.int) :: aw) ({ frames := 8, cells := 0, slots := 0, locals := 180 } : Room) (va_Pc [.int (a0), .int (a1), .int (a2), .int (a3), .int (a4)] (fun U => tb ad sk sv tK (fun _ => False) U U.heap)) (QcRead r) 0 0 (fun _ => False) := by
  refine Met.ofW (cc := b_C_shortOf) (maxL := 8) (ret := (Option.some FieldType.int)) (by decide) rfl ?_
  intro p e s m args below meth c s₁ B hml hv
  obtain ⟨rfl, hT⟩ := hv
  have hx := B.exec
  have hb := B.bytes
  have hr := B.returns
  have hts := atoms_spec (ws := (Cond.code y_C_shortOf b_C_shortOf 8 (Option.some FieldType.int) :: aw)) B.pre
  have ht : ∀ {w : Cond}, w ∈ aw → w.before ([.int (a0), .int (a1), .int (a2), .int (a3), .int (a4)] : List Value).toArray s = true := fun h => hts _ (List.mem_cons_of_mem _ h)
  have hown : s.vm.findClass "CodeWords" = some m.cls := findClass_of_methodNamed B.named
  have hlocks := B.notSynchronized
  have hS : va_S (fun _ => False) s.heap s.heap [] := va_S.rf
  have hl := lv_entry ([.int (a0), .int (a1), .int (a2), .int (a3), .int (a4)]) (n := 8) (Nat.le_of_ble_eq_true rfl)
  rw [lg_entry_eq]
  generalize (lg_sl ([.int (a0), .int (a1), .int (a2), .int (a3), .int (a4)]) ++ List.replicate (8 - (lg_sl ([.int (a0), .int (a1), .int (a2), .int (a3), .int (a4)])).length) Slot.unset).toArray = ls at hl ⊢
  have hl : lv_has ls 8 [(0, .int (a0)), (1, .int (a1)), (2, .int (a2)), (3, .int (a3)), (4, .int (a4))] := hl
  have J27 : ∀ (n : Nat) (x5 : Int32) (x6 : Int32) (ls : Array Slot), lv_has ls 8 [(0, .int (a0)), (1, .int (a1)), (2, .int (a2)), (3, .int (a3)), (4, .int (a4)), (5, .int (x5)), (6, .int (x6))] → f_C_shortOf_L27 a0 a1 a2 a3 a4  n x5 x6 = some r → pW p l e (headSpec (Cond.code y_C_shortOf b_C_shortOf 8 (Option.some FieldType.int) :: aw) ({ frames := 8, cells := 0, slots := 0, locals := 180 } : Room)).room s m ([.int (a0), .int (a1), .int (a2), .int (a3), .int (a4)] : List Value).toArray below meth c r (F0 m 27 ls []) := by
    intro n
    induction n with
    | zero =>
      intro x5 x6  ls  hl hf
      rw [f_C_shortOf_L27] at hf
      cases hf
    | succ n ih =>
      intro x5 x6  ls  hl hf
      rw [f_C_shortOf_L27] at hf
      refine lv_iload hx hb d_C_shortOf_27 (lv_at hl 6 rfl) ?_
      refine va_gets (v := .ref (tK)) hx hb hT.1 hS hown (ht aw_38) (fun _ h9 => h9) d_C_shortOf_29 ?_
      refine va_tlen (v := 75) hx hb hT.2.1 hS rfl d_C_shortOf_32 ?_
      refine lv_icmp_ge (tgt := 98) hx hb d_C_shortOf_33 (by decide) (fun c_7 => ?_) (fun c_7 => ?_)
      · replace hf := (if_pos c_7).symm.trans hf
        refine lv_iconst (v := (-1)) hx hb d_C_shortOf_98 (by decide) ?_
        exact W.iret (v := (-1)) hx hb hr (fun t ht hW => ⟨congrArg (fun z => Outcome.returned (some (Value.int z))) (Option.some.inj hf), ht⟩) (fun q h => nomatch h) d_C_shortOf_99
      · replace hf := (if_neg c_7).symm.trans hf
        refine va_gets (v := .ref (tK)) hx hb hT.1 hS hown (ht aw_38) (fun _ h9 => h9) d_C_shortOf_36 ?_
        refine lv_iload hx hb d_C_shortOf_39 (lv_at hl 6 rfl) ?_
        obtain ⟨z_8, hf⟩ := ju_gd hf
        refine vb_tq (v := .ref (ad x6.toNatClampNeg)) hx hb hT.2.1 hS z_8 rfl d_C_shortOf_41 ?_
        refine lv_astore (lv' := [(7, .ref (ad x6.toNatClampNeg)), (0, .int (a0)), (1, .int (a1)), (2, .int (a2)), (3, .int (a3)), (4, .int (a4)), (5, .int (x5)), (6, .int (x6))]) hx hb d_C_shortOf_42 hl (by decide) rfl (fun ls hl => ?_)
        refine lv_aload hx hb d_C_shortOf_44 (lv_at hl 0 rfl) ?_
        refine vk_getf (v := .int (k_stands x6.toNatClampNeg)) hx hb (tb_stands hT (ju_lt z_8)) hS hown (ht aw_774) (fun _ h9 => h9) d_C_shortOf_46 ?_
        refine lv_iload_n hx hb d_C_shortOf_49 rfl (lv_at hl 1 rfl) ?_
        refine lv_icmp_ne (tgt := 92) hx hb d_C_shortOf_50 (by decide) (fun c_9 => ?_) (fun c_9 => ?_)
        · replace hf := (if_neg c_9).symm.trans hf
          refine lv_iinc (v := x6 + 1) (lv' := [(6, .int (x6 + 1)), (7, .ref (ad x6.toNatClampNeg)), (0, .int (a0)), (1, .int (a1)), (2, .int (a2)), (3, .int (a3)), (4, .int (a4)), (5, .int (x5))]) hx hb d_C_shortOf_92 hl (k := 7) rfl rfl (by decide) rfl (fun ls hl => ?_)
          refine lv_goto (tgt := 27) hx hb d_C_shortOf_95 (by decide) ?_
          exact ih x5 (x6 + 1)  _  (lv_sub hl [2, 3, 4, 5, 6, 7, 0] rfl) hf
        · replace hf := (if_pos c_9).symm.trans hf
          refine lv_aload hx hb d_C_shortOf_53 (lv_at hl 0 rfl) ?_
          refine lv_iload_n hx hb d_C_shortOf_55 rfl (lv_at hl 2 rfl) ?_
          refine lv_iload_n hx hb d_C_shortOf_56 rfl (lv_at hl 3 rfl) ?_
          refine lv_iload_n hx hb d_C_shortOf_57 rfl (lv_at hl 4 rfl) ?_
          refine lv_iload hx hb d_C_shortOf_58 (lv_at hl 5 rfl) ?_
          obtain ⟨r_10, g_11, hf⟩ := Option.bind_eq_some_iff.mp hf
          refine ju_calli (W.runV (As := [.int (a1), .int (a2), .int (a3), .int (a4)]) (rest := []) ⟨hx, hb, hml, hown, hts⟩ (c_K_allows l (ad := ad) (sk := sk) (sv := sv) (tK := tK)  x6.toNatClampNeg a1 a2 a3 a4 (ju_lt z_8) r_10 g_11) (cwV 4 hts (aw_V aw_167 aw_122 aw_123 aw_12 aw_124) rfl rfl rfl (by decide +kernel) ⟨Nat.le_of_ble_eq_true rfl, Nat.le_of_ble_eq_true rfl⟩) ⟨fun a U g mk q => ⟨q.1, q.2.call⟩, tb_recvK hT (ju_lt z_8) hS, fun U hU hW => ⟨rfl, hT.at hS hU hW (fun _ z => z.elim)⟩⟩ rfl rfl hl.1 rfl (lv_room (Nat.le_of_ble_eq_true rfl)) d_C_shortOf_60 ⟨Nat.le_refl _, Nat.le_refl _⟩) ?_
          refine lv_if_eq (tgt := 92) hx hb d_C_shortOf_63 (by decide) (fun c_12 => ?_) (fun c_12 => ?_)
          · replace hf := (if_pos c_12).symm.trans hf
            refine lv_iinc (v := x6 + 1) (lv' := [(6, .int (x6 + 1)), (7, .ref (ad x6.toNatClampNeg)), (0, .int (a0)), (1, .int (a1)), (2, .int (a2)), (3, .int (a3)), (4, .int (a4)), (5, .int (x5))]) hx hb d_C_shortOf_92 hl (k := 7) rfl rfl (by decide) rfl (fun ls hl => ?_)
            refine lv_goto (tgt := 27) hx hb d_C_shortOf_95 (by decide) ?_
            exact ih x5 (x6 + 1)  _  (lv_sub hl [2, 3, 4, 5, 6, 7, 0] rfl) hf
          · replace hf := (if_neg c_12).symm.trans hf
            refine lv_aload hx hb d_C_shortOf_66 (lv_at hl 0 rfl) ?_
            refine lv_iload_n hx hb d_C_shortOf_68 rfl (lv_at hl 2 rfl) ?_
            refine lv_iload_n hx hb d_C_shortOf_69 rfl (lv_at hl 3 rfl) ?_
            refine lv_iload_n hx hb d_C_shortOf_70 rfl (lv_at hl 4 rfl) ?_
            refine lv_iload hx hb d_C_shortOf_71 (lv_at hl 5 rfl) ?_
            obtain ⟨r_13, g_14, hf⟩ := Option.bind_eq_some_iff.mp hf
            refine ju_calli (W.runS (As := [.ref (ad x6.toNatClampNeg), .int (a1), .int (a2), .int (a3), .int (a4)]) (rest := []) ⟨hx, hb, hml, hown, hts⟩ (c_C_longOf l (ad := ad) (sk := sk) (sv := sv) (tK := tK)  x6.toNatClampNeg a1 a2 a3 a4 (ju_lt z_8) r_13 g_14) (va_cwS 5 hts (aw_S aw_168 aw_169 aw_1 aw_170) rfl rfl rfl (by decide +kernel) ⟨Nat.le_of_ble_eq_true rfl, Nat.le_of_ble_eq_true rfl⟩) ⟨fun a U g mk q => ⟨q.1, q.2.call⟩, fun U hU hW => ⟨rfl, hT.at hS hU hW (fun _ z => z.elim)⟩⟩ rfl rfl hl.1 rfl (lv_room (Nat.le_of_ble_eq_true rfl)) d_C_shortOf_73 ⟨Nat.le_refl _, Nat.le_refl _⟩) ?_
            refine lv_iload hx hb d_C_shortOf_76 (lv_at hl 6 rfl) ?_
            refine lv_icmp_ne (tgt := 92) hx hb d_C_shortOf_78 (by decide) (fun c_15 => ?_) (fun c_15 => ?_)
            · replace hf := (if_neg c_15).symm.trans hf
              refine lv_iinc (v := x6 + 1) (lv' := [(6, .int (x6 + 1)), (7, .ref (ad x6.toNatClampNeg)), (0, .int (a0)), (1, .int (a1)), (2, .int (a2)), (3, .int (a3)), (4, .int (a4)), (5, .int (x5))]) hx hb d_C_shortOf_92 hl (k := 7) rfl rfl (by decide) rfl (fun ls hl => ?_)
              refine lv_goto (tgt := 27) hx hb d_C_shortOf_95 (by decide) ?_
              exact ih x5 (x6 + 1)  _  (lv_sub hl [2, 3, 4, 5, 6, 7, 0] rfl) hf
            · replace hf := (if_pos c_15).symm.trans hf
              refine lv_aload hx hb d_C_shortOf_81 (lv_at hl 0 rfl) ?_
              refine lv_iload_n hx hb d_C_shortOf_83 rfl (lv_at hl 2 rfl) ?_
              refine lv_iload_n hx hb d_C_shortOf_84 rfl (lv_at hl 3 rfl) ?_
              refine lv_iload_n hx hb d_C_shortOf_85 rfl (lv_at hl 4 rfl) ?_
              refine lv_iload hx hb d_C_shortOf_86 (lv_at hl 5 rfl) ?_
              obtain ⟨r_16, g_17, hf⟩ := Option.bind_eq_some_iff.mp hf
              refine ju_calli (W.runV (As := [.int (a1), .int (a2), .int (a3), .int (a4)]) (rest := []) ⟨hx, hb, hml, hown, hts⟩ (c_K_compose l (ad := ad) (sk := sk) (sv := sv) (tK := tK)  x6.toNatClampNeg a1 a2 a3 a4 (ju_lt z_8) r_16 g_17) (cwV 4 hts (aw_V aw_155 aw_156 aw_157 aw_12 aw_158) rfl rfl rfl (by decide +kernel) ⟨Nat.le_of_ble_eq_true rfl, Nat.le_of_ble_eq_true rfl⟩) ⟨fun a U g mk q => ⟨q.1, q.2.call⟩, tb_recvK hT (ju_lt z_8) hS, fun U hU hW => ⟨rfl, hT.at hS hU hW (fun _ z => z.elim)⟩⟩ rfl rfl hl.1 rfl (lv_room (Nat.le_of_ble_eq_true rfl)) d_C_shortOf_88 ⟨Nat.le_refl _, Nat.le_refl _⟩) ?_
              exact W.iret (v := r_16) hx hb hr (fun t ht hW => ⟨congrArg (fun z => Outcome.returned (some (Value.int z))) (Option.some.inj hf), ht⟩) (fun q h => nomatch h) d_C_shortOf_91
  rw [f_C_shortOf] at hf
  refine lv_iload_n hx hb d_C_shortOf_0 rfl (lv_at hl 0 rfl) ?_
  obtain ⟨r_1, g_2, hf⟩ := Option.bind_eq_some_iff.mp hf
  refine ju_calli (W.runS (As := [.int (a0)]) (rest := []) ⟨hx, hb, hml, hown, hts⟩ (c_C_isKind l (ad := ad) (sk := sk) (sv := sv) (tK := tK)  a0  r_1 g_2) (va_cwS 1 hts (aw_S aw_152 aw_153 aw_1 aw_154) rfl rfl rfl (by decide +kernel) ⟨Nat.le_of_ble_eq_true rfl, Nat.le_of_ble_eq_true rfl⟩) ⟨fun a U g mk q => ⟨q.1, q.2.call⟩, fun U hU hW => ⟨rfl, hT.at hS hU hW (fun _ z => z.elim)⟩⟩ rfl rfl hl.1 rfl (lv_room (Nat.le_of_ble_eq_true rfl)) d_C_shortOf_1 ⟨Nat.le_refl _, Nat.le_refl _⟩) ?_
  refine lv_if_ne (tgt := 9) hx hb d_C_shortOf_4 (by decide) (fun c_3 => ?_) (fun c_3 => ?_)
  · replace hf := (if_neg c_3).symm.trans hf
    refine va_gets (v := .ref (tK)) hx hb hT.1 hS hown (ht aw_38) (fun _ h9 => h9) d_C_shortOf_9 ?_
    refine lv_iload_n hx hb d_C_shortOf_12 rfl (lv_at hl 0 rfl) ?_
    obtain ⟨z_4, hf⟩ := ju_gd hf
    refine vb_tq (v := .ref (ad a0.toNatClampNeg)) hx hb hT.2.1 hS z_4 rfl d_C_shortOf_13 ?_
    refine lv_iload_n hx hb d_C_shortOf_14 rfl (lv_at hl 1 rfl) ?_
    refine lv_iload_n hx hb d_C_shortOf_15 rfl (lv_at hl 2 rfl) ?_
    refine lv_iload_n hx hb d_C_shortOf_16 rfl (lv_at hl 3 rfl) ?_
    refine lv_iload hx hb d_C_shortOf_17 (lv_at hl 4 rfl) ?_
    obtain ⟨r_5, g_6, hf⟩ := Option.bind_eq_some_iff.mp hf
    refine ju_calli (W.runV (As := [.int (a1), .int (a2), .int (a3), .int (a4)]) (rest := []) ⟨hx, hb, hml, hown, hts⟩ (c_K_compose l (ad := ad) (sk := sk) (sv := sv) (tK := tK)  a0.toNatClampNeg a1 a2 a3 a4 (ju_lt z_4) r_5 g_6) (cwV 4 hts (aw_V aw_155 aw_156 aw_157 aw_12 aw_158) rfl rfl rfl (by decide +kernel) ⟨Nat.le_of_ble_eq_true rfl, Nat.le_of_ble_eq_true rfl⟩) ⟨fun a U g mk q => ⟨q.1, q.2.call⟩, tb_recvK hT (ju_lt z_4) hS, fun U hU hW => ⟨rfl, hT.at hS hU hW (fun _ z => z.elim)⟩⟩ rfl rfl hl.1 rfl (lv_room (Nat.le_of_ble_eq_true rfl)) d_C_shortOf_19 ⟨Nat.le_refl _, Nat.le_refl _⟩) ?_
    refine lv_istore (lv' := [(5, .int (r_5)), (0, .int (a0)), (1, .int (a1)), (2, .int (a2)), (3, .int (a3)), (4, .int (a4))]) hx hb d_C_shortOf_22 hl (by decide) rfl (fun ls hl => ?_)
    refine lv_iconst (v := 0) hx hb d_C_shortOf_24 (by decide) ?_
    refine lv_istore (lv' := [(6, .int (0)), (5, .int (r_5)), (0, .int (a0)), (1, .int (a1)), (2, .int (a2)), (3, .int (a3)), (4, .int (a4))]) hx hb d_C_shortOf_25 hl (by decide) rfl (fun ls hl => ?_)
    exact J27 80 r_5 0  _  (lv_sub hl [2, 3, 4, 5, 6, 1, 0] rfl) hf
  · replace hf := (if_pos c_3).symm.trans hf
    refine lv_iconst (v := (-1)) hx hb d_C_shortOf_7 (by decide) ?_
    exact W.iret (v := (-1)) hx hb hr (fun t ht hW => ⟨congrArg (fun z => Outcome.returned (some (Value.int z))) (Option.some.inj hf), ht⟩) (fun q h => nomatch h) d_C_shortOf_8

def f_C_spells_L25 (a0 : Nat) (a1 : Int64) (a2 : Int64) (k6 : Int32 → Int32 → Option (Bool)) (x5 : Int32) (x6 : Int32) (t0 : Int64) : Option (Bool) :=
  if (((ju_lushr t0 (8 * (7 - (x6 - x6 / 8 * 8)))).toInt32) &&& 255) = 0 then (k6 x5 (x6 + 1)) else ((f_S_length a0).bind fun r_7 => if r_7 ≤ x5 then (some false) else ((f_S_charAt a0 x5).bind fun r_10 => if r_10 = (((ju_lushr t0 (8 * (7 - (x6 - x6 / 8 * 8)))).toInt32) &&& 255) then (k6 (x5 + 1) (x6 + 1)) else (some false)))
def f_C_spells_L6 (a0 : Nat) (a1 : Int64) (a2 : Int64)  : Nat → Int32 → Int32 → Option (Bool)
  | 0, _, _ => none
  | n + 1, x5, x6 =>
    if 16 ≤ x6 then ((f_S_length a0).bind fun r_2 => if x5 = r_2 then (some true) else (some false)) else (if 8 ≤ x6 then (f_C_spells_L25 a0 a1 a2 (fun y0 y1 => f_C_spells_L6 a0 a1 a2  n y0 y1) x5 x6 a2) else (f_C_spells_L25 a0 a1 a2 (fun y0 y1 => f_C_spells_L6 a0 a1 a2  n y0 y1) x5 x6 a1))
def f_C_spells (a0 : Nat) (a1 : Int64) (a2 : Int64) : Option Bool :=
  f_C_spells_L6 a0 a1 a2  40 0 0
set_option maxHeartbeats 4000000 in
set_option maxRecDepth 100000 in
theorem c_C_spells (l : Launch) {ad sk sv : Nat → Nat} {tK : Nat} (a0 : Nat) (a1 : Int64) (a2 : Int64) (ha0 : a0 < 180) (r : Bool) (hf : f_C_spells a0 a1 a2 = some r) : Met l y_C_spells (Cond.code y_C_spells b_C_spells 10 (Option.some FieldType.boolean) :: aw) ({ frames := 4, cells := 0, slots := 0, locals := 85 } : Room) (va_Pc [.ref (sk a0), .long (a1), .long (a2)] (fun U => tb ad sk sv tK (fun _ => False) U U.heap)) (QcRead (bI r)) 0 0 (fun _ => False) := by
  refine Met.ofW (cc := b_C_spells) (maxL := 10) (ret := (Option.some FieldType.boolean)) (by decide) rfl ?_
  intro p e s m args below meth c s₁ B hml hv
  obtain ⟨rfl, hT⟩ := hv
  have hx := B.exec
  have hb := B.bytes
  have hr := B.returns
  have hts := atoms_spec (ws := (Cond.code y_C_spells b_C_spells 10 (Option.some FieldType.boolean) :: aw)) B.pre
  have ht : ∀ {w : Cond}, w ∈ aw → w.before ([.ref (sk a0), .long (a1), .long (a2)] : List Value).toArray s = true := fun h => hts _ (List.mem_cons_of_mem _ h)
  have hown : s.vm.findClass "CodeWords" = some m.cls := findClass_of_methodNamed B.named
  have hlocks := B.notSynchronized
  have hS : va_S (fun _ => False) s.heap s.heap [] := va_S.rf
  have hl := lv_entry ([.ref (sk a0), .long (a1), .long (a2)]) (n := 10) (Nat.le_of_ble_eq_true rfl)
  rw [lg_entry_eq]
  generalize (lg_sl ([.ref (sk a0), .long (a1), .long (a2)]) ++ List.replicate (10 - (lg_sl ([.ref (sk a0), .long (a1), .long (a2)])).length) Slot.unset).toArray = ls at hl ⊢
  have hl : lv_has ls 10 [(0, .ref (sk a0)), (1, .long (a1)), (3, .long (a2))] := hl
  have J6 : ∀ (n : Nat) (x5 : Int32) (x6 : Int32) (ls : Array Slot), lv_has ls 10 [(0, .ref (sk a0)), (1, .long (a1)), (3, .long (a2)), (5, .int (x5)), (6, .int (x6))] → f_C_spells_L6 a0 a1 a2  n x5 x6 = some r → pW p l e (headSpec (Cond.code y_C_spells b_C_spells 10 (Option.some FieldType.boolean) :: aw) ({ frames := 4, cells := 0, slots := 0, locals := 85 } : Room)).room s m ([.ref (sk a0), .long (a1), .long (a2)] : List Value).toArray below meth c (bI r) (F0 m 6 ls []) := by
    intro n
    induction n with
    | zero =>
      intro x5 x6  ls  hl hf
      rw [f_C_spells_L6] at hf
      cases hf
    | succ n ih =>
      intro x5 x6  ls  hl hf
      rw [f_C_spells_L6] at hf
      have J25 : ∀ (x5 : Int32) (x6 : Int32) (t0 : Int64) (ls : Array Slot), lv_has ls 10 [(0, .ref (sk a0)), (1, .long (a1)), (3, .long (a2)), (5, .int (x5)), (6, .int (x6))] → f_C_spells_L25 a0 a1 a2 (fun y0 y1 => f_C_spells_L6 a0 a1 a2  n y0 y1) x5 x6 t0 = some r → pW p l e (headSpec (Cond.code y_C_spells b_C_spells 10 (Option.some FieldType.boolean) :: aw) ({ frames := 4, cells := 0, slots := 0, locals := 85 } : Room)).room s m ([.ref (sk a0), .long (a1), .long (a2)] : List Value).toArray below meth c (bI r) (F0 m 25 ls [.long (t0)]) := by
        intro x5 x6 t0  ls  hl hf
        rw [f_C_spells_L25] at hf
        refine lv_lstore (lv' := [(7, .long (t0)), (0, .ref (sk a0)), (1, .long (a1)), (3, .long (a2)), (5, .int (x5)), (6, .int (x6))]) hx hb d_C_spells_25 hl (by decide) rfl (fun ls hl => ?_)
        refine lv_lload hx hb d_C_spells_27 (lv_at hl 0 rfl) ?_
        refine lv_bipush (v := 8) hx hb d_C_spells_29 (by decide) ?_
        refine lv_bipush (v := 7) hx hb d_C_spells_31 (by decide) ?_
        refine lv_iload hx hb d_C_spells_33 (lv_at hl 5 rfl) ?_
        refine lv_bipush (v := 8) hx hb d_C_spells_35 (by decide) ?_
        refine lv_irem hx hb d_C_spells_37 (by decide) ?_
        refine lv_isub hx hb d_C_spells_38 ?_
        refine lv_imul hx hb d_C_spells_39 ?_
        refine lv_lushr (v := ju_lushr t0 (8 * (7 - (x6 - x6 / 8 * 8)))) hx hb d_C_spells_40 rfl ?_
        refine lv_l2i (v := (ju_lushr t0 (8 * (7 - (x6 - x6 / 8 * 8)))).toInt32) hx hb d_C_spells_41 rfl ?_
        refine lv_sipush (v := 255) hx hb d_C_spells_42 (by decide) ?_
        refine lv_iand hx hb d_C_spells_45 ?_
        refine lv_istore (lv' := [(9, .int (((ju_lushr t0 (8 * (7 - (x6 - x6 / 8 * 8)))).toInt32) &&& 255)), (7, .long (t0)), (0, .ref (sk a0)), (1, .long (a1)), (3, .long (a2)), (5, .int (x5)), (6, .int (x6))]) hx hb d_C_spells_46 hl (by decide) rfl (fun ls hl => ?_)
        refine lv_iload hx hb d_C_spells_48 (lv_at hl 0 rfl) ?_
        refine lv_if_eq (tgt := 78) hx hb d_C_spells_50 (by decide) (fun c_6 => ?_) (fun c_6 => ?_)
        · replace hf := (if_pos c_6).symm.trans hf
          refine lv_iinc (v := x6 + 1) (lv' := [(6, .int (x6 + 1)), (9, .int (((ju_lushr t0 (8 * (7 - (x6 - x6 / 8 * 8)))).toInt32) &&& 255)), (7, .long (t0)), (0, .ref (sk a0)), (1, .long (a1)), (3, .long (a2)), (5, .int (x5))]) hx hb d_C_spells_78 hl (k := 6) rfl rfl (by decide) rfl (fun ls hl => ?_)
          refine lv_goto (tgt := 6) hx hb d_C_spells_81 (by decide) ?_
          exact ih x5 (x6 + 1)  _  (lv_sub hl [3, 4, 5, 6, 0] rfl) hf
        · replace hf := (if_neg c_6).symm.trans hf
          refine lv_iload hx hb d_C_spells_53 (lv_at hl 5 rfl) ?_
          refine lv_aload_n hx hb d_C_spells_55 rfl (lv_at hl 2 rfl) ?_
          obtain ⟨r_7, g_8, hf⟩ := Option.bind_eq_some_iff.mp hf
          refine ju_calli (W.runV (As := []) (rest := [.int (x5)]) ⟨hx, hb, hml, hown, hts⟩ (c_S_length l (ad := ad) (sk := sk) (sv := sv) (tK := tK)  a0 ha0 r_7 g_8) (cwV 0 hts (aw_V aw_174 aw_62 aw_63 aw_7 aw_64) rfl rfl rfl (by decide +kernel) ⟨Nat.le_of_ble_eq_true rfl, Nat.le_of_ble_eq_true rfl⟩) ⟨fun a U g mk q => ⟨q.1, q.2.call⟩, tb_recvS hT ha0 hS, fun U hU hW => ⟨rfl, hT.at hS hU hW (fun _ z => z.elim)⟩⟩ rfl rfl hl.1 rfl (lv_room (Nat.le_of_ble_eq_true rfl)) d_C_spells_56 ⟨Nat.le_refl _, Nat.le_refl _⟩) ?_
          refine lv_icmp_ge (tgt := 73) hx hb d_C_spells_59 (by decide) (fun c_9 => ?_) (fun c_9 => ?_)
          · replace hf := (if_pos c_9).symm.trans hf
            refine lv_iconst (v := 0) hx hb d_C_spells_73 (by decide) ?_
            exact W.zret (v := 0) hx hb hr (ju_nz false) (fun t ht hW => ⟨congrArg (fun z => Outcome.returned (some (Value.int (bI z)))) (Option.some.inj hf), ht⟩) (fun q h => nomatch h) d_C_spells_74
          · replace hf := (if_neg c_9).symm.trans hf
            refine lv_aload_n hx hb d_C_spells_62 rfl (lv_at hl 2 rfl) ?_
            refine lv_iload hx hb d_C_spells_63 (lv_at hl 5 rfl) ?_
            obtain ⟨r_10, g_11, hf⟩ := Option.bind_eq_some_iff.mp hf
            refine ju_calli (W.runV (As := [.int (x5)]) (rest := []) ⟨hx, hb, hml, hown, hts⟩ (c_S_charAt l (ad := ad) (sk := sk) (sv := sv) (tK := tK)  a0 x5 ha0 r_10 g_11) (cwV 1 hts (aw_V aw_175 aw_72 aw_73 aw_7 aw_74) rfl rfl rfl (by decide +kernel) ⟨Nat.le_of_ble_eq_true rfl, Nat.le_of_ble_eq_true rfl⟩) ⟨fun a U g mk q => ⟨q.1, q.2.call⟩, tb_recvS hT ha0 hS, fun U hU hW => ⟨rfl, hT.at hS hU hW (fun _ z => z.elim)⟩⟩ rfl rfl hl.1 rfl (lv_room (Nat.le_of_ble_eq_true rfl)) d_C_spells_65 ⟨Nat.le_refl _, Nat.le_refl _⟩) ?_
            refine lv_iload hx hb d_C_spells_68 (lv_at hl 0 rfl) ?_
            refine lv_icmp_eq (tgt := 75) hx hb d_C_spells_70 (by decide) (fun c_12 => ?_) (fun c_12 => ?_)
            · replace hf := (if_pos c_12).symm.trans hf
              refine lv_iinc (v := x5 + 1) (lv' := [(5, .int (x5 + 1)), (9, .int (((ju_lushr t0 (8 * (7 - (x6 - x6 / 8 * 8)))).toInt32) &&& 255)), (7, .long (t0)), (0, .ref (sk a0)), (1, .long (a1)), (3, .long (a2)), (6, .int (x6))]) hx hb d_C_spells_75 hl (k := 5) rfl rfl (by decide) rfl (fun ls hl => ?_)
              refine lv_iinc (v := x6 + 1) (lv' := [(6, .int (x6 + 1)), (5, .int (x5 + 1)), (9, .int (((ju_lushr t0 (8 * (7 - (x6 - x6 / 8 * 8)))).toInt32) &&& 255)), (7, .long (t0)), (0, .ref (sk a0)), (1, .long (a1)), (3, .long (a2))]) hx hb d_C_spells_78 hl (k := 6) rfl rfl (by decide) rfl (fun ls hl => ?_)
              refine lv_goto (tgt := 6) hx hb d_C_spells_81 (by decide) ?_
              exact ih (x5 + 1) (x6 + 1)  _  (lv_sub hl [4, 5, 6, 1, 0] rfl) hf
            · replace hf := (if_neg c_12).symm.trans hf
              refine lv_iconst (v := 0) hx hb d_C_spells_73 (by decide) ?_
              exact W.zret (v := 0) hx hb hr (ju_nz false) (fun t ht hW => ⟨congrArg (fun z => Outcome.returned (some (Value.int (bI z)))) (Option.some.inj hf), ht⟩) (fun q h => nomatch h) d_C_spells_74
      refine lv_iload hx hb d_C_spells_6 (lv_at hl 4 rfl) ?_
      refine lv_bipush (v := 16) hx hb d_C_spells_8 (by decide) ?_
      refine lv_icmp_ge (tgt := 84) hx hb d_C_spells_10 (by decide) (fun c_1 => ?_) (fun c_1 => ?_)
      · replace hf := (if_pos c_1).symm.trans hf
        refine lv_iload hx hb d_C_spells_84 (lv_at hl 3 rfl) ?_
        refine lv_aload_n hx hb d_C_spells_86 rfl (lv_at hl 0 rfl) ?_
        obtain ⟨r_2, g_3, hf⟩ := Option.bind_eq_some_iff.mp hf
        refine ju_calli (W.runV (As := []) (rest := [.int (x5)]) ⟨hx, hb, hml, hown, hts⟩ (c_S_length l (ad := ad) (sk := sk) (sv := sv) (tK := tK)  a0 ha0 r_2 g_3) (cwV 0 hts (aw_V aw_174 aw_62 aw_63 aw_7 aw_64) rfl rfl rfl (by decide +kernel) ⟨Nat.le_of_ble_eq_true rfl, Nat.le_of_ble_eq_true rfl⟩) ⟨fun a U g mk q => ⟨q.1, q.2.call⟩, tb_recvS hT ha0 hS, fun U hU hW => ⟨rfl, hT.at hS hU hW (fun _ z => z.elim)⟩⟩ rfl rfl hl.1 rfl (lv_room (Nat.le_of_ble_eq_true rfl)) d_C_spells_87 ⟨Nat.le_refl _, Nat.le_refl _⟩) ?_
        refine lv_icmp_ne (tgt := 97) hx hb d_C_spells_90 (by decide) (fun c_4 => ?_) (fun c_4 => ?_)
        · replace hf := (if_neg c_4).symm.trans hf
          refine lv_iconst (v := 0) hx hb d_C_spells_97 (by decide) ?_
          exact W.zret (v := 0) hx hb hr (ju_nz false) (fun t ht hW => ⟨congrArg (fun z => Outcome.returned (some (Value.int (bI z)))) (Option.some.inj hf), ht⟩) (fun q h => nomatch h) d_C_spells_98
        · replace hf := (if_pos c_4).symm.trans hf
          refine lv_iconst (v := 1) hx hb d_C_spells_93 (by decide) ?_
          refine lv_goto (tgt := 98) hx hb d_C_spells_94 (by decide) ?_
          exact W.zret (v := 1) hx hb hr (ju_nz true) (fun t ht hW => ⟨congrArg (fun z => Outcome.returned (some (Value.int (bI z)))) (Option.some.inj hf), ht⟩) (fun q h => nomatch h) d_C_spells_98
      · replace hf := (if_neg c_1).symm.trans hf
        refine lv_iload hx hb d_C_spells_13 (lv_at hl 4 rfl) ?_
        refine lv_bipush (v := 8) hx hb d_C_spells_15 (by decide) ?_
        refine lv_icmp_ge (tgt := 24) hx hb d_C_spells_17 (by decide) (fun c_5 => ?_) (fun c_5 => ?_)
        · replace hf := (if_pos c_5).symm.trans hf
          refine lv_lload_n hx hb d_C_spells_24 rfl (lv_at hl 2 rfl) ?_
          exact J25 x5 x6 a2  _  (lv_sub hl [0, 1, 2, 3, 4] rfl) hf
        · replace hf := (if_neg c_5).symm.trans hf
          refine lv_lload_n hx hb d_C_spells_20 rfl (lv_at hl 1 rfl) ?_
          refine lv_goto (tgt := 25) hx hb d_C_spells_21 (by decide) ?_
          exact J25 x5 x6 a1  _  (lv_sub hl [0, 1, 2, 3, 4] rfl) hf
  rw [f_C_spells] at hf
  refine lv_iconst (v := 0) hx hb d_C_spells_0 (by decide) ?_
  refine lv_istore (lv' := [(5, .int (0)), (0, .ref (sk a0)), (1, .long (a1)), (3, .long (a2))]) hx hb d_C_spells_1 hl (by decide) rfl (fun ls hl => ?_)
  refine lv_iconst (v := 0) hx hb d_C_spells_3 (by decide) ?_
  refine lv_istore (lv' := [(6, .int (0)), (5, .int (0)), (0, .ref (sk a0)), (1, .long (a1)), (3, .long (a2))]) hx hb d_C_spells_4 hl (by decide) rfl (fun ls hl => ?_)
  exact J6 40 0 0  _  (lv_sub hl [2, 3, 4, 1, 0] rfl) hf

def f_C_operandAt (a0 : Int32) : Option Int32 :=
  if a0 < 0 then (some (32)) else ((f_S_length 3).bind fun r_2 => if r_2 ≤ a0 then (some (32)) else ((f_S_charAt 3 a0).bind fun r_5 => some (r_5)))
set_option maxHeartbeats 4000000 in
set_option maxRecDepth 100000 in
theorem c_C_operandAt (l : Launch) {ad sk sv : Nat → Nat} {tK : Nat} (a0 : Int32)  (r : Int32) (hf : f_C_operandAt a0 = some r) : Met l y_C_operandAt (Cond.code y_C_operandAt b_C_operandAt 1 (Option.some FieldType.char) :: aw) ({ frames := 4, cells := 0, slots := 0, locals := 85 } : Room) (va_Pc [.int (a0)] (fun U => tb ad sk sv tK (fun _ => False) U U.heap)) (QcRead r) 0 0 (fun _ => False) := by
  refine Met.ofW (cc := b_C_operandAt) (maxL := 1) (ret := (Option.some FieldType.char)) (by decide) rfl ?_
  intro p e s m args below meth c s₁ B hml hv
  obtain ⟨rfl, hT⟩ := hv
  have hx := B.exec
  have hb := B.bytes
  have hr := B.returns
  have hts := atoms_spec (ws := (Cond.code y_C_operandAt b_C_operandAt 1 (Option.some FieldType.char) :: aw)) B.pre
  have ht : ∀ {w : Cond}, w ∈ aw → w.before ([.int (a0)] : List Value).toArray s = true := fun h => hts _ (List.mem_cons_of_mem _ h)
  have hown : s.vm.findClass "CodeWords" = some m.cls := findClass_of_methodNamed B.named
  have hlocks := B.notSynchronized
  have hS : va_S (fun _ => False) s.heap s.heap [] := va_S.rf
  have hl := lv_entry ([.int (a0)]) (n := 1) (Nat.le_of_ble_eq_true rfl)
  rw [lg_entry_eq]
  generalize (lg_sl ([.int (a0)]) ++ List.replicate (1 - (lg_sl ([.int (a0)])).length) Slot.unset).toArray = ls at hl ⊢
  have hl : lv_has ls 1 [(0, .int (a0))] := hl
  rw [f_C_operandAt] at hf
  refine lv_iload_n hx hb d_C_operandAt_0 rfl (lv_at hl 0 rfl) ?_
  refine lv_if_lt (tgt := 22) hx hb d_C_operandAt_1 (by decide) (fun c_1 => ?_) (fun c_1 => ?_)
  · replace hf := (if_pos c_1).symm.trans hf
    refine lv_bipush (v := 32) hx hb d_C_operandAt_22 (by decide) ?_
    exact W.zret (v := 32) hx hb hr (by first | rfl | exact s_nar ‹_›) (fun t ht hW => ⟨congrArg (fun z => Outcome.returned (some (Value.int z))) (Option.some.inj hf), ht⟩) (fun q h => nomatch h) d_C_operandAt_24
  · replace hf := (if_neg c_1).symm.trans hf
    refine lv_iload_n hx hb d_C_operandAt_4 rfl (lv_at hl 0 rfl) ?_
    refine va_ldcS hx hb hown (tb_r160 hT) d_C_operandAt_5 ?_
    obtain ⟨r_2, g_3, hf⟩ := Option.bind_eq_some_iff.mp hf
    refine ju_calli (W.runV (As := []) (rest := [.int (a0)]) ⟨hx, hb, hml, hown, hts⟩ (c_S_length l (ad := ad) (sk := sk) (sv := sv) (tK := tK)  3 (by decide) r_2 g_3) (cwV 0 hts (aw_V aw_174 aw_62 aw_63 aw_7 aw_64) rfl rfl rfl (by decide +kernel) ⟨Nat.le_of_ble_eq_true rfl, Nat.le_of_ble_eq_true rfl⟩) ⟨fun a U g mk q => ⟨q.1, q.2.call⟩, tb_recvS hT (by decide) hS, fun U hU hW => ⟨rfl, hT.at hS hU hW (fun _ z => z.elim)⟩⟩ rfl rfl hl.1 rfl (lv_room (Nat.le_of_ble_eq_true rfl)) d_C_operandAt_7 ⟨Nat.le_refl _, Nat.le_refl _⟩) ?_
    refine lv_icmp_ge (tgt := 22) hx hb d_C_operandAt_10 (by decide) (fun c_4 => ?_) (fun c_4 => ?_)
    · replace hf := (if_pos c_4).symm.trans hf
      refine lv_bipush (v := 32) hx hb d_C_operandAt_22 (by decide) ?_
      exact W.zret (v := 32) hx hb hr (by first | rfl | exact s_nar ‹_›) (fun t ht hW => ⟨congrArg (fun z => Outcome.returned (some (Value.int z))) (Option.some.inj hf), ht⟩) (fun q h => nomatch h) d_C_operandAt_24
    · replace hf := (if_neg c_4).symm.trans hf
      refine va_ldcS hx hb hown (tb_r160 hT) d_C_operandAt_13 ?_
      refine lv_iload_n hx hb d_C_operandAt_15 rfl (lv_at hl 0 rfl) ?_
      obtain ⟨r_5, g_6, hf⟩ := Option.bind_eq_some_iff.mp hf
      refine ju_calli (W.runV (As := [.int (a0)]) (rest := []) ⟨hx, hb, hml, hown, hts⟩ (c_S_charAt l (ad := ad) (sk := sk) (sv := sv) (tK := tK)  3 a0 (by decide) r_5 g_6) (cwV 1 hts (aw_V aw_175 aw_72 aw_73 aw_7 aw_74) rfl rfl rfl (by decide +kernel) ⟨Nat.le_of_ble_eq_true rfl, Nat.le_of_ble_eq_true rfl⟩) ⟨fun a U g mk q => ⟨q.1, q.2.call⟩, tb_recvS hT (by decide) hS, fun U hU hW => ⟨rfl, hT.at hS hU hW (fun _ z => z.elim)⟩⟩ rfl rfl hl.1 rfl (lv_room (Nat.le_of_ble_eq_true rfl)) d_C_operandAt_16 ⟨Nat.le_refl _, Nat.le_refl _⟩) ?_
      refine lv_goto (tgt := 24) hx hb d_C_operandAt_19 (by decide) ?_
      exact W.zret (v := r_5) hx hb hr (by first | rfl | exact s_nar ‹_›) (fun t ht hW => ⟨congrArg (fun z => Outcome.returned (some (Value.int z))) (Option.some.inj hf), ht⟩) (fun q h => nomatch h) d_C_operandAt_24

def f_C_kind (a0 : Int32) : Option Int32 :=
  (f_C_numberOf a0).bind fun r_1 => some (r_1)
set_option maxHeartbeats 4000000 in
set_option maxRecDepth 100000 in
theorem c_C_kind (l : Launch) {ad sk sv : Nat → Nat} {tK : Nat} (h0 : Nat) (a0 : Int32)  (r : Int32) (hf : f_C_kind a0 = some r) : Met l y_C_kind (Cond.code y_C_kind b_C_kind 2 (Option.some FieldType.int) :: aw) ({ frames := 9, cells := 0, slots := 0, locals := 195 } : Room) (va_Pc [.ref (h0), .int (a0)] (fun U => tb ad sk sv tK (fun _ => False) U U.heap)) (QcRead r) 0 0 (fun _ => False) := by
  refine Met.ofW (cc := b_C_kind) (maxL := 2) (ret := (Option.some FieldType.int)) (by decide) rfl ?_
  intro p e s m args below meth c s₁ B hml hv
  obtain ⟨rfl, hT⟩ := hv
  have hx := B.exec
  have hb := B.bytes
  have hr := B.returns
  have hts := atoms_spec (ws := (Cond.code y_C_kind b_C_kind 2 (Option.some FieldType.int) :: aw)) B.pre
  have ht : ∀ {w : Cond}, w ∈ aw → w.before ([.ref (h0), .int (a0)] : List Value).toArray s = true := fun h => hts _ (List.mem_cons_of_mem _ h)
  have hown : s.vm.findClass "CodeWords" = some m.cls := findClass_of_methodNamed B.named
  have hlocks := B.notSynchronized
  have hS : va_S (fun _ => False) s.heap s.heap [] := va_S.rf
  have hl := lv_entry ([.ref (h0), .int (a0)]) (n := 2) (Nat.le_of_ble_eq_true rfl)
  rw [lg_entry_eq]
  generalize (lg_sl ([.ref (h0), .int (a0)]) ++ List.replicate (2 - (lg_sl ([.ref (h0), .int (a0)])).length) Slot.unset).toArray = ls at hl ⊢
  have hl : lv_has ls 2 [(0, .ref (h0)), (1, .int (a0))] := hl
  rw [f_C_kind] at hf
  refine lv_iload_n hx hb d_C_kind_0 rfl (lv_at hl 1 rfl) ?_
  obtain ⟨r_1, g_2, hf⟩ := Option.bind_eq_some_iff.mp hf
  refine ju_calli (W.runS (As := [.int (a0)]) (rest := []) ⟨hx, hb, hml, hown, hts⟩ (c_C_numberOf l (ad := ad) (sk := sk) (sv := sv) (tK := tK)  a0  r_1 g_2) (va_cwS 1 hts (aw_S aw_35 aw_36 aw_1 aw_37) rfl rfl rfl (by decide +kernel) ⟨Nat.le_of_ble_eq_true rfl, Nat.le_of_ble_eq_true rfl⟩) ⟨fun a U g mk q => ⟨q.1, q.2.call⟩, fun U hU hW => ⟨rfl, hT.at hS hU hW (fun _ z => z.elim)⟩⟩ rfl rfl hl.1 rfl (lv_room (Nat.le_of_ble_eq_true rfl)) d_C_kind_1 ⟨Nat.le_refl _, Nat.le_refl _⟩) ?_
  exact W.iret (v := r_1) hx hb hr (fun t ht hW => ⟨congrArg (fun z => Outcome.returned (some (Value.int z))) (Option.some.inj hf), ht⟩) (fun q h => nomatch h) d_C_kind_4

def f_C_size (a0 : Int32) : Option Int32 :=
  (f_C_isLong a0).bind fun r_1 => if (bI r_1) = 0 then (some (2)) else (some (4))
set_option maxHeartbeats 4000000 in
set_option maxRecDepth 100000 in
theorem c_C_size (l : Launch) {ad sk sv : Nat → Nat} {tK : Nat} (h0 : Nat) (a0 : Int32)  (r : Int32) (hf : f_C_size a0 = some r) : Met l y_C_size (Cond.code y_C_size b_C_size 2 (Option.some FieldType.int) :: aw) ({ frames := 1, cells := 0, slots := 0, locals := 20 } : Room) (va_Pc [.ref (h0), .int (a0)] (fun U => tb ad sk sv tK (fun _ => False) U U.heap)) (QcRead r) 0 0 (fun _ => False) := by
  refine Met.ofW (cc := b_C_size) (maxL := 2) (ret := (Option.some FieldType.int)) (by decide) rfl ?_
  intro p e s m args below meth c s₁ B hml hv
  obtain ⟨rfl, hT⟩ := hv
  have hx := B.exec
  have hb := B.bytes
  have hr := B.returns
  have hts := atoms_spec (ws := (Cond.code y_C_size b_C_size 2 (Option.some FieldType.int) :: aw)) B.pre
  have ht : ∀ {w : Cond}, w ∈ aw → w.before ([.ref (h0), .int (a0)] : List Value).toArray s = true := fun h => hts _ (List.mem_cons_of_mem _ h)
  have hown : s.vm.findClass "CodeWords" = some m.cls := findClass_of_methodNamed B.named
  have hlocks := B.notSynchronized
  have hS : va_S (fun _ => False) s.heap s.heap [] := va_S.rf
  have hl := lv_entry ([.ref (h0), .int (a0)]) (n := 2) (Nat.le_of_ble_eq_true rfl)
  rw [lg_entry_eq]
  generalize (lg_sl ([.ref (h0), .int (a0)]) ++ List.replicate (2 - (lg_sl ([.ref (h0), .int (a0)])).length) Slot.unset).toArray = ls at hl ⊢
  have hl : lv_has ls 2 [(0, .ref (h0)), (1, .int (a0))] := hl
  rw [f_C_size] at hf
  refine lv_iload_n hx hb d_C_size_0 rfl (lv_at hl 1 rfl) ?_
  obtain ⟨r_1, g_2, hf⟩ := Option.bind_eq_some_iff.mp hf
  refine ju_calli (W.runS (As := [.int (a0)]) (rest := []) ⟨hx, hb, hml, hown, hts⟩ (c_C_isLong l (ad := ad) (sk := sk) (sv := sv) (tK := tK)  a0  r_1 g_2) (va_cwS 1 hts (aw_S aw_140 aw_141 aw_1 aw_142) rfl rfl rfl (by decide +kernel) ⟨Nat.le_of_ble_eq_true rfl, Nat.le_of_ble_eq_true rfl⟩) ⟨fun a U g mk q => ⟨q.1, q.2.call⟩, fun U hU hW => ⟨rfl, hT.at hS hU hW (fun _ z => z.elim)⟩⟩ rfl rfl hl.1 rfl (lv_room (Nat.le_of_ble_eq_true rfl)) d_C_size_1 ⟨Nat.le_refl _, Nat.le_refl _⟩) ?_
  refine lv_if_eq (tgt := 11) hx hb d_C_size_4 (by decide) (fun c_3 => ?_) (fun c_3 => ?_)
  · replace hf := (if_pos c_3).symm.trans hf
    refine lv_iconst (v := 2) hx hb d_C_size_11 (by decide) ?_
    exact W.iret (v := 2) hx hb hr (fun t ht hW => ⟨congrArg (fun z => Outcome.returned (some (Value.int z))) (Option.some.inj hf), ht⟩) (fun q h => nomatch h) d_C_size_12
  · replace hf := (if_neg c_3).symm.trans hf
    refine lv_iconst (v := 4) hx hb d_C_size_7 (by decide) ?_
    refine lv_goto (tgt := 12) hx hb d_C_size_8 (by decide) ?_
    exact W.iret (v := 4) hx hb hr (fun t ht hW => ⟨congrArg (fun z => Outcome.returned (some (Value.int z))) (Option.some.inj hf), ht⟩) (fun q h => nomatch h) d_C_size_12

def f_C_shorter_L104 (a0 : Int32)  (x2 : Int32) (x3 : Nat) (x4 : Int32) (x5 : Int32) (x6 : Int32) (x7 : Int32) (x8 : Int32) : Option (Int32) :=
  if x8 = ((-1)) then (if x2 = 18 then (if x7 = 0 then (if x4 = 0 then (some (x8)) else (if x5 = 0 then (some (x8)) else ((f_C_shortOf 27 x4 0 x5 0).bind fun r_24 => some (r_24)))) else (some (x8))) else (some (x8))) else (some (x8))
def f_C_shorter (a0 : Int32) : Option Int32 :=
  (f_C_numberOf a0).bind fun r_1 => if r_1 = ((-1)) then (some ((-1))) else ((f_C_isLong a0).bind fun r_4 => if (bI r_4) = 0 then (some ((-1))) else (if r_1 < 0 ∨ 75 ≤ r_1.toNatClampNeg then none else (f_K_register r_1.toNatClampNeg a0 1).bind fun r_8 => (f_K_register r_1.toNatClampNeg a0 2).bind fun r_10 => (f_K_register r_1.toNatClampNeg a0 4).bind fun r_12 => (f_K_immediate r_1.toNatClampNeg a0).bind fun r_14 => (f_C_shortOf r_1 r_8 r_10 r_12 r_14).bind fun r_16 => if r_16 = ((-1)) then ((f_C_exchanges r_1).bind fun r_26 => if (bI r_26) = 0 then (f_C_shorter_L104 a0  r_1 r_1.toNatClampNeg r_8 r_10 r_12 r_14 r_16) else (if r_8 = r_12 then ((f_C_shortOf r_1 r_8 r_12 r_10 r_14).bind fun r_30 => f_C_shorter_L104 a0  r_1 r_1.toNatClampNeg r_8 r_10 r_12 r_14 r_30) else (f_C_shorter_L104 a0  r_1 r_1.toNatClampNeg r_8 r_10 r_12 r_14 r_16))) else (f_C_shorter_L104 a0  r_1 r_1.toNatClampNeg r_8 r_10 r_12 r_14 r_16)))
set_option maxHeartbeats 4000000 in
set_option maxRecDepth 100000 in
theorem c_C_shorter (l : Launch) {ad sk sv : Nat → Nat} {tK : Nat} (h0 : Nat) (a0 : Int32)  (r : Int32) (hf : f_C_shorter a0 = some r) : Met l y_C_shorter (Cond.code y_C_shorter b_C_shorter 9 (Option.some FieldType.int) :: aw) ({ frames := 9, cells := 0, slots := 0, locals := 207 } : Room) (va_Pc [.ref (h0), .int (a0)] (fun U => tb ad sk sv tK (fun _ => False) U U.heap)) (QcRead r) 0 0 (fun _ => False) := by
  refine Met.ofW (cc := b_C_shorter) (maxL := 9) (ret := (Option.some FieldType.int)) (by decide) rfl ?_
  intro p e s m args below meth c s₁ B hml hv
  obtain ⟨rfl, hT⟩ := hv
  have hx := B.exec
  have hb := B.bytes
  have hr := B.returns
  have hts := atoms_spec (ws := (Cond.code y_C_shorter b_C_shorter 9 (Option.some FieldType.int) :: aw)) B.pre
  have ht : ∀ {w : Cond}, w ∈ aw → w.before ([.ref (h0), .int (a0)] : List Value).toArray s = true := fun h => hts _ (List.mem_cons_of_mem _ h)
  have hown : s.vm.findClass "CodeWords" = some m.cls := findClass_of_methodNamed B.named
  have hlocks := B.notSynchronized
  have hS : va_S (fun _ => False) s.heap s.heap [] := va_S.rf
  have hl := lv_entry ([.ref (h0), .int (a0)]) (n := 9) (Nat.le_of_ble_eq_true rfl)
  rw [lg_entry_eq]
  generalize (lg_sl ([.ref (h0), .int (a0)]) ++ List.replicate (9 - (lg_sl ([.ref (h0), .int (a0)])).length) Slot.unset).toArray = ls at hl ⊢
  have hl : lv_has ls 9 [(0, .ref (h0)), (1, .int (a0))] := hl
  have J104 : ∀ (x2 : Int32) (x3 : Nat) (x4 : Int32) (x5 : Int32) (x6 : Int32) (x7 : Int32) (x8 : Int32) (ls : Array Slot), lv_has ls 9 [(0, .ref (h0)), (1, .int (a0)), (2, .int (x2)), (3, .ref (ad x3)), (4, .int (x4)), (5, .int (x5)), (6, .int (x6)), (7, .int (x7)), (8, .int (x8))] → f_C_shorter_L104 a0  x2 x3 x4 x5 x6 x7 x8 = some r → pW p l e (headSpec (Cond.code y_C_shorter b_C_shorter 9 (Option.some FieldType.int) :: aw) ({ frames := 9, cells := 0, slots := 0, locals := 207 } : Room)).room s m ([.ref (h0), .int (a0)] : List Value).toArray below meth c r (F0 m 104 ls []) := by
    intro x2 x3 x4 x5 x6 x7 x8  ls  hl hf
    rw [f_C_shorter_L104] at hf
    refine lv_iload hx hb d_C_shorter_104 (lv_at hl 8 rfl) ?_
    refine lv_iconst (v := (-1)) hx hb d_C_shorter_106 (by decide) ?_
    refine lv_icmp_ne (tgt := 144) hx hb d_C_shorter_107 (by decide) (fun c_19 => ?_) (fun c_19 => ?_)
    · replace hf := (if_neg c_19).symm.trans hf
      refine lv_iload hx hb d_C_shorter_144 (lv_at hl 8 rfl) ?_
      exact W.iret (v := x8) hx hb hr (fun t ht hW => ⟨congrArg (fun z => Outcome.returned (some (Value.int z))) (Option.some.inj hf), ht⟩) (fun q h => nomatch h) d_C_shorter_146
    · replace hf := (if_pos c_19).symm.trans hf
      refine lv_iload_n hx hb d_C_shorter_110 rfl (lv_at hl 2 rfl) ?_
      refine lv_bipush (v := 18) hx hb d_C_shorter_111 (by decide) ?_
      refine lv_icmp_ne (tgt := 144) hx hb d_C_shorter_113 (by decide) (fun c_20 => ?_) (fun c_20 => ?_)
      · replace hf := (if_neg c_20).symm.trans hf
        refine lv_iload hx hb d_C_shorter_144 (lv_at hl 8 rfl) ?_
        exact W.iret (v := x8) hx hb hr (fun t ht hW => ⟨congrArg (fun z => Outcome.returned (some (Value.int z))) (Option.some.inj hf), ht⟩) (fun q h => nomatch h) d_C_shorter_146
      · replace hf := (if_pos c_20).symm.trans hf
        refine lv_iload hx hb d_C_shorter_116 (lv_at hl 7 rfl) ?_
        refine lv_if_ne (tgt := 144) hx hb d_C_shorter_118 (by decide) (fun c_21 => ?_) (fun c_21 => ?_)
        · replace hf := (if_neg c_21).symm.trans hf
          refine lv_iload hx hb d_C_shorter_144 (lv_at hl 8 rfl) ?_
          exact W.iret (v := x8) hx hb hr (fun t ht hW => ⟨congrArg (fun z => Outcome.returned (some (Value.int z))) (Option.some.inj hf), ht⟩) (fun q h => nomatch h) d_C_shorter_146
        · replace hf := (if_pos c_21).symm.trans hf
          refine lv_iload hx hb d_C_shorter_121 (lv_at hl 4 rfl) ?_
          refine lv_if_eq (tgt := 144) hx hb d_C_shorter_123 (by decide) (fun c_22 => ?_) (fun c_22 => ?_)
          · replace hf := (if_pos c_22).symm.trans hf
            refine lv_iload hx hb d_C_shorter_144 (lv_at hl 8 rfl) ?_
            exact W.iret (v := x8) hx hb hr (fun t ht hW => ⟨congrArg (fun z => Outcome.returned (some (Value.int z))) (Option.some.inj hf), ht⟩) (fun q h => nomatch h) d_C_shorter_146
          · replace hf := (if_neg c_22).symm.trans hf
            refine lv_iload hx hb d_C_shorter_126 (lv_at hl 5 rfl) ?_
            refine lv_if_eq (tgt := 144) hx hb d_C_shorter_128 (by decide) (fun c_23 => ?_) (fun c_23 => ?_)
            · replace hf := (if_pos c_23).symm.trans hf
              refine lv_iload hx hb d_C_shorter_144 (lv_at hl 8 rfl) ?_
              exact W.iret (v := x8) hx hb hr (fun t ht hW => ⟨congrArg (fun z => Outcome.returned (some (Value.int z))) (Option.some.inj hf), ht⟩) (fun q h => nomatch h) d_C_shorter_146
            · replace hf := (if_neg c_23).symm.trans hf
              refine lv_bipush (v := 27) hx hb d_C_shorter_131 (by decide) ?_
              refine lv_iload hx hb d_C_shorter_133 (lv_at hl 4 rfl) ?_
              refine lv_iconst (v := 0) hx hb d_C_shorter_135 (by decide) ?_
              refine lv_iload hx hb d_C_shorter_136 (lv_at hl 5 rfl) ?_
              refine lv_iconst (v := 0) hx hb d_C_shorter_138 (by decide) ?_
              obtain ⟨r_24, g_25, hf⟩ := Option.bind_eq_some_iff.mp hf
              refine ju_calli (W.runS (As := [.int (27), .int (x4), .int (0), .int (x5), .int (0)]) (rest := []) ⟨hx, hb, hml, hown, hts⟩ (c_C_shortOf l (ad := ad) (sk := sk) (sv := sv) (tK := tK)  27 x4 0 x5 0  r_24 g_25) (va_cwS 5 hts (aw_S aw_149 aw_150 aw_1 aw_151) rfl rfl rfl (by decide +kernel) ⟨Nat.le_of_ble_eq_true rfl, Nat.le_of_ble_eq_true rfl⟩) ⟨fun a U g mk q => ⟨q.1, q.2.call⟩, fun U hU hW => ⟨rfl, hT.at hS hU hW (fun _ z => z.elim)⟩⟩ rfl rfl hl.1 rfl (lv_room (Nat.le_of_ble_eq_true rfl)) d_C_shorter_139 ⟨Nat.le_refl _, Nat.le_refl _⟩) ?_
              refine lv_istore (lv' := [(8, .int (r_24)), (0, .ref (h0)), (1, .int (a0)), (2, .int (x2)), (3, .ref (ad x3)), (4, .int (x4)), (5, .int (x5)), (6, .int (x6)), (7, .int (x7))]) hx hb d_C_shorter_142 hl (by decide) rfl (fun ls hl => ?_)
              refine lv_iload hx hb d_C_shorter_144 (lv_at hl 0 rfl) ?_
              exact W.iret (v := r_24) hx hb hr (fun t ht hW => ⟨congrArg (fun z => Outcome.returned (some (Value.int z))) (Option.some.inj hf), ht⟩) (fun q h => nomatch h) d_C_shorter_146
  rw [f_C_shorter] at hf
  refine lv_iload_n hx hb d_C_shorter_0 rfl (lv_at hl 1 rfl) ?_
  obtain ⟨r_1, g_2, hf⟩ := Option.bind_eq_some_iff.mp hf
  refine ju_calli (W.runS (As := [.int (a0)]) (rest := []) ⟨hx, hb, hml, hown, hts⟩ (c_C_numberOf l (ad := ad) (sk := sk) (sv := sv) (tK := tK)  a0  r_1 g_2) (va_cwS 1 hts (aw_S aw_35 aw_36 aw_1 aw_37) rfl rfl rfl (by decide +kernel) ⟨Nat.le_of_ble_eq_true rfl, Nat.le_of_ble_eq_true rfl⟩) ⟨fun a U g mk q => ⟨q.1, q.2.call⟩, fun U hU hW => ⟨rfl, hT.at hS hU hW (fun _ z => z.elim)⟩⟩ rfl rfl hl.1 rfl (lv_room (Nat.le_of_ble_eq_true rfl)) d_C_shorter_1 ⟨Nat.le_refl _, Nat.le_refl _⟩) ?_
  refine lv_istore_n (lv' := [(2, .int (r_1)), (0, .ref (h0)), (1, .int (a0))]) hx hb d_C_shorter_4 rfl hl (by decide) rfl (fun ls hl => ?_)
  refine lv_iload_n hx hb d_C_shorter_5 rfl (lv_at hl 0 rfl) ?_
  refine lv_iconst (v := (-1)) hx hb d_C_shorter_6 (by decide) ?_
  refine lv_icmp_eq (tgt := 17) hx hb d_C_shorter_7 (by decide) (fun c_3 => ?_) (fun c_3 => ?_)
  · replace hf := (if_pos c_3).symm.trans hf
    refine lv_iconst (v := (-1)) hx hb d_C_shorter_17 (by decide) ?_
    exact W.iret (v := (-1)) hx hb hr (fun t ht hW => ⟨congrArg (fun z => Outcome.returned (some (Value.int z))) (Option.some.inj hf), ht⟩) (fun q h => nomatch h) d_C_shorter_18
  · replace hf := (if_neg c_3).symm.trans hf
    refine lv_iload_n hx hb d_C_shorter_10 rfl (lv_at hl 2 rfl) ?_
    obtain ⟨r_4, g_5, hf⟩ := Option.bind_eq_some_iff.mp hf
    refine ju_calli (W.runS (As := [.int (a0)]) (rest := []) ⟨hx, hb, hml, hown, hts⟩ (c_C_isLong l (ad := ad) (sk := sk) (sv := sv) (tK := tK)  a0  r_4 g_5) (va_cwS 1 hts (aw_S aw_140 aw_141 aw_1 aw_142) rfl rfl rfl (by decide +kernel) ⟨Nat.le_of_ble_eq_true rfl, Nat.le_of_ble_eq_true rfl⟩) ⟨fun a U g mk q => ⟨q.1, q.2.call⟩, fun U hU hW => ⟨rfl, hT.at hS hU hW (fun _ z => z.elim)⟩⟩ rfl rfl hl.1 rfl (lv_room (Nat.le_of_ble_eq_true rfl)) d_C_shorter_11 ⟨Nat.le_refl _, Nat.le_refl _⟩) ?_
    refine lv_if_ne (tgt := 19) hx hb d_C_shorter_14 (by decide) (fun c_6 => ?_) (fun c_6 => ?_)
    · replace hf := (if_neg c_6).symm.trans hf
      refine va_gets (v := .ref (tK)) hx hb hT.1 hS hown (ht aw_38) (fun _ h9 => h9) d_C_shorter_19 ?_
      refine lv_iload_n hx hb d_C_shorter_22 rfl (lv_at hl 0 rfl) ?_
      obtain ⟨z_7, hf⟩ := ju_gd hf
      refine vb_tq (v := .ref (ad r_1.toNatClampNeg)) hx hb hT.2.1 hS z_7 rfl d_C_shorter_23 ?_
      refine lv_astore_n (lv' := [(3, .ref (ad r_1.toNatClampNeg)), (2, .int (r_1)), (0, .ref (h0)), (1, .int (a0))]) hx hb d_C_shorter_24 rfl hl (by decide) rfl (fun ls hl => ?_)
      refine lv_aload_n hx hb d_C_shorter_25 rfl (lv_at hl 0 rfl) ?_
      refine lv_iload_n hx hb d_C_shorter_26 rfl (lv_at hl 3 rfl) ?_
      refine lv_iconst (v := 1) hx hb d_C_shorter_27 (by decide) ?_
      obtain ⟨r_8, g_9, hf⟩ := Option.bind_eq_some_iff.mp hf
      refine ju_calli (W.runV (As := [.int (a0), .int (1)]) (rest := []) ⟨hx, hb, hml, hown, hts⟩ (c_K_register l (ad := ad) (sk := sk) (sv := sv) (tK := tK)  r_1.toNatClampNeg a0 1 (ju_lt z_7) r_8 g_9) (cwV 2 hts (aw_V aw_147 aw_45 aw_46 aw_12 aw_47) rfl rfl rfl (by decide +kernel) ⟨Nat.le_of_ble_eq_true rfl, Nat.le_of_ble_eq_true rfl⟩) ⟨fun a U g mk q => ⟨q.1, q.2.call⟩, tb_recvK hT (ju_lt z_7) hS, fun U hU hW => ⟨rfl, hT.at hS hU hW (fun _ z => z.elim)⟩⟩ rfl rfl hl.1 rfl (lv_room (Nat.le_of_ble_eq_true rfl)) d_C_shorter_28 ⟨Nat.le_refl _, Nat.le_refl _⟩) ?_
      refine lv_istore (lv' := [(4, .int (r_8)), (3, .ref (ad r_1.toNatClampNeg)), (2, .int (r_1)), (0, .ref (h0)), (1, .int (a0))]) hx hb d_C_shorter_31 hl (by decide) rfl (fun ls hl => ?_)
      refine lv_aload_n hx hb d_C_shorter_33 rfl (lv_at hl 1 rfl) ?_
      refine lv_iload_n hx hb d_C_shorter_34 rfl (lv_at hl 4 rfl) ?_
      refine lv_iconst (v := 2) hx hb d_C_shorter_35 (by decide) ?_
      obtain ⟨r_10, g_11, hf⟩ := Option.bind_eq_some_iff.mp hf
      refine ju_calli (W.runV (As := [.int (a0), .int (2)]) (rest := []) ⟨hx, hb, hml, hown, hts⟩ (c_K_register l (ad := ad) (sk := sk) (sv := sv) (tK := tK)  r_1.toNatClampNeg a0 2 (ju_lt z_7) r_10 g_11) (cwV 2 hts (aw_V aw_147 aw_45 aw_46 aw_12 aw_47) rfl rfl rfl (by decide +kernel) ⟨Nat.le_of_ble_eq_true rfl, Nat.le_of_ble_eq_true rfl⟩) ⟨fun a U g mk q => ⟨q.1, q.2.call⟩, tb_recvK hT (ju_lt z_7) hS, fun U hU hW => ⟨rfl, hT.at hS hU hW (fun _ z => z.elim)⟩⟩ rfl rfl hl.1 rfl (lv_room (Nat.le_of_ble_eq_true rfl)) d_C_shorter_36 ⟨Nat.le_refl _, Nat.le_refl _⟩) ?_
      refine lv_istore (lv' := [(5, .int (r_10)), (4, .int (r_8)), (3, .ref (ad r_1.toNatClampNeg)), (2, .int (r_1)), (0, .ref (h0)), (1, .int (a0))]) hx hb d_C_shorter_39 hl (by decide) rfl (fun ls hl => ?_)
      refine lv_aload_n hx hb d_C_shorter_41 rfl (lv_at hl 2 rfl) ?_
      refine lv_iload_n hx hb d_C_shorter_42 rfl (lv_at hl 5 rfl) ?_
      refine lv_iconst (v := 4) hx hb d_C_shorter_43 (by decide) ?_
      obtain ⟨r_12, g_13, hf⟩ := Option.bind_eq_some_iff.mp hf
      refine ju_calli (W.runV (As := [.int (a0), .int (4)]) (rest := []) ⟨hx, hb, hml, hown, hts⟩ (c_K_register l (ad := ad) (sk := sk) (sv := sv) (tK := tK)  r_1.toNatClampNeg a0 4 (ju_lt z_7) r_12 g_13) (cwV 2 hts (aw_V aw_147 aw_45 aw_46 aw_12 aw_47) rfl rfl rfl (by decide +kernel) ⟨Nat.le_of_ble_eq_true rfl, Nat.le_of_ble_eq_true rfl⟩) ⟨fun a U g mk q => ⟨q.1, q.2.call⟩, tb_recvK hT (ju_lt z_7) hS, fun U hU hW => ⟨rfl, hT.at hS hU hW (fun _ z => z.elim)⟩⟩ rfl rfl hl.1 rfl (lv_room (Nat.le_of_ble_eq_true rfl)) d_C_shorter_44 ⟨Nat.le_refl _, Nat.le_refl _⟩) ?_
      refine lv_istore (lv' := [(6, .int (r_12)), (5, .int (r_10)), (4, .int (r_8)), (3, .ref (ad r_1.toNatClampNeg)), (2, .int (r_1)), (0, .ref (h0)), (1, .int (a0))]) hx hb d_C_shorter_47 hl (by decide) rfl (fun ls hl => ?_)
      refine lv_aload_n hx hb d_C_shorter_49 rfl (lv_at hl 3 rfl) ?_
      refine lv_iload_n hx hb d_C_shorter_50 rfl (lv_at hl 6 rfl) ?_
      obtain ⟨r_14, g_15, hf⟩ := Option.bind_eq_some_iff.mp hf
      refine ju_calli (W.runV (As := [.int (a0)]) (rest := []) ⟨hx, hb, hml, hown, hts⟩ (c_K_immediate l (ad := ad) (sk := sk) (sv := sv) (tK := tK)  r_1.toNatClampNeg a0 (ju_lt z_7) r_14 g_15) (cwV 1 hts (aw_V aw_148 aw_113 aw_114 aw_12 aw_115) rfl rfl rfl (by decide +kernel) ⟨Nat.le_of_ble_eq_true rfl, Nat.le_of_ble_eq_true rfl⟩) ⟨fun a U g mk q => ⟨q.1, q.2.call⟩, tb_recvK hT (ju_lt z_7) hS, fun U hU hW => ⟨rfl, hT.at hS hU hW (fun _ z => z.elim)⟩⟩ rfl rfl hl.1 rfl (lv_room (Nat.le_of_ble_eq_true rfl)) d_C_shorter_51 ⟨Nat.le_refl _, Nat.le_refl _⟩) ?_
      refine lv_istore (lv' := [(7, .int (r_14)), (6, .int (r_12)), (5, .int (r_10)), (4, .int (r_8)), (3, .ref (ad r_1.toNatClampNeg)), (2, .int (r_1)), (0, .ref (h0)), (1, .int (a0))]) hx hb d_C_shorter_54 hl (by decide) rfl (fun ls hl => ?_)
      refine lv_iload_n hx hb d_C_shorter_56 rfl (lv_at hl 5 rfl) ?_
      refine lv_iload hx hb d_C_shorter_57 (lv_at hl 3 rfl) ?_
      refine lv_iload hx hb d_C_shorter_59 (lv_at hl 2 rfl) ?_
      refine lv_iload hx hb d_C_shorter_61 (lv_at hl 1 rfl) ?_
      refine lv_iload hx hb d_C_shorter_63 (lv_at hl 0 rfl) ?_
      obtain ⟨r_16, g_17, hf⟩ := Option.bind_eq_some_iff.mp hf
      refine ju_calli (W.runS (As := [.int (r_1), .int (r_8), .int (r_10), .int (r_12), .int (r_14)]) (rest := []) ⟨hx, hb, hml, hown, hts⟩ (c_C_shortOf l (ad := ad) (sk := sk) (sv := sv) (tK := tK)  r_1 r_8 r_10 r_12 r_14  r_16 g_17) (va_cwS 5 hts (aw_S aw_149 aw_150 aw_1 aw_151) rfl rfl rfl (by decide +kernel) ⟨Nat.le_of_ble_eq_true rfl, Nat.le_of_ble_eq_true rfl⟩) ⟨fun a U g mk q => ⟨q.1, q.2.call⟩, fun U hU hW => ⟨rfl, hT.at hS hU hW (fun _ z => z.elim)⟩⟩ rfl rfl hl.1 rfl (lv_room (Nat.le_of_ble_eq_true rfl)) d_C_shorter_65 ⟨Nat.le_refl _, Nat.le_refl _⟩) ?_
      refine lv_istore (lv' := [(8, .int (r_16)), (7, .int (r_14)), (6, .int (r_12)), (5, .int (r_10)), (4, .int (r_8)), (3, .ref (ad r_1.toNatClampNeg)), (2, .int (r_1)), (0, .ref (h0)), (1, .int (a0))]) hx hb d_C_shorter_68 hl (by decide) rfl (fun ls hl => ?_)
      refine lv_iload hx hb d_C_shorter_70 (lv_at hl 0 rfl) ?_
      refine lv_iconst (v := (-1)) hx hb d_C_shorter_72 (by decide) ?_
      refine lv_icmp_ne (tgt := 104) hx hb d_C_shorter_73 (by decide) (fun c_18 => ?_) (fun c_18 => ?_)
      · replace hf := (if_neg c_18).symm.trans hf
        exact J104 r_1 r_1.toNatClampNeg r_8 r_10 r_12 r_14 r_16  _  (lv_sub hl [7, 8, 6, 5, 4, 3, 2, 1, 0] rfl) hf
      · replace hf := (if_pos c_18).symm.trans hf
        refine lv_iload_n hx hb d_C_shorter_76 rfl (lv_at hl 6 rfl) ?_
        obtain ⟨r_26, g_27, hf⟩ := Option.bind_eq_some_iff.mp hf
        refine ju_calli (W.runS (As := [.int (r_1)]) (rest := []) ⟨hx, hb, hml, hown, hts⟩ (c_C_exchanges l (ad := ad) (sk := sk) (sv := sv) (tK := tK)  r_1  r_26 g_27) (va_cwS 1 hts (aw_S aw_177 aw_178 aw_1 aw_179) rfl rfl rfl (by decide +kernel) ⟨Nat.le_of_ble_eq_true rfl, Nat.le_of_ble_eq_true rfl⟩) ⟨fun a U g mk q => ⟨q.1, q.2.call⟩, fun U hU hW => ⟨rfl, hT.at hS hU hW (fun _ z => z.elim)⟩⟩ rfl rfl hl.1 rfl (lv_room (Nat.le_of_ble_eq_true rfl)) d_C_shorter_77 ⟨Nat.le_refl _, Nat.le_refl _⟩) ?_
        refine lv_if_eq (tgt := 104) hx hb d_C_shorter_80 (by decide) (fun c_28 => ?_) (fun c_28 => ?_)
        · replace hf := (if_pos c_28).symm.trans hf
          exact J104 r_1 r_1.toNatClampNeg r_8 r_10 r_12 r_14 r_16  _  (lv_sub hl [7, 8, 6, 5, 4, 3, 2, 1, 0] rfl) hf
        · replace hf := (if_neg c_28).symm.trans hf
          refine lv_iload hx hb d_C_shorter_83 (lv_at hl 4 rfl) ?_
          refine lv_iload hx hb d_C_shorter_85 (lv_at hl 2 rfl) ?_
          refine lv_icmp_ne (tgt := 104) hx hb d_C_shorter_87 (by decide) (fun c_29 => ?_) (fun c_29 => ?_)
          · replace hf := (if_neg c_29).symm.trans hf
            exact J104 r_1 r_1.toNatClampNeg r_8 r_10 r_12 r_14 r_16  _  (lv_sub hl [7, 8, 6, 5, 4, 3, 2, 1, 0] rfl) hf
          · replace hf := (if_pos c_29).symm.trans hf
            refine lv_iload_n hx hb d_C_shorter_90 rfl (lv_at hl 6 rfl) ?_
            refine lv_iload hx hb d_C_shorter_91 (lv_at hl 4 rfl) ?_
            refine lv_iload hx hb d_C_shorter_93 (lv_at hl 2 rfl) ?_
            refine lv_iload hx hb d_C_shorter_95 (lv_at hl 3 rfl) ?_
            refine lv_iload hx hb d_C_shorter_97 (lv_at hl 1 rfl) ?_
            obtain ⟨r_30, g_31, hf⟩ := Option.bind_eq_some_iff.mp hf
            refine ju_calli (W.runS (As := [.int (r_1), .int (r_8), .int (r_12), .int (r_10), .int (r_14)]) (rest := []) ⟨hx, hb, hml, hown, hts⟩ (c_C_shortOf l (ad := ad) (sk := sk) (sv := sv) (tK := tK)  r_1 r_8 r_12 r_10 r_14  r_30 g_31) (va_cwS 5 hts (aw_S aw_149 aw_150 aw_1 aw_151) rfl rfl rfl (by decide +kernel) ⟨Nat.le_of_ble_eq_true rfl, Nat.le_of_ble_eq_true rfl⟩) ⟨fun a U g mk q => ⟨q.1, q.2.call⟩, fun U hU hW => ⟨rfl, hT.at hS hU hW (fun _ z => z.elim)⟩⟩ rfl rfl hl.1 rfl (lv_room (Nat.le_of_ble_eq_true rfl)) d_C_shorter_99 ⟨Nat.le_refl _, Nat.le_refl _⟩) ?_
            refine lv_istore (lv' := [(8, .int (r_30)), (7, .int (r_14)), (6, .int (r_12)), (5, .int (r_10)), (4, .int (r_8)), (3, .ref (ad r_1.toNatClampNeg)), (2, .int (r_1)), (0, .ref (h0)), (1, .int (a0))]) hx hb d_C_shorter_102 hl (by decide) rfl (fun ls hl => ?_)
            exact J104 r_1 r_1.toNatClampNeg r_8 r_10 r_12 r_14 r_30  _  (lv_sub hl [7, 8, 6, 5, 4, 3, 2, 1, 0] rfl) hf
    · replace hf := (if_pos c_6).symm.trans hf
      refine lv_iconst (v := (-1)) hx hb d_C_shorter_17 (by decide) ?_
      exact W.iret (v := (-1)) hx hb hr (fun t ht hW => ⟨congrArg (fun z => Outcome.returned (some (Value.int z))) (Option.some.inj hf), ht⟩) (fun q h => nomatch h) d_C_shorter_18

def f_C_may (a0 : Int32) (a1 : Int64) : Option Bool :=
  (f_C_isKind a0).bind fun r_1 => if (bI r_1) = 0 then (some false) else (if a0 < 0 ∨ 75 ≤ a0.toNatClampNeg then none else (f_K_allowsImmediate a0.toNatClampNeg a1).bind fun r_5 => if (bI r_5) = 0 then (some false) else (some true))
set_option maxHeartbeats 4000000 in
set_option maxRecDepth 100000 in
theorem c_C_may (l : Launch) {ad sk sv : Nat → Nat} {tK : Nat} (h0 : Nat) (a0 : Int32) (a1 : Int64)  (r : Bool) (hf : f_C_may a0 a1 = some r) : Met l y_C_may (Cond.code y_C_may b_C_may 4 (Option.some FieldType.boolean) :: aw) ({ frames := 2, cells := 0, slots := 0, locals := 49 } : Room) (va_Pc [.ref (h0), .int (a0), .long (a1)] (fun U => tb ad sk sv tK (fun _ => False) U U.heap)) (QcRead (bI r)) 0 0 (fun _ => False) := by
  refine Met.ofW (cc := b_C_may) (maxL := 4) (ret := (Option.some FieldType.boolean)) (by decide) rfl ?_
  intro p e s m args below meth c s₁ B hml hv
  obtain ⟨rfl, hT⟩ := hv
  have hx := B.exec
  have hb := B.bytes
  have hr := B.returns
  have hts := atoms_spec (ws := (Cond.code y_C_may b_C_may 4 (Option.some FieldType.boolean) :: aw)) B.pre
  have ht : ∀ {w : Cond}, w ∈ aw → w.before ([.ref (h0), .int (a0), .long (a1)] : List Value).toArray s = true := fun h => hts _ (List.mem_cons_of_mem _ h)
  have hown : s.vm.findClass "CodeWords" = some m.cls := findClass_of_methodNamed B.named
  have hlocks := B.notSynchronized
  have hS : va_S (fun _ => False) s.heap s.heap [] := va_S.rf
  have hl := lv_entry ([.ref (h0), .int (a0), .long (a1)]) (n := 4) (Nat.le_of_ble_eq_true rfl)
  rw [lg_entry_eq]
  generalize (lg_sl ([.ref (h0), .int (a0), .long (a1)]) ++ List.replicate (4 - (lg_sl ([.ref (h0), .int (a0), .long (a1)])).length) Slot.unset).toArray = ls at hl ⊢
  have hl : lv_has ls 4 [(0, .ref (h0)), (1, .int (a0)), (2, .long (a1))] := hl
  rw [f_C_may] at hf
  refine lv_iload_n hx hb d_C_may_0 rfl (lv_at hl 1 rfl) ?_
  obtain ⟨r_1, g_2, hf⟩ := Option.bind_eq_some_iff.mp hf
  refine ju_calli (W.runS (As := [.int (a0)]) (rest := []) ⟨hx, hb, hml, hown, hts⟩ (c_C_isKind l (ad := ad) (sk := sk) (sv := sv) (tK := tK)  a0  r_1 g_2) (va_cwS 1 hts (aw_S aw_152 aw_153 aw_1 aw_154) rfl rfl rfl (by decide +kernel) ⟨Nat.le_of_ble_eq_true rfl, Nat.le_of_ble_eq_true rfl⟩) ⟨fun a U g mk q => ⟨q.1, q.2.call⟩, fun U hU hW => ⟨rfl, hT.at hS hU hW (fun _ z => z.elim)⟩⟩ rfl rfl hl.1 rfl (lv_room (Nat.le_of_ble_eq_true rfl)) d_C_may_1 ⟨Nat.le_refl _, Nat.le_refl _⟩) ?_
  refine lv_if_eq (tgt := 23) hx hb d_C_may_4 (by decide) (fun c_3 => ?_) (fun c_3 => ?_)
  · replace hf := (if_pos c_3).symm.trans hf
    refine lv_iconst (v := 0) hx hb d_C_may_23 (by decide) ?_
    exact W.zret (v := 0) hx hb hr (ju_nz false) (fun t ht hW => ⟨congrArg (fun z => Outcome.returned (some (Value.int (bI z)))) (Option.some.inj hf), ht⟩) (fun q h => nomatch h) d_C_may_24
  · replace hf := (if_neg c_3).symm.trans hf
    refine va_gets (v := .ref (tK)) hx hb hT.1 hS hown (ht aw_38) (fun _ h9 => h9) d_C_may_7 ?_
    refine lv_iload_n hx hb d_C_may_10 rfl (lv_at hl 1 rfl) ?_
    obtain ⟨z_4, hf⟩ := ju_gd hf
    refine vb_tq (v := .ref (ad a0.toNatClampNeg)) hx hb hT.2.1 hS z_4 rfl d_C_may_11 ?_
    refine lv_lload_n hx hb d_C_may_12 rfl (lv_at hl 2 rfl) ?_
    obtain ⟨r_5, g_6, hf⟩ := Option.bind_eq_some_iff.mp hf
    refine ju_calli (W.runV (As := [.long (a1)]) (rest := []) ⟨hx, hb, hml, hown, hts⟩ (c_K_allowsImmediate l (ad := ad) (sk := sk) (sv := sv) (tK := tK)  a0.toNatClampNeg a1 (ju_lt z_4) r_5 g_6) (cwV 1 hts (aw_V aw_184 aw_130 aw_131 aw_12 aw_132) rfl rfl rfl (by decide +kernel) ⟨Nat.le_of_ble_eq_true rfl, Nat.le_of_ble_eq_true rfl⟩) ⟨fun a U g mk q => ⟨q.1, q.2.call⟩, tb_recvK hT (ju_lt z_4) hS, fun U hU hW => ⟨rfl, hT.at hS hU hW (fun _ z => z.elim)⟩⟩ rfl rfl hl.1 rfl (lv_room (Nat.le_of_ble_eq_true rfl)) d_C_may_13 ⟨Nat.le_refl _, Nat.le_refl _⟩) ?_
    refine lv_if_eq (tgt := 23) hx hb d_C_may_16 (by decide) (fun c_7 => ?_) (fun c_7 => ?_)
    · replace hf := (if_pos c_7).symm.trans hf
      refine lv_iconst (v := 0) hx hb d_C_may_23 (by decide) ?_
      exact W.zret (v := 0) hx hb hr (ju_nz false) (fun t ht hW => ⟨congrArg (fun z => Outcome.returned (some (Value.int (bI z)))) (Option.some.inj hf), ht⟩) (fun q h => nomatch h) d_C_may_24
    · replace hf := (if_neg c_7).symm.trans hf
      refine lv_iconst (v := 1) hx hb d_C_may_19 (by decide) ?_
      refine lv_goto (tgt := 24) hx hb d_C_may_20 (by decide) ?_
      exact W.zret (v := 1) hx hb hr (ju_nz true) (fun t ht hW => ⟨congrArg (fun z => Outcome.returned (some (Value.int (bI z)))) (Option.some.inj hf), ht⟩) (fun q h => nomatch h) d_C_may_24

def f_C_named_L3 (a0 : Int64) (a1 : Int64)  : Nat → Int32 → Option (Int32)
  | 0, _ => none
  | n + 1, x5 =>
    if 75 ≤ x5 then (some ((-1))) else (if x5 < 0 ∨ 75 ≤ x5.toNatClampNeg then none else (f_C_spells (k_title x5.toNatClampNeg) a0 a1).bind fun r_3 => if (bI r_3) = 0 then (f_C_named_L3 a0 a1  n (x5 + 1)) else (some (x5)))
def f_C_named (a0 : Int64) (a1 : Int64) : Option Int32 :=
  f_C_named_L3 a0 a1  80 0
set_option maxHeartbeats 4000000 in
set_option maxRecDepth 100000 in
theorem c_C_named (l : Launch) {ad sk sv : Nat → Nat} {tK : Nat} (h0 : Nat) (a0 : Int64) (a1 : Int64)  (r : Int32) (hf : f_C_named a0 a1 = some r) : Met l y_C_named (Cond.code y_C_named b_C_named 6 (Option.some FieldType.int) :: aw) ({ frames := 5, cells := 0, slots := 0, locals := 114 } : Room) (va_Pc [.ref (h0), .long (a0), .long (a1)] (fun U => tb ad sk sv tK (fun _ => False) U U.heap)) (QcRead r) 0 0 (fun _ => False) := by
  refine Met.ofW (cc := b_C_named) (maxL := 6) (ret := (Option.some FieldType.int)) (by decide) rfl ?_
  intro p e s m args below meth c s₁ B hml hv
  obtain ⟨rfl, hT⟩ := hv
  have hx := B.exec
  have hb := B.bytes
  have hr := B.returns
  have hts := atoms_spec (ws := (Cond.code y_C_named b_C_named 6 (Option.some FieldType.int) :: aw)) B.pre
  have ht : ∀ {w : Cond}, w ∈ aw → w.before ([.ref (h0), .long (a0), .long (a1)] : List Value).toArray s = true := fun h => hts _ (List.mem_cons_of_mem _ h)
  have hown : s.vm.findClass "CodeWords" = some m.cls := findClass_of_methodNamed B.named
  have hlocks := B.notSynchronized
  have hS : va_S (fun _ => False) s.heap s.heap [] := va_S.rf
  have hl := lv_entry ([.ref (h0), .long (a0), .long (a1)]) (n := 6) (Nat.le_of_ble_eq_true rfl)
  rw [lg_entry_eq]
  generalize (lg_sl ([.ref (h0), .long (a0), .long (a1)]) ++ List.replicate (6 - (lg_sl ([.ref (h0), .long (a0), .long (a1)])).length) Slot.unset).toArray = ls at hl ⊢
  have hl : lv_has ls 6 [(0, .ref (h0)), (1, .long (a0)), (3, .long (a1))] := hl
  have J3 : ∀ (n : Nat) (x5 : Int32) (ls : Array Slot), lv_has ls 6 [(0, .ref (h0)), (1, .long (a0)), (3, .long (a1)), (5, .int (x5))] → f_C_named_L3 a0 a1  n x5 = some r → pW p l e (headSpec (Cond.code y_C_named b_C_named 6 (Option.some FieldType.int) :: aw) ({ frames := 5, cells := 0, slots := 0, locals := 114 } : Room)).room s m ([.ref (h0), .long (a0), .long (a1)] : List Value).toArray below meth c r (F0 m 3 ls []) := by
    intro n
    induction n with
    | zero =>
      intro x5  ls  hl hf
      rw [f_C_named_L3] at hf
      cases hf
    | succ n ih =>
      intro x5  ls  hl hf
      rw [f_C_named_L3] at hf
      refine lv_iload hx hb d_C_named_3 (lv_at hl 3 rfl) ?_
      refine va_gets (v := .ref (tK)) hx hb hT.1 hS hown (ht aw_38) (fun _ h9 => h9) d_C_named_5 ?_
      refine va_tlen (v := 75) hx hb hT.2.1 hS rfl d_C_named_8 ?_
      refine lv_icmp_ge (tgt := 38) hx hb d_C_named_9 (by decide) (fun c_1 => ?_) (fun c_1 => ?_)
      · replace hf := (if_pos c_1).symm.trans hf
        refine lv_iconst (v := (-1)) hx hb d_C_named_38 (by decide) ?_
        exact W.iret (v := (-1)) hx hb hr (fun t ht hW => ⟨congrArg (fun z => Outcome.returned (some (Value.int z))) (Option.some.inj hf), ht⟩) (fun q h => nomatch h) d_C_named_39
      · replace hf := (if_neg c_1).symm.trans hf
        refine va_gets (v := .ref (tK)) hx hb hT.1 hS hown (ht aw_38) (fun _ h9 => h9) d_C_named_12 ?_
        refine lv_iload hx hb d_C_named_15 (lv_at hl 3 rfl) ?_
        obtain ⟨z_2, hf⟩ := ju_gd hf
        refine vb_tq (v := .ref (ad x5.toNatClampNeg)) hx hb hT.2.1 hS z_2 rfl d_C_named_17 ?_
        refine vk_getf (v := .ref (sk (k_title x5.toNatClampNeg))) hx hb (tb_title hT (ju_lt z_2)) hS hown (ht aw_776) (fun _ h9 => h9) d_C_named_18 ?_
        refine lv_lload_n hx hb d_C_named_21 rfl (lv_at hl 1 rfl) ?_
        refine lv_lload_n hx hb d_C_named_22 rfl (lv_at hl 2 rfl) ?_
        obtain ⟨r_3, g_4, hf⟩ := Option.bind_eq_some_iff.mp hf
        refine ju_calli (W.runS (As := [.ref (sk (k_title x5.toNatClampNeg)), .long (a0), .long (a1)]) (rest := []) ⟨hx, hb, hml, hown, hts⟩ (c_C_spells l (ad := ad) (sk := sk) (sv := sv) (tK := tK)  (k_title x5.toNatClampNeg) a0 a1 (k_title_lt (ju_lt z_2)) r_3 g_4) (va_cwS 3 hts (aw_S aw_245 aw_246 aw_1 aw_247) rfl rfl rfl (by decide +kernel) ⟨Nat.le_of_ble_eq_true rfl, Nat.le_of_ble_eq_true rfl⟩) ⟨fun a U g mk q => ⟨q.1, q.2.call⟩, fun U hU hW => ⟨rfl, hT.at hS hU hW (fun _ z => z.elim)⟩⟩ rfl rfl hl.1 rfl (lv_room (Nat.le_of_ble_eq_true rfl)) d_C_named_23 ⟨Nat.le_refl _, Nat.le_refl _⟩) ?_
        refine lv_if_eq (tgt := 32) hx hb d_C_named_26 (by decide) (fun c_5 => ?_) (fun c_5 => ?_)
        · replace hf := (if_pos c_5).symm.trans hf
          refine lv_iinc (v := x5 + 1) (lv' := [(5, .int (x5 + 1)), (0, .ref (h0)), (1, .long (a0)), (3, .long (a1))]) hx hb d_C_named_32 hl (k := 3) rfl rfl (by decide) rfl (fun ls hl => ?_)
          refine lv_goto (tgt := 3) hx hb d_C_named_35 (by decide) ?_
          exact ih (x5 + 1)  _  (lv_sub hl [1, 2, 3, 0] rfl) hf
        · replace hf := (if_neg c_5).symm.trans hf
          refine lv_iload hx hb d_C_named_29 (lv_at hl 3 rfl) ?_
          exact W.iret (v := x5) hx hb hr (fun t ht hW => ⟨congrArg (fun z => Outcome.returned (some (Value.int z))) (Option.some.inj hf), ht⟩) (fun q h => nomatch h) d_C_named_31
  rw [f_C_named] at hf
  refine lv_iconst (v := 0) hx hb d_C_named_0 (by decide) ?_
  refine lv_istore (lv' := [(5, .int (0)), (0, .ref (h0)), (1, .long (a0)), (3, .long (a1))]) hx hb d_C_named_1 hl (by decide) rfl (fun ls hl => ?_)
  exact J3 80 0  _  (lv_sub hl [1, 2, 3, 0] rfl) hf

def f_C_about (a0 : Int32) (a1 : Int32) : Option Int32 :=
  (f_C_isKind a0).bind fun r_1 => if (bI r_1) = 0 then (some ((-1))) else (if a1 = 0 then (if a0 < 0 ∨ 75 ≤ a0.toNatClampNeg then none else some (k_pattern a0.toNatClampNeg)) else ( if a1 = 1 then (if a0 < 0 ∨ 75 ≤ a0.toNatClampNeg then none else some (k_parts a0.toNatClampNeg)) else ( if a1 = 2 then (if a0 < 0 ∨ 75 ≤ a0.toNatClampNeg then none else (f_S_length (k_layout a0.toNatClampNeg)).bind fun r_10 => some (r_10 / 8)) else ( if a1 = 3 then (if a0 < 0 ∨ 75 ≤ a0.toNatClampNeg then none else (f_S_length (k_title a0.toNatClampNeg)).bind fun r_14 => some (r_14)) else (some ((-1)))))))
set_option maxHeartbeats 4000000 in
set_option maxRecDepth 100000 in
theorem c_C_about (l : Launch) {ad sk sv : Nat → Nat} {tK : Nat} (h0 : Nat) (a0 : Int32) (a1 : Int32)  (r : Int32) (hf : f_C_about a0 a1 = some r) : Met l y_C_about (Cond.code y_C_about b_C_about 3 (Option.some FieldType.int) :: aw) ({ frames := 2, cells := 0, slots := 0, locals := 40 } : Room) (va_Pc [.ref (h0), .int (a0), .int (a1)] (fun U => tb ad sk sv tK (fun _ => False) U U.heap)) (QcRead r) 0 0 (fun _ => False) := by
  refine Met.ofW (cc := b_C_about) (maxL := 3) (ret := (Option.some FieldType.int)) (by decide) rfl ?_
  intro p e s m args below meth c s₁ B hml hv
  obtain ⟨rfl, hT⟩ := hv
  have hx := B.exec
  have hb := B.bytes
  have hr := B.returns
  have hts := atoms_spec (ws := (Cond.code y_C_about b_C_about 3 (Option.some FieldType.int) :: aw)) B.pre
  have ht : ∀ {w : Cond}, w ∈ aw → w.before ([.ref (h0), .int (a0), .int (a1)] : List Value).toArray s = true := fun h => hts _ (List.mem_cons_of_mem _ h)
  have hown : s.vm.findClass "CodeWords" = some m.cls := findClass_of_methodNamed B.named
  have hlocks := B.notSynchronized
  have hS : va_S (fun _ => False) s.heap s.heap [] := va_S.rf
  have hl := lv_entry ([.ref (h0), .int (a0), .int (a1)]) (n := 3) (Nat.le_of_ble_eq_true rfl)
  rw [lg_entry_eq]
  generalize (lg_sl ([.ref (h0), .int (a0), .int (a1)]) ++ List.replicate (3 - (lg_sl ([.ref (h0), .int (a0), .int (a1)])).length) Slot.unset).toArray = ls at hl ⊢
  have hl : lv_has ls 3 [(0, .ref (h0)), (1, .int (a0)), (2, .int (a1))] := hl
  rw [f_C_about] at hf
  refine lv_iload_n hx hb d_C_about_0 rfl (lv_at hl 1 rfl) ?_
  obtain ⟨r_1, g_2, hf⟩ := Option.bind_eq_some_iff.mp hf
  refine ju_calli (W.runS (As := [.int (a0)]) (rest := []) ⟨hx, hb, hml, hown, hts⟩ (c_C_isKind l (ad := ad) (sk := sk) (sv := sv) (tK := tK)  a0  r_1 g_2) (va_cwS 1 hts (aw_S aw_152 aw_153 aw_1 aw_154) rfl rfl rfl (by decide +kernel) ⟨Nat.le_of_ble_eq_true rfl, Nat.le_of_ble_eq_true rfl⟩) ⟨fun a U g mk q => ⟨q.1, q.2.call⟩, fun U hU hW => ⟨rfl, hT.at hS hU hW (fun _ z => z.elim)⟩⟩ rfl rfl hl.1 rfl (lv_room (Nat.le_of_ble_eq_true rfl)) d_C_about_1 ⟨Nat.le_refl _, Nat.le_refl _⟩) ?_
  refine lv_if_ne (tgt := 9) hx hb d_C_about_4 (by decide) (fun c_3 => ?_) (fun c_3 => ?_)
  · replace hf := (if_neg c_3).symm.trans hf
    refine lv_iload_n hx hb d_C_about_9 rfl (lv_at hl 2 rfl) ?_
    by_cases c_4 : a1 = 0
    · replace hf := (if_pos c_4).symm.trans hf
      refine lv_tableIn (tgt := 40) hx hb d_C_about_10 (by rw [c_4]; decide) (by rw [c_4]; decide) (by rw [c_4] <;> rfl) (by decide) ?_
      refine va_gets (v := .ref (tK)) hx hb hT.1 hS hown (ht aw_38) (fun _ h9 => h9) d_C_about_40 ?_
      refine lv_iload_n hx hb d_C_about_43 rfl (lv_at hl 1 rfl) ?_
      obtain ⟨z_5, hf⟩ := ju_gd hf
      refine vb_tq (v := .ref (ad a0.toNatClampNeg)) hx hb hT.2.1 hS z_5 rfl d_C_about_44 ?_
      refine vk_getf (v := .int (k_pattern a0.toNatClampNeg)) hx hb (tb_pattern hT (ju_lt z_5)) hS hown (ht aw_777) (fun _ h9 => h9) d_C_about_45 ?_
      exact W.iret (v := k_pattern a0.toNatClampNeg) hx hb hr (fun t ht hW => ⟨congrArg (fun z => Outcome.returned (some (Value.int z))) (Option.some.inj hf), ht⟩) (fun q h => nomatch h) d_C_about_48
    · replace hf := (if_neg c_4).symm.trans hf
      by_cases c_6 : a1 = 1
      · replace hf := (if_pos c_6).symm.trans hf
        refine lv_tableIn (tgt := 49) hx hb d_C_about_10 (by rw [c_6]; decide) (by rw [c_6]; decide) (by rw [c_6] <;> rfl) (by decide) ?_
        refine va_gets (v := .ref (tK)) hx hb hT.1 hS hown (ht aw_38) (fun _ h9 => h9) d_C_about_49 ?_
        refine lv_iload_n hx hb d_C_about_52 rfl (lv_at hl 1 rfl) ?_
        obtain ⟨z_7, hf⟩ := ju_gd hf
        refine vb_tq (v := .ref (ad a0.toNatClampNeg)) hx hb hT.2.1 hS z_7 rfl d_C_about_53 ?_
        refine vk_getf (v := .int (k_parts a0.toNatClampNeg)) hx hb (tb_parts hT (ju_lt z_7)) hS hown (ht aw_778) (fun _ h9 => h9) d_C_about_54 ?_
        exact W.iret (v := k_parts a0.toNatClampNeg) hx hb hr (fun t ht hW => ⟨congrArg (fun z => Outcome.returned (some (Value.int z))) (Option.some.inj hf), ht⟩) (fun q h => nomatch h) d_C_about_57
      · replace hf := (if_neg c_6).symm.trans hf
        by_cases c_8 : a1 = 2
        · replace hf := (if_pos c_8).symm.trans hf
          refine lv_tableIn (tgt := 58) hx hb d_C_about_10 (by rw [c_8]; decide) (by rw [c_8]; decide) (by rw [c_8] <;> rfl) (by decide) ?_
          refine va_gets (v := .ref (tK)) hx hb hT.1 hS hown (ht aw_38) (fun _ h9 => h9) d_C_about_58 ?_
          refine lv_iload_n hx hb d_C_about_61 rfl (lv_at hl 1 rfl) ?_
          obtain ⟨z_9, hf⟩ := ju_gd hf
          refine vb_tq (v := .ref (ad a0.toNatClampNeg)) hx hb hT.2.1 hS z_9 rfl d_C_about_62 ?_
          refine vk_getf (v := .ref (sk (k_layout a0.toNatClampNeg))) hx hb (tb_layout hT (ju_lt z_9)) hS hown (ht aw_779) (fun _ h9 => h9) d_C_about_63 ?_
          obtain ⟨r_10, g_11, hf⟩ := Option.bind_eq_some_iff.mp hf
          refine ju_calli (W.runV (As := []) (rest := []) ⟨hx, hb, hml, hown, hts⟩ (c_S_length l (ad := ad) (sk := sk) (sv := sv) (tK := tK)  (k_layout a0.toNatClampNeg) (k_layout_lt (ju_lt z_9)) r_10 g_11) (cwV 0 hts (aw_V aw_174 aw_62 aw_63 aw_7 aw_64) rfl rfl rfl (by decide +kernel) ⟨Nat.le_of_ble_eq_true rfl, Nat.le_of_ble_eq_true rfl⟩) ⟨fun a U g mk q => ⟨q.1, q.2.call⟩, tb_recvS hT (k_layout_lt (ju_lt z_9)) hS, fun U hU hW => ⟨rfl, hT.at hS hU hW (fun _ z => z.elim)⟩⟩ rfl rfl hl.1 rfl (lv_room (Nat.le_of_ble_eq_true rfl)) d_C_about_66 ⟨Nat.le_refl _, Nat.le_refl _⟩) ?_
          refine lv_bipush (v := 8) hx hb d_C_about_69 (by decide) ?_
          refine lv_idiv hx hb d_C_about_71 (by decide) ?_
          exact W.iret (v := r_10 / 8) hx hb hr (fun t ht hW => ⟨congrArg (fun z => Outcome.returned (some (Value.int z))) (Option.some.inj hf), ht⟩) (fun q h => nomatch h) d_C_about_72
        · replace hf := (if_neg c_8).symm.trans hf
          by_cases c_12 : a1 = 3
          · replace hf := (if_pos c_12).symm.trans hf
            refine lv_tableIn (tgt := 73) hx hb d_C_about_10 (by rw [c_12]; decide) (by rw [c_12]; decide) (by rw [c_12] <;> rfl) (by decide) ?_
            refine va_gets (v := .ref (tK)) hx hb hT.1 hS hown (ht aw_38) (fun _ h9 => h9) d_C_about_73 ?_
            refine lv_iload_n hx hb d_C_about_76 rfl (lv_at hl 1 rfl) ?_
            obtain ⟨z_13, hf⟩ := ju_gd hf
            refine vb_tq (v := .ref (ad a0.toNatClampNeg)) hx hb hT.2.1 hS z_13 rfl d_C_about_77 ?_
            refine vk_getf (v := .ref (sk (k_title a0.toNatClampNeg))) hx hb (tb_title hT (ju_lt z_13)) hS hown (ht aw_776) (fun _ h9 => h9) d_C_about_78 ?_
            obtain ⟨r_14, g_15, hf⟩ := Option.bind_eq_some_iff.mp hf
            refine ju_calli (W.runV (As := []) (rest := []) ⟨hx, hb, hml, hown, hts⟩ (c_S_length l (ad := ad) (sk := sk) (sv := sv) (tK := tK)  (k_title a0.toNatClampNeg) (k_title_lt (ju_lt z_13)) r_14 g_15) (cwV 0 hts (aw_V aw_174 aw_62 aw_63 aw_7 aw_64) rfl rfl rfl (by decide +kernel) ⟨Nat.le_of_ble_eq_true rfl, Nat.le_of_ble_eq_true rfl⟩) ⟨fun a U g mk q => ⟨q.1, q.2.call⟩, tb_recvS hT (k_title_lt (ju_lt z_13)) hS, fun U hU hW => ⟨rfl, hT.at hS hU hW (fun _ z => z.elim)⟩⟩ rfl rfl hl.1 rfl (lv_room (Nat.le_of_ble_eq_true rfl)) d_C_about_81 ⟨Nat.le_refl _, Nat.le_refl _⟩) ?_
            exact W.iret (v := r_14) hx hb hr (fun t ht hW => ⟨congrArg (fun z => Outcome.returned (some (Value.int z))) (Option.some.inj hf), ht⟩) (fun q h => nomatch h) d_C_about_84
          · replace hf := (if_neg c_12).symm.trans hf
            refine lv_tableOut (tgt := 85) hx hb d_C_about_10 (by have q0 := lv_neT c_4 (k := 0) (a := 0) rfl; have q1 := lv_neT c_6 (k := 1) (a := 1) rfl; have q2 := lv_neT c_8 (k := 2) (a := 2) rfl; have q3 := lv_neT c_12 (k := 3) (a := 3) rfl; omega) (by decide) ?_
            refine lv_iconst (v := (-1)) hx hb d_C_about_85 (by decide) ?_
            exact W.iret (v := (-1)) hx hb hr (fun t ht hW => ⟨congrArg (fun z => Outcome.returned (some (Value.int z))) (Option.some.inj hf), ht⟩) (fun q h => nomatch h) d_C_about_86
  · replace hf := (if_pos c_3).symm.trans hf
    refine lv_iconst (v := (-1)) hx hb d_C_about_7 (by decide) ?_
    exact W.iret (v := (-1)) hx hb hr (fun t ht hW => ⟨congrArg (fun z => Outcome.returned (some (Value.int z))) (Option.some.inj hf), ht⟩) (fun q h => nomatch h) d_C_about_8

