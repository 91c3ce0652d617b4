def f_M_opcodeOf (a0 : Int32) : Option Int32 :=
  if a0 = 0 then (some (55)) else (if a0 = 1 then (some (23)) else (if a0 = 2 then (some (111)) else (if a0 = 3 then (some (103)) else (if 10 ≤ a0 then (if 15 ≤ a0 then (if 18 ≤ a0 then (if 27 ≤ a0 then (some (51)) else (some (19))) else (some (35))) else (some (3))) else (some (99))))))
set_option maxHeartbeats 4000000 in
set_option maxRecDepth 100000 in
theorem c_M_opcodeOf (l : Launch) {ad sk sv : Nat → Nat} {tK : Nat} (a0 : Int32)  (r : Int32) (hf : f_M_opcodeOf a0 = some r) : Met l y_M_opcodeOf (Cond.code y_M_opcodeOf b_M_opcodeOf 1 (Option.some FieldType.int) :: aw) ({ frames := 0, cells := 0, slots := 0, locals := 0 } : Room) (va_Pc [.int (a0)] (fun U => tb ad sk sv tK (fun _ => False) U U.heap)) (QcRead r) 0 0 (fun _ => False) := by
  refine Met.ofW (cc := b_M_opcodeOf) (maxL := 1) (ret := (Option.some FieldType.int)) (by decide) rfl ?_
  intro p e s m args below meth c s₁ B hml hv
  obtain ⟨rfl, hT⟩ := hv
  have hx := B.exec
  have hb := B.bytes
  have hr := B.returns
  have hts := atoms_spec (ws := (Cond.code y_M_opcodeOf b_M_opcodeOf 1 (Option.some FieldType.int) :: aw)) B.pre
  have ht : ∀ {w : Cond}, w ∈ aw → w.before ([.int (a0)] : List Value).toArray s = true := fun h => hts _ (List.mem_cons_of_mem _ h)
  have hown : s.vm.findClass "CodeWordsModel" = some m.cls := findClass_of_methodNamed B.named
  have hlocks := B.notSynchronized
  have hS : va_S (fun _ => False) s.heap s.heap [] := va_S.rf
  have hl := lv_entry ([.int (a0)]) (n := 1) (Nat.le_of_ble_eq_true rfl)
  rw [lg_entry_eq]
  generalize (lg_sl ([.int (a0)]) ++ List.replicate (1 - (lg_sl ([.int (a0)])).length) Slot.unset).toArray = ls at hl ⊢
  have hl : lv_has ls 1 [(0, .int (a0))] := hl
  rw [f_M_opcodeOf] at hf
  refine lv_iload_n hx hb d_M_opcodeOf_0 rfl (lv_at hl 0 rfl) ?_
  refine lv_if_ne (tgt := 7) hx hb d_M_opcodeOf_1 (by decide) (fun c_1 => ?_) (fun c_1 => ?_)
  · replace hf := (if_neg c_1).symm.trans hf
    refine lv_iload_n hx hb d_M_opcodeOf_7 rfl (lv_at hl 0 rfl) ?_
    refine lv_iconst (v := 1) hx hb d_M_opcodeOf_8 (by decide) ?_
    refine lv_icmp_ne (tgt := 15) hx hb d_M_opcodeOf_9 (by decide) (fun c_2 => ?_) (fun c_2 => ?_)
    · replace hf := (if_neg c_2).symm.trans hf
      refine lv_iload_n hx hb d_M_opcodeOf_15 rfl (lv_at hl 0 rfl) ?_
      refine lv_iconst (v := 2) hx hb d_M_opcodeOf_16 (by decide) ?_
      refine lv_icmp_ne (tgt := 23) hx hb d_M_opcodeOf_17 (by decide) (fun c_3 => ?_) (fun c_3 => ?_)
      · replace hf := (if_neg c_3).symm.trans hf
        refine lv_iload_n hx hb d_M_opcodeOf_23 rfl (lv_at hl 0 rfl) ?_
        refine lv_iconst (v := 3) hx hb d_M_opcodeOf_24 (by decide) ?_
        refine lv_icmp_ne (tgt := 31) hx hb d_M_opcodeOf_25 (by decide) (fun c_4 => ?_) (fun c_4 => ?_)
        · replace hf := (if_neg c_4).symm.trans hf
          refine lv_iload_n hx hb d_M_opcodeOf_31 rfl (lv_at hl 0 rfl) ?_
          refine lv_bipush (v := 10) hx hb d_M_opcodeOf_32 (by decide) ?_
          refine lv_icmp_ge (tgt := 40) hx hb d_M_opcodeOf_34 (by decide) (fun c_5 => ?_) (fun c_5 => ?_)
          · replace hf := (if_pos c_5).symm.trans hf
            refine lv_iload_n hx hb d_M_opcodeOf_40 rfl (lv_at hl 0 rfl) ?_
            refine lv_bipush (v := 15) hx hb d_M_opcodeOf_41 (by decide) ?_
            refine lv_icmp_ge (tgt := 48) hx hb d_M_opcodeOf_43 (by decide) (fun c_6 => ?_) (fun c_6 => ?_)
            · replace hf := (if_pos c_6).symm.trans hf
              refine lv_iload_n hx hb d_M_opcodeOf_48 rfl (lv_at hl 0 rfl) ?_
              refine lv_bipush (v := 18) hx hb d_M_opcodeOf_49 (by decide) ?_
              refine lv_icmp_ge (tgt := 57) hx hb d_M_opcodeOf_51 (by decide) (fun c_7 => ?_) (fun c_7 => ?_)
              · replace hf := (if_pos c_7).symm.trans hf
                refine lv_iload_n hx hb d_M_opcodeOf_57 rfl (lv_at hl 0 rfl) ?_
                refine lv_bipush (v := 27) hx hb d_M_opcodeOf_58 (by decide) ?_
                refine lv_icmp_ge (tgt := 68) hx hb d_M_opcodeOf_60 (by decide) (fun c_8 => ?_) (fun c_8 => ?_)
                · replace hf := (if_pos c_8).symm.trans hf
                  refine lv_bipush (v := 51) hx hb d_M_opcodeOf_68 (by decide) ?_
                  exact W.iret (v := 51) hx hb hr (fun t ht hW => ⟨congrArg (fun z => Outcome.returned (some (Value.int z))) (Option.some.inj hf), ht⟩) (fun q h => nomatch h) d_M_opcodeOf_70
                · replace hf := (if_neg c_8).symm.trans hf
                  refine lv_bipush (v := 19) hx hb d_M_opcodeOf_63 (by decide) ?_
                  refine lv_goto (tgt := 70) hx hb d_M_opcodeOf_65 (by decide) ?_
                  exact W.iret (v := 19) hx hb hr (fun t ht hW => ⟨congrArg (fun z => Outcome.returned (some (Value.int z))) (Option.some.inj hf), ht⟩) (fun q h => nomatch h) d_M_opcodeOf_70
              · replace hf := (if_neg c_7).symm.trans hf
                refine lv_bipush (v := 35) hx hb d_M_opcodeOf_54 (by decide) ?_
                exact W.iret (v := 35) hx hb hr (fun t ht hW => ⟨congrArg (fun z => Outcome.returned (some (Value.int z))) (Option.some.inj hf), ht⟩) (fun q h => nomatch h) d_M_opcodeOf_56
            · replace hf := (if_neg c_6).symm.trans hf
              refine lv_iconst (v := 3) hx hb d_M_opcodeOf_46 (by decide) ?_
              exact W.iret (v := 3) hx hb hr (fun t ht hW => ⟨congrArg (fun z => Outcome.returned (some (Value.int z))) (Option.some.inj hf), ht⟩) (fun q h => nomatch h) d_M_opcodeOf_47
          · replace hf := (if_neg c_5).symm.trans hf
            refine lv_bipush (v := 99) hx hb d_M_opcodeOf_37 (by decide) ?_
            exact W.iret (v := 99) hx hb hr (fun t ht hW => ⟨congrArg (fun z => Outcome.returned (some (Value.int z))) (Option.some.inj hf), ht⟩) (fun q h => nomatch h) d_M_opcodeOf_39
        · replace hf := (if_pos c_4).symm.trans hf
          refine lv_bipush (v := 103) hx hb d_M_opcodeOf_28 (by decide) ?_
          exact W.iret (v := 103) hx hb hr (fun t ht hW => ⟨congrArg (fun z => Outcome.returned (some (Value.int z))) (Option.some.inj hf), ht⟩) (fun q h => nomatch h) d_M_opcodeOf_30
      · replace hf := (if_pos c_3).symm.trans hf
        refine lv_bipush (v := 111) hx hb d_M_opcodeOf_20 (by decide) ?_
        exact W.iret (v := 111) hx hb hr (fun t ht hW => ⟨congrArg (fun z => Outcome.returned (some (Value.int z))) (Option.some.inj hf), ht⟩) (fun q h => nomatch h) d_M_opcodeOf_22
    · replace hf := (if_pos c_2).symm.trans hf
      refine lv_bipush (v := 23) hx hb d_M_opcodeOf_12 (by decide) ?_
      exact W.iret (v := 23) hx hb hr (fun t ht hW => ⟨congrArg (fun z => Outcome.returned (some (Value.int z))) (Option.some.inj hf), ht⟩) (fun q h => nomatch h) d_M_opcodeOf_14
  · replace hf := (if_pos c_1).symm.trans hf
    refine lv_bipush (v := 55) hx hb d_M_opcodeOf_4 (by decide) ?_
    exact W.iret (v := 55) hx hb hr (fun t ht hW => ⟨congrArg (fun z => Outcome.returned (some (Value.int z))) (Option.some.inj hf), ht⟩) (fun q h => nomatch h) d_M_opcodeOf_6

def f_M_thirdOf (a0 : Int32) : Option Int32 :=
  if a0 = 5 then (some (1)) else ( if a0 = 6 then (some (4)) else ( if a0 = 7 then (some (5)) else ( if a0 = 8 then (some (6)) else ( if a0 = 9 then (some (7)) else ( if a0 = 10 then (some (0)) else ( if a0 = 11 then (some (1)) else ( if a0 = 12 then (some (2)) else ( if a0 = 13 then (some (4)) else ( if a0 = 14 then (some (5)) else ( if a0 = 15 then (some (0)) else ( if a0 = 16 then (some (1)) else ( if a0 = 17 then (some (2)) else ( if a0 = 18 then (some (0)) else ( if a0 = 19 then (some (2)) else ( if a0 = 20 then (some (3)) else ( if a0 = 21 then (some (4)) else ( if a0 = 22 then (some (6)) else ( if a0 = 23 then (some (7)) else ( if a0 = 24 then (some (1)) else ( if a0 = 25 then (some (5)) else ( if a0 = 26 then (some (5)) else ( if a0 = 27 then (some (0)) else ( if a0 = 28 then (some (0)) else ( if a0 = 29 then (some (1)) else ( if a0 = 30 then (some (2)) else ( if a0 = 31 then (some (3)) else ( if a0 = 32 then (some (4)) else ( if a0 = 33 then (some (5)) else ( if a0 = 34 then (some (5)) else ( if a0 = 35 then (some (6)) else ( if a0 = 36 then (some (7)) else ( if a0 = 37 then (some (0)) else ( if a0 = 38 then (some (1)) else ( if a0 = 39 then (some (2)) else ( if a0 = 40 then (some (3)) else ( if a0 = 41 then (some (4)) else ( if a0 = 42 then (some (5)) else ( if a0 = 43 then (some (6)) else ( if a0 = 44 then (some (7)) else (some (0)))))))))))))))))))))))))))))))))))))))))
set_option maxHeartbeats 4000000 in
set_option maxRecDepth 100000 in
theorem c_M_thirdOf (l : Launch) {ad sk sv : Nat → Nat} {tK : Nat} (a0 : Int32)  (r : Int32) (hf : f_M_thirdOf a0 = some r) : Met l y_M_thirdOf (Cond.code y_M_thirdOf b_M_thirdOf 1 (Option.some FieldType.int) :: aw) ({ frames := 0, cells := 0, slots := 0, locals := 0 } : Room) (va_Pc [.int (a0)] (fun U => tb ad sk sv tK (fun _ => False) U U.heap)) (QcRead r) 0 0 (fun _ => False) := by
  refine Met.ofW (cc := b_M_thirdOf) (maxL := 1) (ret := (Option.some FieldType.int)) (by decide) rfl ?_
  intro p e s m args below meth c s₁ B hml hv
  obtain ⟨rfl, hT⟩ := hv
  have hx := B.exec
  have hb := B.bytes
  have hr := B.returns
  have hts := atoms_spec (ws := (Cond.code y_M_thirdOf b_M_thirdOf 1 (Option.some FieldType.int) :: aw)) B.pre
  have ht : ∀ {w : Cond}, w ∈ aw → w.before ([.int (a0)] : List Value).toArray s = true := fun h => hts _ (List.mem_cons_of_mem _ h)
  have hown : s.vm.findClass "CodeWordsModel" = some m.cls := findClass_of_methodNamed B.named
  have hlocks := B.notSynchronized
  have hS : va_S (fun _ => False) s.heap s.heap [] := va_S.rf
  have hl := lv_entry ([.int (a0)]) (n := 1) (Nat.le_of_ble_eq_true rfl)
  rw [lg_entry_eq]
  generalize (lg_sl ([.int (a0)]) ++ List.replicate (1 - (lg_sl ([.int (a0)])).length) Slot.unset).toArray = ls at hl ⊢
  have hl : lv_has ls 1 [(0, .int (a0))] := hl
  rw [f_M_thirdOf] at hf
  refine lv_iload_n hx hb d_M_thirdOf_0 rfl (lv_at hl 0 rfl) ?_
  by_cases c_1 : a0 = 5
  · replace hf := (if_pos c_1).symm.trans hf
    refine lv_tableIn (tgt := 176) hx hb d_M_thirdOf_1 (by rw [c_1]; decide) (by rw [c_1]; decide) (by rw [c_1] <;> rfl) (by decide) ?_
    refine lv_iconst (v := 1) hx hb d_M_thirdOf_176 (by decide) ?_
    exact W.iret (v := 1) hx hb hr (fun t ht hW => ⟨congrArg (fun z => Outcome.returned (some (Value.int z))) (Option.some.inj hf), ht⟩) (fun q h => nomatch h) d_M_thirdOf_177
  · replace hf := (if_neg c_1).symm.trans hf
    by_cases c_2 : a0 = 6
    · replace hf := (if_pos c_2).symm.trans hf
      refine lv_tableIn (tgt := 182) hx hb d_M_thirdOf_1 (by rw [c_2]; decide) (by rw [c_2]; decide) (by rw [c_2] <;> rfl) (by decide) ?_
      refine lv_iconst (v := 4) hx hb d_M_thirdOf_182 (by decide) ?_
      exact W.iret (v := 4) hx hb hr (fun t ht hW => ⟨congrArg (fun z => Outcome.returned (some (Value.int z))) (Option.some.inj hf), ht⟩) (fun q h => nomatch h) d_M_thirdOf_183
    · replace hf := (if_neg c_2).symm.trans hf
      by_cases c_3 : a0 = 7
      · replace hf := (if_pos c_3).symm.trans hf
        refine lv_tableIn (tgt := 184) hx hb d_M_thirdOf_1 (by rw [c_3]; decide) (by rw [c_3]; decide) (by rw [c_3] <;> rfl) (by decide) ?_
        refine lv_iconst (v := 5) hx hb d_M_thirdOf_184 (by decide) ?_
        exact W.iret (v := 5) hx hb hr (fun t ht hW => ⟨congrArg (fun z => Outcome.returned (some (Value.int z))) (Option.some.inj hf), ht⟩) (fun q h => nomatch h) d_M_thirdOf_185
      · replace hf := (if_neg c_3).symm.trans hf
        by_cases c_4 : a0 = 8
        · replace hf := (if_pos c_4).symm.trans hf
          refine lv_tableIn (tgt := 186) hx hb d_M_thirdOf_1 (by rw [c_4]; decide) (by rw [c_4]; decide) (by rw [c_4] <;> rfl) (by decide) ?_
          refine lv_bipush (v := 6) hx hb d_M_thirdOf_186 (by decide) ?_
          exact W.iret (v := 6) hx hb hr (fun t ht hW => ⟨congrArg (fun z => Outcome.returned (some (Value.int z))) (Option.some.inj hf), ht⟩) (fun q h => nomatch h) d_M_thirdOf_188
        · replace hf := (if_neg c_4).symm.trans hf
          by_cases c_5 : a0 = 9
          · replace hf := (if_pos c_5).symm.trans hf
            refine lv_tableIn (tgt := 189) hx hb d_M_thirdOf_1 (by rw [c_5]; decide) (by rw [c_5]; decide) (by rw [c_5] <;> rfl) (by decide) ?_
            refine lv_bipush (v := 7) hx hb d_M_thirdOf_189 (by decide) ?_
            exact W.iret (v := 7) hx hb hr (fun t ht hW => ⟨congrArg (fun z => Outcome.returned (some (Value.int z))) (Option.some.inj hf), ht⟩) (fun q h => nomatch h) d_M_thirdOf_191
          · replace hf := (if_neg c_5).symm.trans hf
            by_cases c_6 : a0 = 10
            · replace hf := (if_pos c_6).symm.trans hf
              refine lv_tableIn (tgt := 192) hx hb d_M_thirdOf_1 (by rw [c_6]; decide) (by rw [c_6]; decide) (by rw [c_6] <;> rfl) (by decide) ?_
              refine lv_iconst (v := 0) hx hb d_M_thirdOf_192 (by decide) ?_
              exact W.iret (v := 0) hx hb hr (fun t ht hW => ⟨congrArg (fun z => Outcome.returned (some (Value.int z))) (Option.some.inj hf), ht⟩) (fun q h => nomatch h) d_M_thirdOf_193
            · replace hf := (if_neg c_6).symm.trans hf
              by_cases c_7 : a0 = 11
              · replace hf := (if_pos c_7).symm.trans hf
                refine lv_tableIn (tgt := 176) hx hb d_M_thirdOf_1 (by rw [c_7]; decide) (by rw [c_7]; decide) (by rw [c_7] <;> rfl) (by decide) ?_
                refine lv_iconst (v := 1) hx hb d_M_thirdOf_176 (by decide) ?_
                exact W.iret (v := 1) hx hb hr (fun t ht hW => ⟨congrArg (fun z => Outcome.returned (some (Value.int z))) (Option.some.inj hf), ht⟩) (fun q h => nomatch h) d_M_thirdOf_177
              · replace hf := (if_neg c_7).symm.trans hf
                by_cases c_8 : a0 = 12
                · replace hf := (if_pos c_8).symm.trans hf
                  refine lv_tableIn (tgt := 178) hx hb d_M_thirdOf_1 (by rw [c_8]; decide) (by rw [c_8]; decide) (by rw [c_8] <;> rfl) (by decide) ?_
                  refine lv_iconst (v := 2) hx hb d_M_thirdOf_178 (by decide) ?_
                  exact W.iret (v := 2) hx hb hr (fun t ht hW => ⟨congrArg (fun z => Outcome.returned (some (Value.int z))) (Option.some.inj hf), ht⟩) (fun q h => nomatch h) d_M_thirdOf_179
                · replace hf := (if_neg c_8).symm.trans hf
                  by_cases c_9 : a0 = 13
                  · replace hf := (if_pos c_9).symm.trans hf
                    refine lv_tableIn (tgt := 182) hx hb d_M_thirdOf_1 (by rw [c_9]; decide) (by rw [c_9]; decide) (by rw [c_9] <;> rfl) (by decide) ?_
                    refine lv_iconst (v := 4) hx hb d_M_thirdOf_182 (by decide) ?_
                    exact W.iret (v := 4) hx hb hr (fun t ht hW => ⟨congrArg (fun z => Outcome.returned (some (Value.int z))) (Option.some.inj hf), ht⟩) (fun q h => nomatch h) d_M_thirdOf_183
                  · replace hf := (if_neg c_9).symm.trans hf
                    by_cases c_10 : a0 = 14
                    · replace hf := (if_pos c_10).symm.trans hf
                      refine lv_tableIn (tgt := 184) hx hb d_M_thirdOf_1 (by rw [c_10]; decide) (by rw [c_10]; decide) (by rw [c_10] <;> rfl) (by decide) ?_
                      refine lv_iconst (v := 5) hx hb d_M_thirdOf_184 (by decide) ?_
                      exact W.iret (v := 5) hx hb hr (fun t ht hW => ⟨congrArg (fun z => Outcome.returned (some (Value.int z))) (Option.some.inj hf), ht⟩) (fun q h => nomatch h) d_M_thirdOf_185
                    · replace hf := (if_neg c_10).symm.trans hf
                      by_cases c_11 : a0 = 15
                      · replace hf := (if_pos c_11).symm.trans hf
                        refine lv_tableIn (tgt := 192) hx hb d_M_thirdOf_1 (by rw [c_11]; decide) (by rw [c_11]; decide) (by rw [c_11] <;> rfl) (by decide) ?_
                        refine lv_iconst (v := 0) hx hb d_M_thirdOf_192 (by decide) ?_
                        exact W.iret (v := 0) hx hb hr (fun t ht hW => ⟨congrArg (fun z => Outcome.returned (some (Value.int z))) (Option.some.inj hf), ht⟩) (fun q h => nomatch h) d_M_thirdOf_193
                      · replace hf := (if_neg c_11).symm.trans hf
                        by_cases c_12 : a0 = 16
                        · replace hf := (if_pos c_12).symm.trans hf
                          refine lv_tableIn (tgt := 176) hx hb d_M_thirdOf_1 (by rw [c_12]; decide) (by rw [c_12]; decide) (by rw [c_12] <;> rfl) (by decide) ?_
                          refine lv_iconst (v := 1) hx hb d_M_thirdOf_176 (by decide) ?_
                          exact W.iret (v := 1) hx hb hr (fun t ht hW => ⟨congrArg (fun z => Outcome.returned (some (Value.int z))) (Option.some.inj hf), ht⟩) (fun q h => nomatch h) d_M_thirdOf_177
                        · replace hf := (if_neg c_12).symm.trans hf
                          by_cases c_13 : a0 = 17
                          · replace hf := (if_pos c_13).symm.trans hf
                            refine lv_tableIn (tgt := 178) hx hb d_M_thirdOf_1 (by rw [c_13]; decide) (by rw [c_13]; decide) (by rw [c_13] <;> rfl) (by decide) ?_
                            refine lv_iconst (v := 2) hx hb d_M_thirdOf_178 (by decide) ?_
                            exact W.iret (v := 2) hx hb hr (fun t ht hW => ⟨congrArg (fun z => Outcome.returned (some (Value.int z))) (Option.some.inj hf), ht⟩) (fun q h => nomatch h) d_M_thirdOf_179
                          · replace hf := (if_neg c_13).symm.trans hf
                            by_cases c_14 : a0 = 18
                            · replace hf := (if_pos c_14).symm.trans hf
                              refine lv_tableIn (tgt := 192) hx hb d_M_thirdOf_1 (by rw [c_14]; decide) (by rw [c_14]; decide) (by rw [c_14] <;> rfl) (by decide) ?_
                              refine lv_iconst (v := 0) hx hb d_M_thirdOf_192 (by decide) ?_
                              exact W.iret (v := 0) hx hb hr (fun t ht hW => ⟨congrArg (fun z => Outcome.returned (some (Value.int z))) (Option.some.inj hf), ht⟩) (fun q h => nomatch h) d_M_thirdOf_193
                            · replace hf := (if_neg c_14).symm.trans hf
                              by_cases c_15 : a0 = 19
                              · replace hf := (if_pos c_15).symm.trans hf
                                refine lv_tableIn (tgt := 178) hx hb d_M_thirdOf_1 (by rw [c_15]; decide) (by rw [c_15]; decide) (by rw [c_15] <;> rfl) (by decide) ?_
                                refine lv_iconst (v := 2) hx hb d_M_thirdOf_178 (by decide) ?_
                                exact W.iret (v := 2) hx hb hr (fun t ht hW => ⟨congrArg (fun z => Outcome.returned (some (Value.int z))) (Option.some.inj hf), ht⟩) (fun q h => nomatch h) d_M_thirdOf_179
                              · replace hf := (if_neg c_15).symm.trans hf
                                by_cases c_16 : a0 = 20
                                · replace hf := (if_pos c_16).symm.trans hf
                                  refine lv_tableIn (tgt := 180) hx hb d_M_thirdOf_1 (by rw [c_16]; decide) (by rw [c_16]; decide) (by rw [c_16] <;> rfl) (by decide) ?_
                                  refine lv_iconst (v := 3) hx hb d_M_thirdOf_180 (by decide) ?_
                                  exact W.iret (v := 3) hx hb hr (fun t ht hW => ⟨congrArg (fun z => Outcome.returned (some (Value.int z))) (Option.some.inj hf), ht⟩) (fun q h => nomatch h) d_M_thirdOf_181
                                · replace hf := (if_neg c_16).symm.trans hf
                                  by_cases c_17 : a0 = 21
                                  · replace hf := (if_pos c_17).symm.trans hf
                                    refine lv_tableIn (tgt := 182) hx hb d_M_thirdOf_1 (by rw [c_17]; decide) (by rw [c_17]; decide) (by rw [c_17] <;> rfl) (by decide) ?_
                                    refine lv_iconst (v := 4) hx hb d_M_thirdOf_182 (by decide) ?_
                                    exact W.iret (v := 4) hx hb hr (fun t ht hW => ⟨congrArg (fun z => Outcome.returned (some (Value.int z))) (Option.some.inj hf), ht⟩) (fun q h => nomatch h) d_M_thirdOf_183
                                  · replace hf := (if_neg c_17).symm.trans hf
                                    by_cases c_18 : a0 = 22
                                    · replace hf := (if_pos c_18).symm.trans hf
                                      refine lv_tableIn (tgt := 186) hx hb d_M_thirdOf_1 (by rw [c_18]; decide) (by rw [c_18]; decide) (by rw [c_18] <;> rfl) (by decide) ?_
                                      refine lv_bipush (v := 6) hx hb d_M_thirdOf_186 (by decide) ?_
                                      exact W.iret (v := 6) hx hb hr (fun t ht hW => ⟨congrArg (fun z => Outcome.returned (some (Value.int z))) (Option.some.inj hf), ht⟩) (fun q h => nomatch h) d_M_thirdOf_188
                                    · replace hf := (if_neg c_18).symm.trans hf
                                      by_cases c_19 : a0 = 23
                                      · replace hf := (if_pos c_19).symm.trans hf
                                        refine lv_tableIn (tgt := 189) hx hb d_M_thirdOf_1 (by rw [c_19]; decide) (by rw [c_19]; decide) (by rw [c_19] <;> rfl) (by decide) ?_
                                        refine lv_bipush (v := 7) hx hb d_M_thirdOf_189 (by decide) ?_
                                        exact W.iret (v := 7) hx hb hr (fun t ht hW => ⟨congrArg (fun z => Outcome.returned (some (Value.int z))) (Option.some.inj hf), ht⟩) (fun q h => nomatch h) d_M_thirdOf_191
                                      · replace hf := (if_neg c_19).symm.trans hf
                                        by_cases c_20 : a0 = 24
                                        · replace hf := (if_pos c_20).symm.trans hf
                                          refine lv_tableIn (tgt := 176) hx hb d_M_thirdOf_1 (by rw [c_20]; decide) (by rw [c_20]; decide) (by rw [c_20] <;> rfl) (by decide) ?_
                                          refine lv_iconst (v := 1) hx hb d_M_thirdOf_176 (by decide) ?_
                                          exact W.iret (v := 1) hx hb hr (fun t ht hW => ⟨congrArg (fun z => Outcome.returned (some (Value.int z))) (Option.some.inj hf), ht⟩) (fun q h => nomatch h) d_M_thirdOf_177
                                        · replace hf := (if_neg c_20).symm.trans hf
                                          by_cases c_21 : a0 = 25
                                          · replace hf := (if_pos c_21).symm.trans hf
                                            refine lv_tableIn (tgt := 184) hx hb d_M_thirdOf_1 (by rw [c_21]; decide) (by rw [c_21]; decide) (by rw [c_21] <;> rfl) (by decide) ?_
                                            refine lv_iconst (v := 5) hx hb d_M_thirdOf_184 (by decide) ?_
                                            exact W.iret (v := 5) hx hb hr (fun t ht hW => ⟨congrArg (fun z => Outcome.returned (some (Value.int z))) (Option.some.inj hf), ht⟩) (fun q h => nomatch h) d_M_thirdOf_185
                                          · replace hf := (if_neg c_21).symm.trans hf
                                            by_cases c_22 : a0 = 26
                                            · replace hf := (if_pos c_22).symm.trans hf
                                              refine lv_tableIn (tgt := 184) hx hb d_M_thirdOf_1 (by rw [c_22]; decide) (by rw [c_22]; decide) (by rw [c_22] <;> rfl) (by decide) ?_
                                              refine lv_iconst (v := 5) hx hb d_M_thirdOf_184 (by decide) ?_
                                              exact W.iret (v := 5) hx hb hr (fun t ht hW => ⟨congrArg (fun z => Outcome.returned (some (Value.int z))) (Option.some.inj hf), ht⟩) (fun q h => nomatch h) d_M_thirdOf_185
                                            · replace hf := (if_neg c_22).symm.trans hf
                                              by_cases c_23 : a0 = 27
                                              · replace hf := (if_pos c_23).symm.trans hf
                                                refine lv_tableIn (tgt := 192) hx hb d_M_thirdOf_1 (by rw [c_23]; decide) (by rw [c_23]; decide) (by rw [c_23] <;> rfl) (by decide) ?_
                                                refine lv_iconst (v := 0) hx hb d_M_thirdOf_192 (by decide) ?_
                                                exact W.iret (v := 0) hx hb hr (fun t ht hW => ⟨congrArg (fun z => Outcome.returned (some (Value.int z))) (Option.some.inj hf), ht⟩) (fun q h => nomatch h) d_M_thirdOf_193
                                              · replace hf := (if_neg c_23).symm.trans hf
                                                by_cases c_24 : a0 = 28
                                                · replace hf := (if_pos c_24).symm.trans hf
                                                  refine lv_tableIn (tgt := 192) hx hb d_M_thirdOf_1 (by rw [c_24]; decide) (by rw [c_24]; decide) (by rw [c_24] <;> rfl) (by decide) ?_
                                                  refine lv_iconst (v := 0) hx hb d_M_thirdOf_192 (by decide) ?_
                                                  exact W.iret (v := 0) hx hb hr (fun t ht hW => ⟨congrArg (fun z => Outcome.returned (some (Value.int z))) (Option.some.inj hf), ht⟩) (fun q h => nomatch h) d_M_thirdOf_193
                                                · replace hf := (if_neg c_24).symm.trans hf
                                                  by_cases c_25 : a0 = 29
                                                  · replace hf := (if_pos c_25).symm.trans hf
                                                    refine lv_tableIn (tgt := 176) hx hb d_M_thirdOf_1 (by rw [c_25]; decide) (by rw [c_25]; decide) (by rw [c_25] <;> rfl) (by decide) ?_
                                                    refine lv_iconst (v := 1) hx hb d_M_thirdOf_176 (by decide) ?_
                                                    exact W.iret (v := 1) hx hb hr (fun t ht hW => ⟨congrArg (fun z => Outcome.returned (some (Value.int z))) (Option.some.inj hf), ht⟩) (fun q h => nomatch h) d_M_thirdOf_177
                                                  · replace hf := (if_neg c_25).symm.trans hf
                                                    by_cases c_26 : a0 = 30
                                                    · replace hf := (if_pos c_26).symm.trans hf
                                                      refine lv_tableIn (tgt := 178) hx hb d_M_thirdOf_1 (by rw [c_26]; decide) (by rw [c_26]; decide) (by rw [c_26] <;> rfl) (by decide) ?_
                                                      refine lv_iconst (v := 2) hx hb d_M_thirdOf_178 (by decide) ?_
                                                      exact W.iret (v := 2) hx hb hr (fun t ht hW => ⟨congrArg (fun z => Outcome.returned (some (Value.int z))) (Option.some.inj hf), ht⟩) (fun q h => nomatch h) d_M_thirdOf_179
                                                    · replace hf := (if_neg c_26).symm.trans hf
                                                      by_cases c_27 : a0 = 31
                                                      · replace hf := (if_pos c_27).symm.trans hf
                                                        refine lv_tableIn (tgt := 180) hx hb d_M_thirdOf_1 (by rw [c_27]; decide) (by rw [c_27]; decide) (by rw [c_27] <;> rfl) (by decide) ?_
                                                        refine lv_iconst (v := 3) hx hb d_M_thirdOf_180 (by decide) ?_
                                                        exact W.iret (v := 3) hx hb hr (fun t ht hW => ⟨congrArg (fun z => Outcome.returned (some (Value.int z))) (Option.some.inj hf), ht⟩) (fun q h => nomatch h) d_M_thirdOf_181
                                                      · replace hf := (if_neg c_27).symm.trans hf
                                                        by_cases c_28 : a0 = 32
                                                        · replace hf := (if_pos c_28).symm.trans hf
                                                          refine lv_tableIn (tgt := 182) hx hb d_M_thirdOf_1 (by rw [c_28]; decide) (by rw [c_28]; decide) (by rw [c_28] <;> rfl) (by decide) ?_
                                                          refine lv_iconst (v := 4) hx hb d_M_thirdOf_182 (by decide) ?_
                                                          exact W.iret (v := 4) hx hb hr (fun t ht hW => ⟨congrArg (fun z => Outcome.returned (some (Value.int z))) (Option.some.inj hf), ht⟩) (fun q h => nomatch h) d_M_thirdOf_183
                                                        · replace hf := (if_neg c_28).symm.trans hf
                                                          by_cases c_29 : a0 = 33
                                                          · replace hf := (if_pos c_29).symm.trans hf
                                                            refine lv_tableIn (tgt := 184) hx hb d_M_thirdOf_1 (by rw [c_29]; decide) (by rw [c_29]; decide) (by rw [c_29] <;> rfl) (by decide) ?_
                                                            refine lv_iconst (v := 5) hx hb d_M_thirdOf_184 (by decide) ?_
                                                            exact W.iret (v := 5) hx hb hr (fun t ht hW => ⟨congrArg (fun z => Outcome.returned (some (Value.int z))) (Option.some.inj hf), ht⟩) (fun q h => nomatch h) d_M_thirdOf_185
                                                          · replace hf := (if_neg c_29).symm.trans hf
                                                            by_cases c_30 : a0 = 34
                                                            · replace hf := (if_pos c_30).symm.trans hf
                                                              refine lv_tableIn (tgt := 184) hx hb d_M_thirdOf_1 (by rw [c_30]; decide) (by rw [c_30]; decide) (by rw [c_30] <;> rfl) (by decide) ?_
                                                              refine lv_iconst (v := 5) hx hb d_M_thirdOf_184 (by decide) ?_
                                                              exact W.iret (v := 5) hx hb hr (fun t ht hW => ⟨congrArg (fun z => Outcome.returned (some (Value.int z))) (Option.some.inj hf), ht⟩) (fun q h => nomatch h) d_M_thirdOf_185
                                                            · replace hf := (if_neg c_30).symm.trans hf
                                                              by_cases c_31 : a0 = 35
                                                              · replace hf := (if_pos c_31).symm.trans hf
                                                                refine lv_tableIn (tgt := 186) hx hb d_M_thirdOf_1 (by rw [c_31]; decide) (by rw [c_31]; decide) (by rw [c_31] <;> rfl) (by decide) ?_
                                                                refine lv_bipush (v := 6) hx hb d_M_thirdOf_186 (by decide) ?_
                                                                exact W.iret (v := 6) hx hb hr (fun t ht hW => ⟨congrArg (fun z => Outcome.returned (some (Value.int z))) (Option.some.inj hf), ht⟩) (fun q h => nomatch h) d_M_thirdOf_188
                                                              · replace hf := (if_neg c_31).symm.trans hf
                                                                by_cases c_32 : a0 = 36
                                                                · replace hf := (if_pos c_32).symm.trans hf
                                                                  refine lv_tableIn (tgt := 189) hx hb d_M_thirdOf_1 (by rw [c_32]; decide) (by rw [c_32]; decide) (by rw [c_32] <;> rfl) (by decide) ?_
                                                                  refine lv_bipush (v := 7) hx hb d_M_thirdOf_189 (by decide) ?_
                                                                  exact W.iret (v := 7) hx hb hr (fun t ht hW => ⟨congrArg (fun z => Outcome.returned (some (Value.int z))) (Option.some.inj hf), ht⟩) (fun q h => nomatch h) d_M_thirdOf_191
                                                                · replace hf := (if_neg c_32).symm.trans hf
                                                                  by_cases c_33 : a0 = 37
                                                                  · replace hf := (if_pos c_33).symm.trans hf
                                                                    refine lv_tableIn (tgt := 192) hx hb d_M_thirdOf_1 (by rw [c_33]; decide) (by rw [c_33]; decide) (by rw [c_33] <;> rfl) (by decide) ?_
                                                                    refine lv_iconst (v := 0) hx hb d_M_thirdOf_192 (by decide) ?_
                                                                    exact W.iret (v := 0) hx hb hr (fun t ht hW => ⟨congrArg (fun z => Outcome.returned (some (Value.int z))) (Option.some.inj hf), ht⟩) (fun q h => nomatch h) d_M_thirdOf_193
                                                                  · replace hf := (if_neg c_33).symm.trans hf
                                                                    by_cases c_34 : a0 = 38
                                                                    · replace hf := (if_pos c_34).symm.trans hf
                                                                      refine lv_tableIn (tgt := 176) hx hb d_M_thirdOf_1 (by rw [c_34]; decide) (by rw [c_34]; decide) (by rw [c_34] <;> rfl) (by decide) ?_
                                                                      refine lv_iconst (v := 1) hx hb d_M_thirdOf_176 (by decide) ?_
                                                                      exact W.iret (v := 1) hx hb hr (fun t ht hW => ⟨congrArg (fun z => Outcome.returned (some (Value.int z))) (Option.some.inj hf), ht⟩) (fun q h => nomatch h) d_M_thirdOf_177
                                                                    · replace hf := (if_neg c_34).symm.trans hf
                                                                      by_cases c_35 : a0 = 39
                                                                      · replace hf := (if_pos c_35).symm.trans hf
                                                                        refine lv_tableIn (tgt := 178) hx hb d_M_thirdOf_1 (by rw [c_35]; decide) (by rw [c_35]; decide) (by rw [c_35] <;> rfl) (by decide) ?_
                                                                        refine lv_iconst (v := 2) hx hb d_M_thirdOf_178 (by decide) ?_
                                                                        exact W.iret (v := 2) hx hb hr (fun t ht hW => ⟨congrArg (fun z => Outcome.returned (some (Value.int z))) (Option.some.inj hf), ht⟩) (fun q h => nomatch h) d_M_thirdOf_179
                                                                      · replace hf := (if_neg c_35).symm.trans hf
                                                                        by_cases c_36 : a0 = 40
                                                                        · replace hf := (if_pos c_36).symm.trans hf
                                                                          refine lv_tableIn (tgt := 180) hx hb d_M_thirdOf_1 (by rw [c_36]; decide) (by rw [c_36]; decide) (by rw [c_36] <;> rfl) (by decide) ?_
                                                                          refine lv_iconst (v := 3) hx hb d_M_thirdOf_180 (by decide) ?_
                                                                          exact W.iret (v := 3) hx hb hr (fun t ht hW => ⟨congrArg (fun z => Outcome.returned (some (Value.int z))) (Option.some.inj hf), ht⟩) (fun q h => nomatch h) d_M_thirdOf_181
                                                                        · replace hf := (if_neg c_36).symm.trans hf
                                                                          by_cases c_37 : a0 = 41
                                                                          · replace hf := (if_pos c_37).symm.trans hf
                                                                            refine lv_tableIn (tgt := 182) hx hb d_M_thirdOf_1 (by rw [c_37]; decide) (by rw [c_37]; decide) (by rw [c_37] <;> rfl) (by decide) ?_
                                                                            refine lv_iconst (v := 4) hx hb d_M_thirdOf_182 (by decide) ?_
                                                                            exact W.iret (v := 4) hx hb hr (fun t ht hW => ⟨congrArg (fun z => Outcome.returned (some (Value.int z))) (Option.some.inj hf), ht⟩) (fun q h => nomatch h) d_M_thirdOf_183
                                                                          · replace hf := (if_neg c_37).symm.trans hf
                                                                            by_cases c_38 : a0 = 42
                                                                            · replace hf := (if_pos c_38).symm.trans hf
                                                                              refine lv_tableIn (tgt := 184) hx hb d_M_thirdOf_1 (by rw [c_38]; decide) (by rw [c_38]; decide) (by rw [c_38] <;> rfl) (by decide) ?_
                                                                              refine lv_iconst (v := 5) hx hb d_M_thirdOf_184 (by decide) ?_
                                                                              exact W.iret (v := 5) hx hb hr (fun t ht hW => ⟨congrArg (fun z => Outcome.returned (some (Value.int z))) (Option.some.inj hf), ht⟩) (fun q h => nomatch h) d_M_thirdOf_185
                                                                            · replace hf := (if_neg c_38).symm.trans hf
                                                                              by_cases c_39 : a0 = 43
                                                                              · replace hf := (if_pos c_39).symm.trans hf
                                                                                refine lv_tableIn (tgt := 186) hx hb d_M_thirdOf_1 (by rw [c_39]; decide) (by rw [c_39]; decide) (by rw [c_39] <;> rfl) (by decide) ?_
                                                                                refine lv_bipush (v := 6) hx hb d_M_thirdOf_186 (by decide) ?_
                                                                                exact W.iret (v := 6) hx hb hr (fun t ht hW => ⟨congrArg (fun z => Outcome.returned (some (Value.int z))) (Option.some.inj hf), ht⟩) (fun q h => nomatch h) d_M_thirdOf_188
                                                                              · replace hf := (if_neg c_39).symm.trans hf
                                                                                by_cases c_40 : a0 = 44
                                                                                · replace hf := (if_pos c_40).symm.trans hf
                                                                                  refine lv_tableIn (tgt := 189) hx hb d_M_thirdOf_1 (by rw [c_40]; decide) (by rw [c_40]; decide) (by rw [c_40] <;> rfl) (by decide) ?_
                                                                                  refine lv_bipush (v := 7) hx hb d_M_thirdOf_189 (by decide) ?_
                                                                                  exact W.iret (v := 7) hx hb hr (fun t ht hW => ⟨congrArg (fun z => Outcome.returned (some (Value.int z))) (Option.some.inj hf), ht⟩) (fun q h => nomatch h) d_M_thirdOf_191
                                                                                · replace hf := (if_neg c_40).symm.trans hf
                                                                                  refine lv_tableOut (tgt := 192) hx hb d_M_thirdOf_1 (by have q0 := lv_neT c_1 (k := 5) (a := 5) rfl; have q1 := lv_neT c_2 (k := 6) (a := 6) rfl; have q2 := lv_neT c_3 (k := 7) (a := 7) rfl; have q3 := lv_neT c_4 (k := 8) (a := 8) rfl; have q4 := lv_neT c_5 (k := 9) (a := 9) rfl; have q5 := lv_neT c_6 (k := 10) (a := 10) rfl; have q6 := lv_neT c_7 (k := 11) (a := 11) rfl; have q7 := lv_neT c_8 (k := 12) (a := 12) rfl; have q8 := lv_neT c_9 (k := 13) (a := 13) rfl; have q9 := lv_neT c_10 (k := 14) (a := 14) rfl; have q10 := lv_neT c_11 (k := 15) (a := 15) rfl; have q11 := lv_neT c_12 (k := 16) (a := 16) rfl; have q12 := lv_neT c_13 (k := 17) (a := 17) rfl; have q13 := lv_neT c_14 (k := 18) (a := 18) rfl; have q14 := lv_neT c_15 (k := 19) (a := 19) rfl; have q15 := lv_neT c_16 (k := 20) (a := 20) rfl; have q16 := lv_neT c_17 (k := 21) (a := 21) rfl; have q17 := lv_neT c_18 (k := 22) (a := 22) rfl; have q18 := lv_neT c_19 (k := 23) (a := 23) rfl; have q19 := lv_neT c_20 (k := 24) (a := 24) rfl; have q20 := lv_neT c_21 (k := 25) (a := 25) rfl; have q21 := lv_neT c_22 (k := 26) (a := 26) rfl; have q22 := lv_neT c_23 (k := 27) (a := 27) rfl; have q23 := lv_neT c_24 (k := 28) (a := 28) rfl; have q24 := lv_neT c_25 (k := 29) (a := 29) rfl; have q25 := lv_neT c_26 (k := 30) (a := 30) rfl; have q26 := lv_neT c_27 (k := 31) (a := 31) rfl; have q27 := lv_neT c_28 (k := 32) (a := 32) rfl; have q28 := lv_neT c_29 (k := 33) (a := 33) rfl; have q29 := lv_neT c_30 (k := 34) (a := 34) rfl; have q30 := lv_neT c_31 (k := 35) (a := 35) rfl; have q31 := lv_neT c_32 (k := 36) (a := 36) rfl; have q32 := lv_neT c_33 (k := 37) (a := 37) rfl; have q33 := lv_neT c_34 (k := 38) (a := 38) rfl; have q34 := lv_neT c_35 (k := 39) (a := 39) rfl; have q35 := lv_neT c_36 (k := 40) (a := 40) rfl; have q36 := lv_neT c_37 (k := 41) (a := 41) rfl; have q37 := lv_neT c_38 (k := 42) (a := 42) rfl; have q38 := lv_neT c_39 (k := 43) (a := 43) rfl; have q39 := lv_neT c_40 (k := 44) (a := 44) rfl; omega) (by decide) ?_
                                                                                  refine lv_iconst (v := 0) hx hb d_M_thirdOf_192 (by decide) ?_
                                                                                  exact W.iret (v := 0) hx hb hr (fun t ht hW => ⟨congrArg (fun z => Outcome.returned (some (Value.int z))) (Option.some.inj hf), ht⟩) (fun q h => nomatch h) d_M_thirdOf_193

def f_M_seventhOf (a0 : Int32) : Option Int32 :=
  if a0 = 26 then (some (32)) else (if a0 = 28 then (some (32)) else (if a0 = 34 then (some (32)) else (if a0 ≤ 36 then (some (0)) else (some (1)))))
set_option maxHeartbeats 4000000 in
set_option maxRecDepth 100000 in
theorem c_M_seventhOf (l : Launch) {ad sk sv : Nat → Nat} {tK : Nat} (a0 : Int32)  (r : Int32) (hf : f_M_seventhOf a0 = some r) : Met l y_M_seventhOf (Cond.code y_M_seventhOf b_M_seventhOf 1 (Option.some FieldType.int) :: aw) ({ frames := 0, cells := 0, slots := 0, locals := 0 } : Room) (va_Pc [.int (a0)] (fun U => tb ad sk sv tK (fun _ => False) U U.heap)) (QcRead r) 0 0 (fun _ => False) := by
  refine Met.ofW (cc := b_M_seventhOf) (maxL := 1) (ret := (Option.some FieldType.int)) (by decide) rfl ?_
  intro p e s m args below meth c s₁ B hml hv
  obtain ⟨rfl, hT⟩ := hv
  have hx := B.exec
  have hb := B.bytes
  have hr := B.returns
  have hts := atoms_spec (ws := (Cond.code y_M_seventhOf b_M_seventhOf 1 (Option.some FieldType.int) :: aw)) B.pre
  have ht : ∀ {w : Cond}, w ∈ aw → w.before ([.int (a0)] : List Value).toArray s = true := fun h => hts _ (List.mem_cons_of_mem _ h)
  have hown : s.vm.findClass "CodeWordsModel" = some m.cls := findClass_of_methodNamed B.named
  have hlocks := B.notSynchronized
  have hS : va_S (fun _ => False) s.heap s.heap [] := va_S.rf
  have hl := lv_entry ([.int (a0)]) (n := 1) (Nat.le_of_ble_eq_true rfl)
  rw [lg_entry_eq]
  generalize (lg_sl ([.int (a0)]) ++ List.replicate (1 - (lg_sl ([.int (a0)])).length) Slot.unset).toArray = ls at hl ⊢
  have hl : lv_has ls 1 [(0, .int (a0))] := hl
  rw [f_M_seventhOf] at hf
  refine lv_iload_n hx hb d_M_seventhOf_0 rfl (lv_at hl 0 rfl) ?_
  refine lv_bipush (v := 26) hx hb d_M_seventhOf_1 (by decide) ?_
  refine lv_icmp_eq (tgt := 18) hx hb d_M_seventhOf_3 (by decide) (fun c_1 => ?_) (fun c_1 => ?_)
  · replace hf := (if_pos c_1).symm.trans hf
    refine lv_bipush (v := 32) hx hb d_M_seventhOf_18 (by decide) ?_
    refine lv_goto (tgt := 34) hx hb d_M_seventhOf_20 (by decide) ?_
    exact W.iret (v := 32) hx hb hr (fun t ht hW => ⟨congrArg (fun z => Outcome.returned (some (Value.int z))) (Option.some.inj hf), ht⟩) (fun q h => nomatch h) d_M_seventhOf_34
  · replace hf := (if_neg c_1).symm.trans hf
    refine lv_iload_n hx hb d_M_seventhOf_6 rfl (lv_at hl 0 rfl) ?_
    refine lv_bipush (v := 28) hx hb d_M_seventhOf_7 (by decide) ?_
    refine lv_icmp_eq (tgt := 18) hx hb d_M_seventhOf_9 (by decide) (fun c_2 => ?_) (fun c_2 => ?_)
    · replace hf := (if_pos c_2).symm.trans hf
      refine lv_bipush (v := 32) hx hb d_M_seventhOf_18 (by decide) ?_
      refine lv_goto (tgt := 34) hx hb d_M_seventhOf_20 (by decide) ?_
      exact W.iret (v := 32) hx hb hr (fun t ht hW => ⟨congrArg (fun z => Outcome.returned (some (Value.int z))) (Option.some.inj hf), ht⟩) (fun q h => nomatch h) d_M_seventhOf_34
    · replace hf := (if_neg c_2).symm.trans hf
      refine lv_iload_n hx hb d_M_seventhOf_12 rfl (lv_at hl 0 rfl) ?_
      refine lv_bipush (v := 34) hx hb d_M_seventhOf_13 (by decide) ?_
      refine lv_icmp_ne (tgt := 23) hx hb d_M_seventhOf_15 (by decide) (fun c_3 => ?_) (fun c_3 => ?_)
      · replace hf := (if_neg c_3).symm.trans hf
        refine lv_iload_n hx hb d_M_seventhOf_23 rfl (lv_at hl 0 rfl) ?_
        refine lv_bipush (v := 36) hx hb d_M_seventhOf_24 (by decide) ?_
        refine lv_icmp_le (tgt := 33) hx hb d_M_seventhOf_26 (by decide) (fun c_4 => ?_) (fun c_4 => ?_)
        · replace hf := (if_pos c_4).symm.trans hf
          refine lv_iconst (v := 0) hx hb d_M_seventhOf_33 (by decide) ?_
          exact W.iret (v := 0) hx hb hr (fun t ht hW => ⟨congrArg (fun z => Outcome.returned (some (Value.int z))) (Option.some.inj hf), ht⟩) (fun q h => nomatch h) d_M_seventhOf_34
        · replace hf := (if_neg c_4).symm.trans hf
          refine lv_iconst (v := 1) hx hb d_M_seventhOf_29 (by decide) ?_
          refine lv_goto (tgt := 34) hx hb d_M_seventhOf_30 (by decide) ?_
          exact W.iret (v := 1) hx hb hr (fun t ht hW => ⟨congrArg (fun z => Outcome.returned (some (Value.int z))) (Option.some.inj hf), ht⟩) (fun q h => nomatch h) d_M_seventhOf_34
      · replace hf := (if_pos c_3).symm.trans hf
        refine lv_bipush (v := 32) hx hb d_M_seventhOf_18 (by decide) ?_
        refine lv_goto (tgt := 34) hx hb d_M_seventhOf_20 (by decide) ?_
        exact W.iret (v := 32) hx hb hr (fun t ht hW => ⟨congrArg (fun z => Outcome.returned (some (Value.int z))) (Option.some.inj hf), ht⟩) (fun q h => nomatch h) d_M_seventhOf_34

def f_M_isBranch (a0 : Int32) : Option Bool :=
  if a0 ≤ 3 then (some false) else (if 10 ≤ a0 then (some false) else (some true))
set_option maxHeartbeats 4000000 in
set_option maxRecDepth 100000 in
theorem c_M_isBranch (l : Launch) {ad sk sv : Nat → Nat} {tK : Nat} (a0 : Int32)  (r : Bool) (hf : f_M_isBranch a0 = some r) : Met l y_M_isBranch (Cond.code y_M_isBranch b_M_isBranch 1 (Option.some FieldType.boolean) :: aw) ({ frames := 0, cells := 0, slots := 0, locals := 0 } : Room) (va_Pc [.int (a0)] (fun U => tb ad sk sv tK (fun _ => False) U U.heap)) (QcRead (bI r)) 0 0 (fun _ => False) := by
  refine Met.ofW (cc := b_M_isBranch) (maxL := 1) (ret := (Option.some FieldType.boolean)) (by decide) rfl ?_
  intro p e s m args below meth c s₁ B hml hv
  obtain ⟨rfl, hT⟩ := hv
  have hx := B.exec
  have hb := B.bytes
  have hr := B.returns
  have hts := atoms_spec (ws := (Cond.code y_M_isBranch b_M_isBranch 1 (Option.some FieldType.boolean) :: aw)) B.pre
  have ht : ∀ {w : Cond}, w ∈ aw → w.before ([.int (a0)] : List Value).toArray s = true := fun h => hts _ (List.mem_cons_of_mem _ h)
  have hown : s.vm.findClass "CodeWordsModel" = some m.cls := findClass_of_methodNamed B.named
  have hlocks := B.notSynchronized
  have hS : va_S (fun _ => False) s.heap s.heap [] := va_S.rf
  have hl := lv_entry ([.int (a0)]) (n := 1) (Nat.le_of_ble_eq_true rfl)
  rw [lg_entry_eq]
  generalize (lg_sl ([.int (a0)]) ++ List.replicate (1 - (lg_sl ([.int (a0)])).length) Slot.unset).toArray = ls at hl ⊢
  have hl : lv_has ls 1 [(0, .int (a0))] := hl
  rw [f_M_isBranch] at hf
  refine lv_iload_n hx hb d_M_isBranch_0 rfl (lv_at hl 0 rfl) ?_
  refine lv_iconst (v := 3) hx hb d_M_isBranch_1 (by decide) ?_
  refine lv_icmp_le (tgt := 15) hx hb d_M_isBranch_2 (by decide) (fun c_1 => ?_) (fun c_1 => ?_)
  · replace hf := (if_pos c_1).symm.trans hf
    refine lv_iconst (v := 0) hx hb d_M_isBranch_15 (by decide) ?_
    exact W.zret (v := 0) hx hb hr (ju_nz false) (fun t ht hW => ⟨congrArg (fun z => Outcome.returned (some (Value.int (bI z)))) (Option.some.inj hf), ht⟩) (fun q h => nomatch h) d_M_isBranch_16
  · replace hf := (if_neg c_1).symm.trans hf
    refine lv_iload_n hx hb d_M_isBranch_5 rfl (lv_at hl 0 rfl) ?_
    refine lv_bipush (v := 10) hx hb d_M_isBranch_6 (by decide) ?_
    refine lv_icmp_ge (tgt := 15) hx hb d_M_isBranch_8 (by decide) (fun c_2 => ?_) (fun c_2 => ?_)
    · replace hf := (if_pos c_2).symm.trans hf
      refine lv_iconst (v := 0) hx hb d_M_isBranch_15 (by decide) ?_
      exact W.zret (v := 0) hx hb hr (ju_nz false) (fun t ht hW => ⟨congrArg (fun z => Outcome.returned (some (Value.int (bI z)))) (Option.some.inj hf), ht⟩) (fun q h => nomatch h) d_M_isBranch_16
    · replace hf := (if_neg c_2).symm.trans hf
      refine lv_iconst (v := 1) hx hb d_M_isBranch_11 (by decide) ?_
      refine lv_goto (tgt := 16) hx hb d_M_isBranch_12 (by decide) ?_
      exact W.zret (v := 1) hx hb hr (ju_nz true) (fun t ht hW => ⟨congrArg (fun z => Outcome.returned (some (Value.int (bI z)))) (Option.some.inj hf), ht⟩) (fun q h => nomatch h) d_M_isBranch_16

def f_M_isStore (a0 : Int32) : Option Bool :=
  if a0 ≤ 14 then (some false) else (if 18 ≤ a0 then (some false) else (some true))
set_option maxHeartbeats 4000000 in
set_option maxRecDepth 100000 in
theorem c_M_isStore (l : Launch) {ad sk sv : Nat → Nat} {tK : Nat} (a0 : Int32)  (r : Bool) (hf : f_M_isStore a0 = some r) : Met l y_M_isStore (Cond.code y_M_isStore b_M_isStore 1 (Option.some FieldType.boolean) :: aw) ({ frames := 0, cells := 0, slots := 0, locals := 0 } : Room) (va_Pc [.int (a0)] (fun U => tb ad sk sv tK (fun _ => False) U U.heap)) (QcRead (bI r)) 0 0 (fun _ => False) := by
  refine Met.ofW (cc := b_M_isStore) (maxL := 1) (ret := (Option.some FieldType.boolean)) (by decide) rfl ?_
  intro p e s m args below meth c s₁ B hml hv
  obtain ⟨rfl, hT⟩ := hv
  have hx := B.exec
  have hb := B.bytes
  have hr := B.returns
  have hts := atoms_spec (ws := (Cond.code y_M_isStore b_M_isStore 1 (Option.some FieldType.boolean) :: aw)) B.pre
  have ht : ∀ {w : Cond}, w ∈ aw → w.before ([.int (a0)] : List Value).toArray s = true := fun h => hts _ (List.mem_cons_of_mem _ h)
  have hown : s.vm.findClass "CodeWordsModel" = some m.cls := findClass_of_methodNamed B.named
  have hlocks := B.notSynchronized
  have hS : va_S (fun _ => False) s.heap s.heap [] := va_S.rf
  have hl := lv_entry ([.int (a0)]) (n := 1) (Nat.le_of_ble_eq_true rfl)
  rw [lg_entry_eq]
  generalize (lg_sl ([.int (a0)]) ++ List.replicate (1 - (lg_sl ([.int (a0)])).length) Slot.unset).toArray = ls at hl ⊢
  have hl : lv_has ls 1 [(0, .int (a0))] := hl
  rw [f_M_isStore] at hf
  refine lv_iload_n hx hb d_M_isStore_0 rfl (lv_at hl 0 rfl) ?_
  refine lv_bipush (v := 14) hx hb d_M_isStore_1 (by decide) ?_
  refine lv_icmp_le (tgt := 16) hx hb d_M_isStore_3 (by decide) (fun c_1 => ?_) (fun c_1 => ?_)
  · replace hf := (if_pos c_1).symm.trans hf
    refine lv_iconst (v := 0) hx hb d_M_isStore_16 (by decide) ?_
    exact W.zret (v := 0) hx hb hr (ju_nz false) (fun t ht hW => ⟨congrArg (fun z => Outcome.returned (some (Value.int (bI z)))) (Option.some.inj hf), ht⟩) (fun q h => nomatch h) d_M_isStore_17
  · replace hf := (if_neg c_1).symm.trans hf
    refine lv_iload_n hx hb d_M_isStore_6 rfl (lv_at hl 0 rfl) ?_
    refine lv_bipush (v := 18) hx hb d_M_isStore_7 (by decide) ?_
    refine lv_icmp_ge (tgt := 16) hx hb d_M_isStore_9 (by decide) (fun c_2 => ?_) (fun c_2 => ?_)
    · replace hf := (if_pos c_2).symm.trans hf
      refine lv_iconst (v := 0) hx hb d_M_isStore_16 (by decide) ?_
      exact W.zret (v := 0) hx hb hr (ju_nz false) (fun t ht hW => ⟨congrArg (fun z => Outcome.returned (some (Value.int (bI z)))) (Option.some.inj hf), ht⟩) (fun q h => nomatch h) d_M_isStore_17
    · replace hf := (if_neg c_2).symm.trans hf
      refine lv_iconst (v := 1) hx hb d_M_isStore_12 (by decide) ?_
      refine lv_goto (tgt := 17) hx hb d_M_isStore_13 (by decide) ?_
      exact W.zret (v := 1) hx hb hr (ju_nz true) (fun t ht hW => ⟨congrArg (fun z => Outcome.returned (some (Value.int (bI z)))) (Option.some.inj hf), ht⟩) (fun q h => nomatch h) d_M_isStore_17

def f_M_isShift (a0 : Int32) : Option Bool :=
  if a0 ≤ 23 then (some false) else (if 27 ≤ a0 then (some false) else (some true))
set_option maxHeartbeats 4000000 in
set_option maxRecDepth 100000 in
theorem c_M_isShift (l : Launch) {ad sk sv : Nat → Nat} {tK : Nat} (a0 : Int32)  (r : Bool) (hf : f_M_isShift a0 = some r) : Met l y_M_isShift (Cond.code y_M_isShift b_M_isShift 1 (Option.some FieldType.boolean) :: aw) ({ frames := 0, cells := 0, slots := 0, locals := 0 } : Room) (va_Pc [.int (a0)] (fun U => tb ad sk sv tK (fun _ => False) U U.heap)) (QcRead (bI r)) 0 0 (fun _ => False) := by
  refine Met.ofW (cc := b_M_isShift) (maxL := 1) (ret := (Option.some FieldType.boolean)) (by decide) rfl ?_
  intro p e s m args below meth c s₁ B hml hv
  obtain ⟨rfl, hT⟩ := hv
  have hx := B.exec
  have hb := B.bytes
  have hr := B.returns
  have hts := atoms_spec (ws := (Cond.code y_M_isShift b_M_isShift 1 (Option.some FieldType.boolean) :: aw)) B.pre
  have ht : ∀ {w : Cond}, w ∈ aw → w.before ([.int (a0)] : List Value).toArray s = true := fun h => hts _ (List.mem_cons_of_mem _ h)
  have hown : s.vm.findClass "CodeWordsModel" = some m.cls := findClass_of_methodNamed B.named
  have hlocks := B.notSynchronized
  have hS : va_S (fun _ => False) s.heap s.heap [] := va_S.rf
  have hl := lv_entry ([.int (a0)]) (n := 1) (Nat.le_of_ble_eq_true rfl)
  rw [lg_entry_eq]
  generalize (lg_sl ([.int (a0)]) ++ List.replicate (1 - (lg_sl ([.int (a0)])).length) Slot.unset).toArray = ls at hl ⊢
  have hl : lv_has ls 1 [(0, .int (a0))] := hl
  rw [f_M_isShift] at hf
  refine lv_iload_n hx hb d_M_isShift_0 rfl (lv_at hl 0 rfl) ?_
  refine lv_bipush (v := 23) hx hb d_M_isShift_1 (by decide) ?_
  refine lv_icmp_le (tgt := 16) hx hb d_M_isShift_3 (by decide) (fun c_1 => ?_) (fun c_1 => ?_)
  · replace hf := (if_pos c_1).symm.trans hf
    refine lv_iconst (v := 0) hx hb d_M_isShift_16 (by decide) ?_
    exact W.zret (v := 0) hx hb hr (ju_nz false) (fun t ht hW => ⟨congrArg (fun z => Outcome.returned (some (Value.int (bI z)))) (Option.some.inj hf), ht⟩) (fun q h => nomatch h) d_M_isShift_17
  · replace hf := (if_neg c_1).symm.trans hf
    refine lv_iload_n hx hb d_M_isShift_6 rfl (lv_at hl 0 rfl) ?_
    refine lv_bipush (v := 27) hx hb d_M_isShift_7 (by decide) ?_
    refine lv_icmp_ge (tgt := 16) hx hb d_M_isShift_9 (by decide) (fun c_2 => ?_) (fun c_2 => ?_)
    · replace hf := (if_pos c_2).symm.trans hf
      refine lv_iconst (v := 0) hx hb d_M_isShift_16 (by decide) ?_
      exact W.zret (v := 0) hx hb hr (ju_nz false) (fun t ht hW => ⟨congrArg (fun z => Outcome.returned (some (Value.int (bI z)))) (Option.some.inj hf), ht⟩) (fun q h => nomatch h) d_M_isShift_17
    · replace hf := (if_neg c_2).symm.trans hf
      refine lv_iconst (v := 1) hx hb d_M_isShift_12 (by decide) ?_
      refine lv_goto (tgt := 17) hx hb d_M_isShift_13 (by decide) ?_
      exact W.zret (v := 1) hx hb hr (ju_nz true) (fun t ht hW => ⟨congrArg (fun z => Outcome.returned (some (Value.int (bI z)))) (Option.some.inj hf), ht⟩) (fun q h => nomatch h) d_M_isShift_17

def f_M_isKind (a0 : Int32) : Option Bool :=
  if a0 < 0 then (some false) else (if 75 ≤ a0 then (some false) else (some true))
set_option maxHeartbeats 4000000 in
set_option maxRecDepth 100000 in
theorem c_M_isKind (l : Launch) {ad sk sv : Nat → Nat} {tK : Nat} (a0 : Int32)  (r : Bool) (hf : f_M_isKind a0 = some r) : Met l y_M_isKind (Cond.code y_M_isKind b_M_isKind 1 (Option.some FieldType.boolean) :: aw) ({ frames := 0, cells := 0, slots := 0, locals := 0 } : Room) (va_Pc [.int (a0)] (fun U => tb ad sk sv tK (fun _ => False) U U.heap)) (QcRead (bI r)) 0 0 (fun _ => False) := by
  refine Met.ofW (cc := b_M_isKind) (maxL := 1) (ret := (Option.some FieldType.boolean)) (by decide) rfl ?_
  intro p e s m args below meth c s₁ B hml hv
  obtain ⟨rfl, hT⟩ := hv
  have hx := B.exec
  have hb := B.bytes
  have hr := B.returns
  have hts := atoms_spec (ws := (Cond.code y_M_isKind b_M_isKind 1 (Option.some FieldType.boolean) :: aw)) B.pre
  have ht : ∀ {w : Cond}, w ∈ aw → w.before ([.int (a0)] : List Value).toArray s = true := fun h => hts _ (List.mem_cons_of_mem _ h)
  have hown : s.vm.findClass "CodeWordsModel" = some m.cls := findClass_of_methodNamed B.named
  have hlocks := B.notSynchronized
  have hS : va_S (fun _ => False) s.heap s.heap [] := va_S.rf
  have hl := lv_entry ([.int (a0)]) (n := 1) (Nat.le_of_ble_eq_true rfl)
  rw [lg_entry_eq]
  generalize (lg_sl ([.int (a0)]) ++ List.replicate (1 - (lg_sl ([.int (a0)])).length) Slot.unset).toArray = ls at hl ⊢
  have hl : lv_has ls 1 [(0, .int (a0))] := hl
  rw [f_M_isKind] at hf
  refine lv_iload_n hx hb d_M_isKind_0 rfl (lv_at hl 0 rfl) ?_
  refine lv_if_lt (tgt := 14) hx hb d_M_isKind_1 (by decide) (fun c_1 => ?_) (fun c_1 => ?_)
  · replace hf := (if_pos c_1).symm.trans hf
    refine lv_iconst (v := 0) hx hb d_M_isKind_14 (by decide) ?_
    exact W.zret (v := 0) hx hb hr (ju_nz false) (fun t ht hW => ⟨congrArg (fun z => Outcome.returned (some (Value.int (bI z)))) (Option.some.inj hf), ht⟩) (fun q h => nomatch h) d_M_isKind_15
  · replace hf := (if_neg c_1).symm.trans hf
    refine lv_iload_n hx hb d_M_isKind_4 rfl (lv_at hl 0 rfl) ?_
    refine lv_bipush (v := 75) hx hb d_M_isKind_5 (by decide) ?_
    refine lv_icmp_ge (tgt := 14) hx hb d_M_isKind_7 (by decide) (fun c_2 => ?_) (fun c_2 => ?_)
    · replace hf := (if_pos c_2).symm.trans hf
      refine lv_iconst (v := 0) hx hb d_M_isKind_14 (by decide) ?_
      exact W.zret (v := 0) hx hb hr (ju_nz false) (fun t ht hW => ⟨congrArg (fun z => Outcome.returned (some (Value.int (bI z)))) (Option.some.inj hf), ht⟩) (fun q h => nomatch h) d_M_isKind_15
    · replace hf := (if_neg c_2).symm.trans hf
      refine lv_iconst (v := 1) hx hb d_M_isKind_10 (by decide) ?_
      refine lv_goto (tgt := 15) hx hb d_M_isKind_11 (by decide) ?_
      exact W.zret (v := 1) hx hb hr (ju_nz true) (fun t ht hW => ⟨congrArg (fun z => Outcome.returned (some (Value.int (bI z)))) (Option.some.inj hf), ht⟩) (fun q h => nomatch h) d_M_isKind_15

def f_M_bitsOf (a0 : Int32) : Option Int32 :=
  if 48 ≤ a0 then (some (16)) else (some (32))
set_option maxHeartbeats 4000000 in
set_option maxRecDepth 100000 in
theorem c_M_bitsOf (l : Launch) {ad sk sv : Nat → Nat} {tK : Nat} (a0 : Int32)  (r : Int32) (hf : f_M_bitsOf a0 = some r) : Met l y_M_bitsOf (Cond.code y_M_bitsOf b_M_bitsOf 1 (Option.some FieldType.int) :: aw) ({ frames := 0, cells := 0, slots := 0, locals := 0 } : Room) (va_Pc [.int (a0)] (fun U => tb ad sk sv tK (fun _ => False) U U.heap)) (QcRead r) 0 0 (fun _ => False) := by
  refine Met.ofW (cc := b_M_bitsOf) (maxL := 1) (ret := (Option.some FieldType.int)) (by decide) rfl ?_
  intro p e s m args below meth c s₁ B hml hv
  obtain ⟨rfl, hT⟩ := hv
  have hx := B.exec
  have hb := B.bytes
  have hr := B.returns
  have hts := atoms_spec (ws := (Cond.code y_M_bitsOf b_M_bitsOf 1 (Option.some FieldType.int) :: aw)) B.pre
  have ht : ∀ {w : Cond}, w ∈ aw → w.before ([.int (a0)] : List Value).toArray s = true := fun h => hts _ (List.mem_cons_of_mem _ h)
  have hown : s.vm.findClass "CodeWordsModel" = some m.cls := findClass_of_methodNamed B.named
  have hlocks := B.notSynchronized
  have hS : va_S (fun _ => False) s.heap s.heap [] := va_S.rf
  have hl := lv_entry ([.int (a0)]) (n := 1) (Nat.le_of_ble_eq_true rfl)
  rw [lg_entry_eq]
  generalize (lg_sl ([.int (a0)]) ++ List.replicate (1 - (lg_sl ([.int (a0)])).length) Slot.unset).toArray = ls at hl ⊢
  have hl : lv_has ls 1 [(0, .int (a0))] := hl
  rw [f_M_bitsOf] at hf
  refine lv_iload_n hx hb d_M_bitsOf_0 rfl (lv_at hl 0 rfl) ?_
  refine lv_bipush (v := 48) hx hb d_M_bitsOf_1 (by decide) ?_
  refine lv_icmp_ge (tgt := 11) hx hb d_M_bitsOf_3 (by decide) (fun c_1 => ?_) (fun c_1 => ?_)
  · replace hf := (if_pos c_1).symm.trans hf
    refine lv_bipush (v := 16) hx hb d_M_bitsOf_11 (by decide) ?_
    exact W.iret (v := 16) hx hb hr (fun t ht hW => ⟨congrArg (fun z => Outcome.returned (some (Value.int z))) (Option.some.inj hf), ht⟩) (fun q h => nomatch h) d_M_bitsOf_13
  · replace hf := (if_neg c_1).symm.trans hf
    refine lv_bipush (v := 32) hx hb d_M_bitsOf_6 (by decide) ?_
    refine lv_goto (tgt := 13) hx hb d_M_bitsOf_8 (by decide) ?_
    exact W.iret (v := 32) hx hb hr (fun t ht hW => ⟨congrArg (fun z => Outcome.returned (some (Value.int z))) (Option.some.inj hf), ht⟩) (fun q h => nomatch h) d_M_bitsOf_13

def f_M_isStep (a0 : Int64) (a1 : Int64) (a2 : Int64) (a3 : Int64) : Option Bool :=
  if (lg_cmp a0 a1) < 0 then (some false) else (if 0 < (lg_cmp a0 a2) then (some false) else (if a3 = 0 then none else if (lg_cmp (a0 - a0 / a3 * a3) 0) = 0 then (some true) else (some false)))
set_option maxHeartbeats 4000000 in
set_option maxRecDepth 100000 in
theorem c_M_isStep (l : Launch) {ad sk sv : Nat → Nat} {tK : Nat} (a0 : Int64) (a1 : Int64) (a2 : Int64) (a3 : Int64)  (r : Bool) (hf : f_M_isStep a0 a1 a2 a3 = some r) : Met l y_M_isStep (Cond.code y_M_isStep b_M_isStep 8 (Option.some FieldType.boolean) :: aw) ({ frames := 0, cells := 0, slots := 0, locals := 0 } : Room) (va_Pc [.long (a0), .long (a1), .long (a2), .long (a3)] (fun U => tb ad sk sv tK (fun _ => False) U U.heap)) (QcRead (bI r)) 0 0 (fun _ => False) := by
  refine Met.ofW (cc := b_M_isStep) (maxL := 8) (ret := (Option.some FieldType.boolean)) (by decide) rfl ?_
  intro p e s m args below meth c s₁ B hml hv
  obtain ⟨rfl, hT⟩ := hv
  have hx := B.exec
  have hb := B.bytes
  have hr := B.returns
  have hts := atoms_spec (ws := (Cond.code y_M_isStep b_M_isStep 8 (Option.some FieldType.boolean) :: aw)) B.pre
  have ht : ∀ {w : Cond}, w ∈ aw → w.before ([.long (a0), .long (a1), .long (a2), .long (a3)] : List Value).toArray s = true := fun h => hts _ (List.mem_cons_of_mem _ h)
  have hown : s.vm.findClass "CodeWordsModel" = some m.cls := findClass_of_methodNamed B.named
  have hlocks := B.notSynchronized
  have hS : va_S (fun _ => False) s.heap s.heap [] := va_S.rf
  have hl := lv_entry ([.long (a0), .long (a1), .long (a2), .long (a3)]) (n := 8) (Nat.le_of_ble_eq_true rfl)
  rw [lg_entry_eq]
  generalize (lg_sl ([.long (a0), .long (a1), .long (a2), .long (a3)]) ++ List.replicate (8 - (lg_sl ([.long (a0), .long (a1), .long (a2), .long (a3)])).length) Slot.unset).toArray = ls at hl ⊢
  have hl : lv_has ls 8 [(0, .long (a0)), (2, .long (a1)), (4, .long (a2)), (6, .long (a3))] := hl
  rw [f_M_isStep] at hf
  refine lv_lload_n hx hb d_M_isStep_0 rfl (lv_at hl 0 rfl) ?_
  refine lv_lload_n hx hb d_M_isStep_1 rfl (lv_at hl 1 rfl) ?_
  refine W.lcmp hx hb d_M_isStep_2 ?_
  refine lv_if_lt (tgt := 26) hx hb d_M_isStep_3 (by decide) (fun c_1 => ?_) (fun c_1 => ?_)
  · replace hf := (if_pos c_1).symm.trans hf
    refine lv_iconst (v := 0) hx hb d_M_isStep_26 (by decide) ?_
    exact W.zret (v := 0) hx hb hr (ju_nz false) (fun t ht hW => ⟨congrArg (fun z => Outcome.returned (some (Value.int (bI z)))) (Option.some.inj hf), ht⟩) (fun q h => nomatch h) d_M_isStep_27
  · replace hf := (if_neg c_1).symm.trans hf
    refine lv_lload_n hx hb d_M_isStep_6 rfl (lv_at hl 0 rfl) ?_
    refine lv_lload hx hb d_M_isStep_7 (lv_at hl 2 rfl) ?_
    refine W.lcmp hx hb d_M_isStep_9 ?_
    refine lv_if_gt (tgt := 26) hx hb d_M_isStep_10 (by decide) (fun c_2 => ?_) (fun c_2 => ?_)
    · replace hf := (if_pos c_2).symm.trans hf
      refine lv_iconst (v := 0) hx hb d_M_isStep_26 (by decide) ?_
      exact W.zret (v := 0) hx hb hr (ju_nz false) (fun t ht hW => ⟨congrArg (fun z => Outcome.returned (some (Value.int (bI z)))) (Option.some.inj hf), ht⟩) (fun q h => nomatch h) d_M_isStep_27
    · replace hf := (if_neg c_2).symm.trans hf
      refine lv_lload_n hx hb d_M_isStep_13 rfl (lv_at hl 0 rfl) ?_
      refine lv_lload hx hb d_M_isStep_14 (lv_at hl 3 rfl) ?_
      obtain ⟨z_3, hf⟩ := ju_gd hf
      refine lv_lrem hx hb d_M_isStep_16 z_3 ?_
      refine lv_lconst (v := 0) hx hb d_M_isStep_17 (by decide) ?_
      refine W.lcmp hx hb d_M_isStep_18 ?_
      refine lv_if_ne (tgt := 26) hx hb d_M_isStep_19 (by decide) (fun c_4 => ?_) (fun c_4 => ?_)
      · replace hf := (if_neg c_4).symm.trans hf
        refine lv_iconst (v := 0) hx hb d_M_isStep_26 (by decide) ?_
        exact W.zret (v := 0) hx hb hr (ju_nz false) (fun t ht hW => ⟨congrArg (fun z => Outcome.returned (some (Value.int (bI z)))) (Option.some.inj hf), ht⟩) (fun q h => nomatch h) d_M_isStep_27
      · replace hf := (if_pos c_4).symm.trans hf
        refine lv_iconst (v := 1) hx hb d_M_isStep_22 (by decide) ?_
        refine lv_goto (tgt := 27) hx hb d_M_isStep_23 (by decide) ?_
        exact W.zret (v := 1) hx hb hr (ju_nz true) (fun t ht hW => ⟨congrArg (fun z => Outcome.returned (some (Value.int (bI z)))) (Option.some.inj hf), ht⟩) (fun q h => nomatch h) d_M_isStep_27

def f_M_isImmediate (a0 : Int32) (a1 : Int64) : Option Bool :=
  if 2 ≤ a0 then (if a0 = 2 then ((f_M_isStep a1 ((-1048576)) 1048574 2).bind fun r_86 => some r_86) else ((f_M_isBranch a0).bind fun r_3 => if (bI r_3) = 0 then ((f_M_isShift a0).bind fun r_6 => if (bI r_6) = 0 then (if 48 ≤ a0 then (if a0 = 48 then ((f_M_isStep a1 4 1020 4).bind fun r_11 => some r_11) else ( if a0 = 49 then ((f_M_isStep a1 0 124 4).bind fun r_14 => some r_14) else ( if a0 = 50 then ((f_M_isStep a1 0 124 4).bind fun r_17 => some r_17) else ( if a0 = 51 then ((f_M_isStep a1 0 252 4).bind fun r_20 => some r_20) else ( if a0 = 52 then (if (lg_cmp a1 0) = 0 then (some false) else ((f_M_isStep a1 ((-32)) 31 1).bind fun r_24 => if (bI r_24) = 0 then (some false) else (some true))) else ( if a0 = 53 then ((f_M_isStep a1 ((-2048)) 2046 2).bind fun r_28 => some r_28) else ( if a0 = 54 then ((f_M_isStep a1 ((-32)) 31 1).bind fun r_31 => some r_31) else ( if a0 = 55 then (if (lg_cmp a1 0) = 0 then (some false) else ((f_M_isStep a1 ((-512)) 496 16).bind fun r_35 => if (bI r_35) = 0 then (some false) else (some true))) else ( if a0 = 56 then ((f_M_isStep a1 1 31 1).bind fun r_39 => if (bI r_39) = 0 then ((f_M_isStep a1 1048544 1048575 1).bind fun r_42 => if (bI r_42) = 0 then (some false) else (some true)) else (some true)) else ( if a0 = 57 then ((f_M_isStep a1 1 31 1).bind fun r_46 => some r_46) else ( if a0 = 58 then ((f_M_isStep a1 1 31 1).bind fun r_49 => some r_49) else ( if a0 = 59 then ((f_M_isStep a1 ((-32)) 31 1).bind fun r_52 => some r_52) else ( if a0 = 60 then ((f_M_isStep a1 0 252 4).bind fun r_55 => some r_55) else ( if a0 = 61 then ((f_M_isStep a1 0 252 4).bind fun r_58 => some r_58) else ( if a0 = 62 then ((f_M_isStep a1 0 252 4).bind fun r_61 => some r_61) else ( if a0 = 63 then ((f_M_isStep a1 0 252 4).bind fun r_64 => some r_64) else ( if a0 = 64 then ((f_M_isStep a1 ((-2048)) 2046 2).bind fun r_67 => some r_67) else ( if a0 = 65 then ((f_M_isStep a1 ((-256)) 254 2).bind fun r_70 => some r_70) else ( if a0 = 66 then ((f_M_isStep a1 ((-256)) 254 2).bind fun r_73 => some r_73) else ( if a0 = 67 then ((f_M_isStep a1 1 31 1).bind fun r_76 => some r_76) else ((f_M_isStep a1 0 252 4).bind fun r_78 => some r_78))))))))))))))))))))) else ((f_M_isStep a1 ((-2048)) 2047 1).bind fun r_80 => some r_80)) else ((f_M_isStep a1 0 31 1).bind fun r_82 => some r_82)) else ((f_M_isStep a1 ((-4096)) 4094 2).bind fun r_84 => some r_84))) else ((f_M_isStep a1 0 1048575 1).bind fun r_88 => some r_88)
set_option maxHeartbeats 4000000 in
set_option maxRecDepth 100000 in
theorem c_M_isImmediate (l : Launch) {ad sk sv : Nat → Nat} {tK : Nat} (a0 : Int32) (a1 : Int64)  (r : Bool) (hf : f_M_isImmediate a0 a1 = some r) : Met l y_M_isImmediate (Cond.code y_M_isImmediate b_M_isImmediate 3 (Option.some FieldType.boolean) :: aw) ({ frames := 1, cells := 0, slots := 0, locals := 27 } : Room) (va_Pc [.int (a0), .long (a1)] (fun U => tb ad sk sv tK (fun _ => False) U U.heap)) (QcRead (bI r)) 0 0 (fun _ => False) := by
  refine Met.ofW (cc := b_M_isImmediate) (maxL := 3) (ret := (Option.some FieldType.boolean)) (by decide) rfl ?_
  intro p e s m args below meth c s₁ B hml hv
  obtain ⟨rfl, hT⟩ := hv
  have hx := B.exec
  have hb := B.bytes
  have hr := B.returns
  have hts := atoms_spec (ws := (Cond.code y_M_isImmediate b_M_isImmediate 3 (Option.some FieldType.boolean) :: aw)) B.pre
  have ht : ∀ {w : Cond}, w ∈ aw → w.before ([.int (a0), .long (a1)] : List Value).toArray s = true := fun h => hts _ (List.mem_cons_of_mem _ h)
  have hown : s.vm.findClass "CodeWordsModel" = some m.cls := findClass_of_methodNamed B.named
  have hlocks := B.notSynchronized
  have hS : va_S (fun _ => False) s.heap s.heap [] := va_S.rf
  have hl := lv_entry ([.int (a0), .long (a1)]) (n := 3) (Nat.le_of_ble_eq_true rfl)
  rw [lg_entry_eq]
  generalize (lg_sl ([.int (a0), .long (a1)]) ++ List.replicate (3 - (lg_sl ([.int (a0), .long (a1)])).length) Slot.unset).toArray = ls at hl ⊢
  have hl : lv_has ls 3 [(0, .int (a0)), (1, .long (a1))] := hl
  rw [f_M_isImmediate] at hf
  refine lv_iload_n hx hb d_M_isImmediate_0 rfl (lv_at hl 0 rfl) ?_
  refine lv_iconst (v := 2) hx hb d_M_isImmediate_1 (by decide) ?_
  refine lv_icmp_ge (tgt := 15) hx hb d_M_isImmediate_2 (by decide) (fun c_1 => ?_) (fun c_1 => ?_)
  · replace hf := (if_pos c_1).symm.trans hf
    refine lv_iload_n hx hb d_M_isImmediate_15 rfl (lv_at hl 0 rfl) ?_
    refine lv_iconst (v := 2) hx hb d_M_isImmediate_16 (by decide) ?_
    refine lv_icmp_ne (tgt := 34) hx hb d_M_isImmediate_17 (by decide) (fun c_2 => ?_) (fun c_2 => ?_)
    · replace hf := (if_neg c_2).symm.trans hf
      refine lv_iload_n hx hb d_M_isImmediate_34 rfl (lv_at hl 0 rfl) ?_
      obtain ⟨r_3, g_4, hf⟩ := Option.bind_eq_some_iff.mp hf
      refine ju_calli (W.runS (As := [.int (a0)]) (rest := []) ⟨hx, hb, hml, hown, hts⟩ (c_M_isBranch l (ad := ad) (sk := sk) (sv := sv) (tK := tK)  a0  r_3 g_4) (va_cwS 1 hts (aw_S aw_411 aw_412 aw_2 aw_413) rfl rfl rfl (by decide +kernel) ⟨Nat.le_of_ble_eq_true rfl, Nat.le_of_ble_eq_true rfl⟩) ⟨fun a U g mk q => ⟨q.1, q.2.call⟩, fun U hU hW => ⟨rfl, hT.at hS hU hW (fun _ z => z.elim)⟩⟩ rfl rfl hl.1 rfl (lv_room (Nat.le_of_ble_eq_true rfl)) d_M_isImmediate_35 ⟨Nat.le_refl _, Nat.le_refl _⟩) ?_
      refine lv_if_eq (tgt := 55) hx hb d_M_isImmediate_38 (by decide) (fun c_5 => ?_) (fun c_5 => ?_)
      · replace hf := (if_pos c_5).symm.trans hf
        refine lv_iload_n hx hb d_M_isImmediate_55 rfl (lv_at hl 0 rfl) ?_
        obtain ⟨r_6, g_7, hf⟩ := Option.bind_eq_some_iff.mp hf
        refine ju_calli (W.runS (As := [.int (a0)]) (rest := []) ⟨hx, hb, hml, hown, hts⟩ (c_M_isShift l (ad := ad) (sk := sk) (sv := sv) (tK := tK)  a0  r_6 g_7) (va_cwS 1 hts (aw_S aw_420 aw_421 aw_2 aw_422) rfl rfl rfl (by decide +kernel) ⟨Nat.le_of_ble_eq_true rfl, Nat.le_of_ble_eq_true rfl⟩) ⟨fun a U g mk q => ⟨q.1, q.2.call⟩, fun U hU hW => ⟨rfl, hT.at hS hU hW (fun _ z => z.elim)⟩⟩ rfl rfl hl.1 rfl (lv_room (Nat.le_of_ble_eq_true rfl)) d_M_isImmediate_56 ⟨Nat.le_refl _, Nat.le_refl _⟩) ?_
        refine lv_if_eq (tgt := 72) hx hb d_M_isImmediate_59 (by decide) (fun c_8 => ?_) (fun c_8 => ?_)
        · replace hf := (if_pos c_8).symm.trans hf
          refine lv_iload_n hx hb d_M_isImmediate_72 rfl (lv_at hl 0 rfl) ?_
          refine lv_bipush (v := 48) hx hb d_M_isImmediate_73 (by decide) ?_
          refine lv_icmp_ge (tgt := 90) hx hb d_M_isImmediate_75 (by decide) (fun c_9 => ?_) (fun c_9 => ?_)
          · replace hf := (if_pos c_9).symm.trans hf
            refine lv_iload_n hx hb d_M_isImmediate_90 rfl (lv_at hl 0 rfl) ?_
            by_cases c_10 : a0 = 48
            · replace hf := (if_pos c_10).symm.trans hf
              refine lv_tableIn (tgt := 184) hx hb d_M_isImmediate_91 (by rw [c_10]; decide) (by rw [c_10]; decide) (by rw [c_10] <;> rfl) (by decide) ?_
              refine lv_lload_n hx hb d_M_isImmediate_184 rfl (lv_at hl 1 rfl) ?_
              refine lv_ldc2 (v := 4) hx hb hown (ht aw_504) d_M_isImmediate_185 ?_
              refine lv_ldc2 (v := 1020) hx hb hown (ht aw_505) d_M_isImmediate_188 ?_
              refine lv_ldc2 (v := 4) hx hb hown (ht aw_504) d_M_isImmediate_191 ?_
              obtain ⟨r_11, g_12, hf⟩ := Option.bind_eq_some_iff.mp hf
              refine ju_calli (W.runS (As := [.long (a1), .long (4), .long (1020), .long (4)]) (rest := []) ⟨hx, hb, hml, hown, hts⟩ (c_M_isStep l (ad := ad) (sk := sk) (sv := sv) (tK := tK)  a1 4 1020 4  r_11 g_12) (va_cwS 4 hts (aw_S aw_493 aw_494 aw_2 aw_495) rfl rfl rfl (by decide +kernel) ⟨Nat.le_of_ble_eq_true rfl, Nat.le_of_ble_eq_true rfl⟩) ⟨fun a U g mk q => ⟨q.1, q.2.call⟩, fun U hU hW => ⟨rfl, hT.at hS hU hW (fun _ z => z.elim)⟩⟩ rfl rfl hl.1 rfl (lv_room (Nat.le_of_ble_eq_true rfl)) d_M_isImmediate_194 ⟨Nat.le_refl _, Nat.le_refl _⟩) ?_
              exact W.zret (v := bI r_11) hx hb hr (ju_nz r_11) (fun t ht hW => ⟨congrArg (fun z => Outcome.returned (some (Value.int (bI z)))) (Option.some.inj hf), ht⟩) (fun q h => nomatch h) d_M_isImmediate_197
            · replace hf := (if_neg c_10).symm.trans hf
              by_cases c_13 : a0 = 49
              · replace hf := (if_pos c_13).symm.trans hf
                refine lv_tableIn (tgt := 198) hx hb d_M_isImmediate_91 (by rw [c_13]; decide) (by rw [c_13]; decide) (by rw [c_13] <;> rfl) (by decide) ?_
                refine lv_lload_n hx hb d_M_isImmediate_198 rfl (lv_at hl 1 rfl) ?_
                refine lv_lconst (v := 0) hx hb d_M_isImmediate_199 (by decide) ?_
                refine lv_ldc2 (v := 124) hx hb hown (ht aw_506) d_M_isImmediate_200 ?_
                refine lv_ldc2 (v := 4) hx hb hown (ht aw_504) d_M_isImmediate_203 ?_
                obtain ⟨r_14, g_15, hf⟩ := Option.bind_eq_some_iff.mp hf
                refine ju_calli (W.runS (As := [.long (a1), .long (0), .long (124), .long (4)]) (rest := []) ⟨hx, hb, hml, hown, hts⟩ (c_M_isStep l (ad := ad) (sk := sk) (sv := sv) (tK := tK)  a1 0 124 4  r_14 g_15) (va_cwS 4 hts (aw_S aw_493 aw_494 aw_2 aw_495) rfl rfl rfl (by decide +kernel) ⟨Nat.le_of_ble_eq_true rfl, Nat.le_of_ble_eq_true rfl⟩) ⟨fun a U g mk q => ⟨q.1, q.2.call⟩, fun U hU hW => ⟨rfl, hT.at hS hU hW (fun _ z => z.elim)⟩⟩ rfl rfl hl.1 rfl (lv_room (Nat.le_of_ble_eq_true rfl)) d_M_isImmediate_206 ⟨Nat.le_refl _, Nat.le_refl _⟩) ?_
                exact W.zret (v := bI r_14) hx hb hr (ju_nz r_14) (fun t ht hW => ⟨congrArg (fun z => Outcome.returned (some (Value.int (bI z)))) (Option.some.inj hf), ht⟩) (fun q h => nomatch h) d_M_isImmediate_209
              · replace hf := (if_neg c_13).symm.trans hf
                by_cases c_16 : a0 = 50
                · replace hf := (if_pos c_16).symm.trans hf
                  refine lv_tableIn (tgt := 198) hx hb d_M_isImmediate_91 (by rw [c_16]; decide) (by rw [c_16]; decide) (by rw [c_16] <;> rfl) (by decide) ?_
                  refine lv_lload_n hx hb d_M_isImmediate_198 rfl (lv_at hl 1 rfl) ?_
                  refine lv_lconst (v := 0) hx hb d_M_isImmediate_199 (by decide) ?_
                  refine lv_ldc2 (v := 124) hx hb hown (ht aw_506) d_M_isImmediate_200 ?_
                  refine lv_ldc2 (v := 4) hx hb hown (ht aw_504) d_M_isImmediate_203 ?_
                  obtain ⟨r_17, g_18, hf⟩ := Option.bind_eq_some_iff.mp hf
                  refine ju_calli (W.runS (As := [.long (a1), .long (0), .long (124), .long (4)]) (rest := []) ⟨hx, hb, hml, hown, hts⟩ (c_M_isStep l (ad := ad) (sk := sk) (sv := sv) (tK := tK)  a1 0 124 4  r_17 g_18) (va_cwS 4 hts (aw_S aw_493 aw_494 aw_2 aw_495) rfl rfl rfl (by decide +kernel) ⟨Nat.le_of_ble_eq_true rfl, Nat.le_of_ble_eq_true rfl⟩) ⟨fun a U g mk q => ⟨q.1, q.2.call⟩, fun U hU hW => ⟨rfl, hT.at hS hU hW (fun _ z => z.elim)⟩⟩ rfl rfl hl.1 rfl (lv_room (Nat.le_of_ble_eq_true rfl)) d_M_isImmediate_206 ⟨Nat.le_refl _, Nat.le_refl _⟩) ?_
                  exact W.zret (v := bI r_17) hx hb hr (ju_nz r_17) (fun t ht hW => ⟨congrArg (fun z => Outcome.returned (some (Value.int (bI z)))) (Option.some.inj hf), ht⟩) (fun q h => nomatch h) d_M_isImmediate_209
                · replace hf := (if_neg c_16).symm.trans hf
                  by_cases c_19 : a0 = 51
                  · replace hf := (if_pos c_19).symm.trans hf
                    refine lv_tableIn (tgt := 346) hx hb d_M_isImmediate_91 (by rw [c_19]; decide) (by rw [c_19]; decide) (by rw [c_19] <;> rfl) (by decide) ?_
                    refine lv_lload_n hx hb d_M_isImmediate_346 rfl (lv_at hl 1 rfl) ?_
                    refine lv_lconst (v := 0) hx hb d_M_isImmediate_347 (by decide) ?_
                    refine lv_ldc2 (v := 252) hx hb hown (ht aw_515) d_M_isImmediate_348 ?_
                    refine lv_ldc2 (v := 4) hx hb hown (ht aw_504) d_M_isImmediate_351 ?_
                    obtain ⟨r_20, g_21, hf⟩ := Option.bind_eq_some_iff.mp hf
                    refine ju_calli (W.runS (As := [.long (a1), .long (0), .long (252), .long (4)]) (rest := []) ⟨hx, hb, hml, hown, hts⟩ (c_M_isStep l (ad := ad) (sk := sk) (sv := sv) (tK := tK)  a1 0 252 4  r_20 g_21) (va_cwS 4 hts (aw_S aw_493 aw_494 aw_2 aw_495) rfl rfl rfl (by decide +kernel) ⟨Nat.le_of_ble_eq_true rfl, Nat.le_of_ble_eq_true rfl⟩) ⟨fun a U g mk q => ⟨q.1, q.2.call⟩, fun U hU hW => ⟨rfl, hT.at hS hU hW (fun _ z => z.elim)⟩⟩ rfl rfl hl.1 rfl (lv_room (Nat.le_of_ble_eq_true rfl)) d_M_isImmediate_354 ⟨Nat.le_refl _, Nat.le_refl _⟩) ?_
                    exact W.zret (v := bI r_20) hx hb hr (ju_nz r_20) (fun t ht hW => ⟨congrArg (fun z => Outcome.returned (some (Value.int (bI z)))) (Option.some.inj hf), ht⟩) (fun q h => nomatch h) d_M_isImmediate_357
                  · replace hf := (if_neg c_19).symm.trans hf
                    by_cases c_22 : a0 = 52
                    · replace hf := (if_pos c_22).symm.trans hf
                      refine lv_tableIn (tgt := 210) hx hb d_M_isImmediate_91 (by rw [c_22]; decide) (by rw [c_22]; decide) (by rw [c_22] <;> rfl) (by decide) ?_
                      refine lv_lload_n hx hb d_M_isImmediate_210 rfl (lv_at hl 1 rfl) ?_
                      refine lv_lconst (v := 0) hx hb d_M_isImmediate_211 (by decide) ?_
                      refine W.lcmp hx hb d_M_isImmediate_212 ?_
                      refine lv_if_eq (tgt := 234) hx hb d_M_isImmediate_213 (by decide) (fun c_23 => ?_) (fun c_23 => ?_)
                      · replace hf := (if_pos c_23).symm.trans hf
                        refine lv_iconst (v := 0) hx hb d_M_isImmediate_234 (by decide) ?_
                        exact W.zret (v := 0) hx hb hr (ju_nz false) (fun t ht hW => ⟨congrArg (fun z => Outcome.returned (some (Value.int (bI z)))) (Option.some.inj hf), ht⟩) (fun q h => nomatch h) d_M_isImmediate_235
                      · replace hf := (if_neg c_23).symm.trans hf
                        refine lv_lload_n hx hb d_M_isImmediate_216 rfl (lv_at hl 1 rfl) ?_
                        refine lv_ldc2 (v := (-32)) hx hb hown (ht aw_507) d_M_isImmediate_217 ?_
                        refine lv_ldc2 (v := 31) hx hb hown (ht aw_501) d_M_isImmediate_220 ?_
                        refine lv_lconst (v := 1) hx hb d_M_isImmediate_223 (by decide) ?_
                        obtain ⟨r_24, g_25, hf⟩ := Option.bind_eq_some_iff.mp hf
                        refine ju_calli (W.runS (As := [.long (a1), .long ((-32)), .long (31), .long (1)]) (rest := []) ⟨hx, hb, hml, hown, hts⟩ (c_M_isStep l (ad := ad) (sk := sk) (sv := sv) (tK := tK)  a1 ((-32)) 31 1  r_24 g_25) (va_cwS 4 hts (aw_S aw_493 aw_494 aw_2 aw_495) rfl rfl rfl (by decide +kernel) ⟨Nat.le_of_ble_eq_true rfl, Nat.le_of_ble_eq_true rfl⟩) ⟨fun a U g mk q => ⟨q.1, q.2.call⟩, fun U hU hW => ⟨rfl, hT.at hS hU hW (fun _ z => z.elim)⟩⟩ rfl rfl hl.1 rfl (lv_room (Nat.le_of_ble_eq_true rfl)) d_M_isImmediate_224 ⟨Nat.le_refl _, Nat.le_refl _⟩) ?_
                        refine lv_if_eq (tgt := 234) hx hb d_M_isImmediate_227 (by decide) (fun c_26 => ?_) (fun c_26 => ?_)
                        · replace hf := (if_pos c_26).symm.trans hf
                          refine lv_iconst (v := 0) hx hb d_M_isImmediate_234 (by decide) ?_
                          exact W.zret (v := 0) hx hb hr (ju_nz false) (fun t ht hW => ⟨congrArg (fun z => Outcome.returned (some (Value.int (bI z)))) (Option.some.inj hf), ht⟩) (fun q h => nomatch h) d_M_isImmediate_235
                        · replace hf := (if_neg c_26).symm.trans hf
                          refine lv_iconst (v := 1) hx hb d_M_isImmediate_230 (by decide) ?_
                          refine lv_goto (tgt := 235) hx hb d_M_isImmediate_231 (by decide) ?_
                          exact W.zret (v := 1) hx hb hr (ju_nz true) (fun t ht hW => ⟨congrArg (fun z => Outcome.returned (some (Value.int (bI z)))) (Option.some.inj hf), ht⟩) (fun q h => nomatch h) d_M_isImmediate_235
                    · replace hf := (if_neg c_22).symm.trans hf
                      by_cases c_27 : a0 = 53
                      · replace hf := (if_pos c_27).symm.trans hf
                        refine lv_tableIn (tgt := 236) hx hb d_M_isImmediate_91 (by rw [c_27]; decide) (by rw [c_27]; decide) (by rw [c_27] <;> rfl) (by decide) ?_
                        refine lv_lload_n hx hb d_M_isImmediate_236 rfl (lv_at hl 1 rfl) ?_
                        refine lv_ldc2 (v := (-2048)) hx hb hown (ht aw_502) d_M_isImmediate_237 ?_
                        refine lv_ldc2 (v := 2046) hx hb hown (ht aw_508) d_M_isImmediate_240 ?_
                        refine lv_ldc2 (v := 2) hx hb hown (ht aw_498) d_M_isImmediate_243 ?_
                        obtain ⟨r_28, g_29, hf⟩ := Option.bind_eq_some_iff.mp hf
                        refine ju_calli (W.runS (As := [.long (a1), .long ((-2048)), .long (2046), .long (2)]) (rest := []) ⟨hx, hb, hml, hown, hts⟩ (c_M_isStep l (ad := ad) (sk := sk) (sv := sv) (tK := tK)  a1 ((-2048)) 2046 2  r_28 g_29) (va_cwS 4 hts (aw_S aw_493 aw_494 aw_2 aw_495) rfl rfl rfl (by decide +kernel) ⟨Nat.le_of_ble_eq_true rfl, Nat.le_of_ble_eq_true rfl⟩) ⟨fun a U g mk q => ⟨q.1, q.2.call⟩, fun U hU hW => ⟨rfl, hT.at hS hU hW (fun _ z => z.elim)⟩⟩ rfl rfl hl.1 rfl (lv_room (Nat.le_of_ble_eq_true rfl)) d_M_isImmediate_246 ⟨Nat.le_refl _, Nat.le_refl _⟩) ?_
                        exact W.zret (v := bI r_28) hx hb hr (ju_nz r_28) (fun t ht hW => ⟨congrArg (fun z => Outcome.returned (some (Value.int (bI z)))) (Option.some.inj hf), ht⟩) (fun q h => nomatch h) d_M_isImmediate_249
                      · replace hf := (if_neg c_27).symm.trans hf
                        by_cases c_30 : a0 = 54
                        · replace hf := (if_pos c_30).symm.trans hf
                          refine lv_tableIn (tgt := 250) hx hb d_M_isImmediate_91 (by rw [c_30]; decide) (by rw [c_30]; decide) (by rw [c_30] <;> rfl) (by decide) ?_
                          refine lv_lload_n hx hb d_M_isImmediate_250 rfl (lv_at hl 1 rfl) ?_
                          refine lv_ldc2 (v := (-32)) hx hb hown (ht aw_507) d_M_isImmediate_251 ?_
                          refine lv_ldc2 (v := 31) hx hb hown (ht aw_501) d_M_isImmediate_254 ?_
                          refine lv_lconst (v := 1) hx hb d_M_isImmediate_257 (by decide) ?_
                          obtain ⟨r_31, g_32, hf⟩ := Option.bind_eq_some_iff.mp hf
                          refine ju_calli (W.runS (As := [.long (a1), .long ((-32)), .long (31), .long (1)]) (rest := []) ⟨hx, hb, hml, hown, hts⟩ (c_M_isStep l (ad := ad) (sk := sk) (sv := sv) (tK := tK)  a1 ((-32)) 31 1  r_31 g_32) (va_cwS 4 hts (aw_S aw_493 aw_494 aw_2 aw_495) rfl rfl rfl (by decide +kernel) ⟨Nat.le_of_ble_eq_true rfl, Nat.le_of_ble_eq_true rfl⟩) ⟨fun a U g mk q => ⟨q.1, q.2.call⟩, fun U hU hW => ⟨rfl, hT.at hS hU hW (fun _ z => z.elim)⟩⟩ rfl rfl hl.1 rfl (lv_room (Nat.le_of_ble_eq_true rfl)) d_M_isImmediate_258 ⟨Nat.le_refl _, Nat.le_refl _⟩) ?_
                          exact W.zret (v := bI r_31) hx hb hr (ju_nz r_31) (fun t ht hW => ⟨congrArg (fun z => Outcome.returned (some (Value.int (bI z)))) (Option.some.inj hf), ht⟩) (fun q h => nomatch h) d_M_isImmediate_261
                        · replace hf := (if_neg c_30).symm.trans hf
                          by_cases c_33 : a0 = 55
                          · replace hf := (if_pos c_33).symm.trans hf
                            refine lv_tableIn (tgt := 262) hx hb d_M_isImmediate_91 (by rw [c_33]; decide) (by rw [c_33]; decide) (by rw [c_33] <;> rfl) (by decide) ?_
                            refine lv_lload_n hx hb d_M_isImmediate_262 rfl (lv_at hl 1 rfl) ?_
                            refine lv_lconst (v := 0) hx hb d_M_isImmediate_263 (by decide) ?_
                            refine W.lcmp hx hb d_M_isImmediate_264 ?_
                            refine lv_if_eq (tgt := 288) hx hb d_M_isImmediate_265 (by decide) (fun c_34 => ?_) (fun c_34 => ?_)
                            · replace hf := (if_pos c_34).symm.trans hf
                              refine lv_iconst (v := 0) hx hb d_M_isImmediate_288 (by decide) ?_
                              exact W.zret (v := 0) hx hb hr (ju_nz false) (fun t ht hW => ⟨congrArg (fun z => Outcome.returned (some (Value.int (bI z)))) (Option.some.inj hf), ht⟩) (fun q h => nomatch h) d_M_isImmediate_289
                            · replace hf := (if_neg c_34).symm.trans hf
                              refine lv_lload_n hx hb d_M_isImmediate_268 rfl (lv_at hl 1 rfl) ?_
                              refine lv_ldc2 (v := (-512)) hx hb hown (ht aw_509) d_M_isImmediate_269 ?_
                              refine lv_ldc2 (v := 496) hx hb hown (ht aw_510) d_M_isImmediate_272 ?_
                              refine lv_ldc2 (v := 16) hx hb hown (ht aw_511) d_M_isImmediate_275 ?_
                              obtain ⟨r_35, g_36, hf⟩ := Option.bind_eq_some_iff.mp hf
                              refine ju_calli (W.runS (As := [.long (a1), .long ((-512)), .long (496), .long (16)]) (rest := []) ⟨hx, hb, hml, hown, hts⟩ (c_M_isStep l (ad := ad) (sk := sk) (sv := sv) (tK := tK)  a1 ((-512)) 496 16  r_35 g_36) (va_cwS 4 hts (aw_S aw_493 aw_494 aw_2 aw_495) rfl rfl rfl (by decide +kernel) ⟨Nat.le_of_ble_eq_true rfl, Nat.le_of_ble_eq_true rfl⟩) ⟨fun a U g mk q => ⟨q.1, q.2.call⟩, fun U hU hW => ⟨rfl, hT.at hS hU hW (fun _ z => z.elim)⟩⟩ rfl rfl hl.1 rfl (lv_room (Nat.le_of_ble_eq_true rfl)) d_M_isImmediate_278 ⟨Nat.le_refl _, Nat.le_refl _⟩) ?_
                              refine lv_if_eq (tgt := 288) hx hb d_M_isImmediate_281 (by decide) (fun c_37 => ?_) (fun c_37 => ?_)
                              · replace hf := (if_pos c_37).symm.trans hf
                                refine lv_iconst (v := 0) hx hb d_M_isImmediate_288 (by decide) ?_
                                exact W.zret (v := 0) hx hb hr (ju_nz false) (fun t ht hW => ⟨congrArg (fun z => Outcome.returned (some (Value.int (bI z)))) (Option.some.inj hf), ht⟩) (fun q h => nomatch h) d_M_isImmediate_289
                              · replace hf := (if_neg c_37).symm.trans hf
                                refine lv_iconst (v := 1) hx hb d_M_isImmediate_284 (by decide) ?_
                                refine lv_goto (tgt := 289) hx hb d_M_isImmediate_285 (by decide) ?_
                                exact W.zret (v := 1) hx hb hr (ju_nz true) (fun t ht hW => ⟨congrArg (fun z => Outcome.returned (some (Value.int (bI z)))) (Option.some.inj hf), ht⟩) (fun q h => nomatch h) d_M_isImmediate_289
                          · replace hf := (if_neg c_33).symm.trans hf
                            by_cases c_38 : a0 = 56
                            · replace hf := (if_pos c_38).symm.trans hf
                              refine lv_tableIn (tgt := 290) hx hb d_M_isImmediate_91 (by rw [c_38]; decide) (by rw [c_38]; decide) (by rw [c_38] <;> rfl) (by decide) ?_
                              refine lv_lload_n hx hb d_M_isImmediate_290 rfl (lv_at hl 1 rfl) ?_
                              refine lv_lconst (v := 1) hx hb d_M_isImmediate_291 (by decide) ?_
                              refine lv_ldc2 (v := 31) hx hb hown (ht aw_501) d_M_isImmediate_292 ?_
                              refine lv_lconst (v := 1) hx hb d_M_isImmediate_295 (by decide) ?_
                              obtain ⟨r_39, g_40, hf⟩ := Option.bind_eq_some_iff.mp hf
                              refine ju_calli (W.runS (As := [.long (a1), .long (1), .long (31), .long (1)]) (rest := []) ⟨hx, hb, hml, hown, hts⟩ (c_M_isStep l (ad := ad) (sk := sk) (sv := sv) (tK := tK)  a1 1 31 1  r_39 g_40) (va_cwS 4 hts (aw_S aw_493 aw_494 aw_2 aw_495) rfl rfl rfl (by decide +kernel) ⟨Nat.le_of_ble_eq_true rfl, Nat.le_of_ble_eq_true rfl⟩) ⟨fun a U g mk q => ⟨q.1, q.2.call⟩, fun U hU hW => ⟨rfl, hT.at hS hU hW (fun _ z => z.elim)⟩⟩ rfl rfl hl.1 rfl (lv_room (Nat.le_of_ble_eq_true rfl)) d_M_isImmediate_296 ⟨Nat.le_refl _, Nat.le_refl _⟩) ?_
                              refine lv_if_ne (tgt := 316) hx hb d_M_isImmediate_299 (by decide) (fun c_41 => ?_) (fun c_41 => ?_)
                              · replace hf := (if_neg c_41).symm.trans hf
                                refine lv_iconst (v := 1) hx hb d_M_isImmediate_316 (by decide) ?_
                                refine lv_goto (tgt := 321) hx hb d_M_isImmediate_317 (by decide) ?_
                                exact W.zret (v := 1) hx hb hr (ju_nz true) (fun t ht hW => ⟨congrArg (fun z => Outcome.returned (some (Value.int (bI z)))) (Option.some.inj hf), ht⟩) (fun q h => nomatch h) d_M_isImmediate_321
                              · replace hf := (if_pos c_41).symm.trans hf
                                refine lv_lload_n hx hb d_M_isImmediate_302 rfl (lv_at hl 1 rfl) ?_
                                refine lv_ldc2 (v := 1048544) hx hb hown (ht aw_512) d_M_isImmediate_303 ?_
                                refine lv_ldc2 (v := 1048575) hx hb hown (ht aw_492) d_M_isImmediate_306 ?_
                                refine lv_lconst (v := 1) hx hb d_M_isImmediate_309 (by decide) ?_
                                obtain ⟨r_42, g_43, hf⟩ := Option.bind_eq_some_iff.mp hf
                                refine ju_calli (W.runS (As := [.long (a1), .long (1048544), .long (1048575), .long (1)]) (rest := []) ⟨hx, hb, hml, hown, hts⟩ (c_M_isStep l (ad := ad) (sk := sk) (sv := sv) (tK := tK)  a1 1048544 1048575 1  r_42 g_43) (va_cwS 4 hts (aw_S aw_493 aw_494 aw_2 aw_495) rfl rfl rfl (by decide +kernel) ⟨Nat.le_of_ble_eq_true rfl, Nat.le_of_ble_eq_true rfl⟩) ⟨fun a U g mk q => ⟨q.1, q.2.call⟩, fun U hU hW => ⟨rfl, hT.at hS hU hW (fun _ z => z.elim)⟩⟩ rfl rfl hl.1 rfl (lv_room (Nat.le_of_ble_eq_true rfl)) d_M_isImmediate_310 ⟨Nat.le_refl _, Nat.le_refl _⟩) ?_
                                refine lv_if_eq (tgt := 320) hx hb d_M_isImmediate_313 (by decide) (fun c_44 => ?_) (fun c_44 => ?_)
                                · replace hf := (if_pos c_44).symm.trans hf
                                  refine lv_iconst (v := 0) hx hb d_M_isImmediate_320 (by decide) ?_
                                  exact W.zret (v := 0) hx hb hr (ju_nz false) (fun t ht hW => ⟨congrArg (fun z => Outcome.returned (some (Value.int (bI z)))) (Option.some.inj hf), ht⟩) (fun q h => nomatch h) d_M_isImmediate_321
                                · replace hf := (if_neg c_44).symm.trans hf
                                  refine lv_iconst (v := 1) hx hb d_M_isImmediate_316 (by decide) ?_
                                  refine lv_goto (tgt := 321) hx hb d_M_isImmediate_317 (by decide) ?_
                                  exact W.zret (v := 1) hx hb hr (ju_nz true) (fun t ht hW => ⟨congrArg (fun z => Outcome.returned (some (Value.int (bI z)))) (Option.some.inj hf), ht⟩) (fun q h => nomatch h) d_M_isImmediate_321
                            · replace hf := (if_neg c_38).symm.trans hf
                              by_cases c_45 : a0 = 57
                              · replace hf := (if_pos c_45).symm.trans hf
                                refine lv_tableIn (tgt := 322) hx hb d_M_isImmediate_91 (by rw [c_45]; decide) (by rw [c_45]; decide) (by rw [c_45] <;> rfl) (by decide) ?_
                                refine lv_lload_n hx hb d_M_isImmediate_322 rfl (lv_at hl 1 rfl) ?_
                                refine lv_lconst (v := 1) hx hb d_M_isImmediate_323 (by decide) ?_
                                refine lv_ldc2 (v := 31) hx hb hown (ht aw_501) d_M_isImmediate_324 ?_
                                refine lv_lconst (v := 1) hx hb d_M_isImmediate_327 (by decide) ?_
                                obtain ⟨r_46, g_47, hf⟩ := Option.bind_eq_some_iff.mp hf
                                refine ju_calli (W.runS (As := [.long (a1), .long (1), .long (31), .long (1)]) (rest := []) ⟨hx, hb, hml, hown, hts⟩ (c_M_isStep l (ad := ad) (sk := sk) (sv := sv) (tK := tK)  a1 1 31 1  r_46 g_47) (va_cwS 4 hts (aw_S aw_493 aw_494 aw_2 aw_495) rfl rfl rfl (by decide +kernel) ⟨Nat.le_of_ble_eq_true rfl, Nat.le_of_ble_eq_true rfl⟩) ⟨fun a U g mk q => ⟨q.1, q.2.call⟩, fun U hU hW => ⟨rfl, hT.at hS hU hW (fun _ z => z.elim)⟩⟩ rfl rfl hl.1 rfl (lv_room (Nat.le_of_ble_eq_true rfl)) d_M_isImmediate_328 ⟨Nat.le_refl _, Nat.le_refl _⟩) ?_
                                exact W.zret (v := bI r_46) hx hb hr (ju_nz r_46) (fun t ht hW => ⟨congrArg (fun z => Outcome.returned (some (Value.int (bI z)))) (Option.some.inj hf), ht⟩) (fun q h => nomatch h) d_M_isImmediate_331
                              · replace hf := (if_neg c_45).symm.trans hf
                                by_cases c_48 : a0 = 58
                                · replace hf := (if_pos c_48).symm.trans hf
                                  refine lv_tableIn (tgt := 322) hx hb d_M_isImmediate_91 (by rw [c_48]; decide) (by rw [c_48]; decide) (by rw [c_48] <;> rfl) (by decide) ?_
                                  refine lv_lload_n hx hb d_M_isImmediate_322 rfl (lv_at hl 1 rfl) ?_
                                  refine lv_lconst (v := 1) hx hb d_M_isImmediate_323 (by decide) ?_
                                  refine lv_ldc2 (v := 31) hx hb hown (ht aw_501) d_M_isImmediate_324 ?_
                                  refine lv_lconst (v := 1) hx hb d_M_isImmediate_327 (by decide) ?_
                                  obtain ⟨r_49, g_50, hf⟩ := Option.bind_eq_some_iff.mp hf
                                  refine ju_calli (W.runS (As := [.long (a1), .long (1), .long (31), .long (1)]) (rest := []) ⟨hx, hb, hml, hown, hts⟩ (c_M_isStep l (ad := ad) (sk := sk) (sv := sv) (tK := tK)  a1 1 31 1  r_49 g_50) (va_cwS 4 hts (aw_S aw_493 aw_494 aw_2 aw_495) rfl rfl rfl (by decide +kernel) ⟨Nat.le_of_ble_eq_true rfl, Nat.le_of_ble_eq_true rfl⟩) ⟨fun a U g mk q => ⟨q.1, q.2.call⟩, fun U hU hW => ⟨rfl, hT.at hS hU hW (fun _ z => z.elim)⟩⟩ rfl rfl hl.1 rfl (lv_room (Nat.le_of_ble_eq_true rfl)) d_M_isImmediate_328 ⟨Nat.le_refl _, Nat.le_refl _⟩) ?_
                                  exact W.zret (v := bI r_49) hx hb hr (ju_nz r_49) (fun t ht hW => ⟨congrArg (fun z => Outcome.returned (some (Value.int (bI z)))) (Option.some.inj hf), ht⟩) (fun q h => nomatch h) d_M_isImmediate_331
                                · replace hf := (if_neg c_48).symm.trans hf
                                  by_cases c_51 : a0 = 59
                                  · replace hf := (if_pos c_51).symm.trans hf
                                    refine lv_tableIn (tgt := 250) hx hb d_M_isImmediate_91 (by rw [c_51]; decide) (by rw [c_51]; decide) (by rw [c_51] <;> rfl) (by decide) ?_
                                    refine lv_lload_n hx hb d_M_isImmediate_250 rfl (lv_at hl 1 rfl) ?_
                                    refine lv_ldc2 (v := (-32)) hx hb hown (ht aw_507) d_M_isImmediate_251 ?_
                                    refine lv_ldc2 (v := 31) hx hb hown (ht aw_501) d_M_isImmediate_254 ?_
                                    refine lv_lconst (v := 1) hx hb d_M_isImmediate_257 (by decide) ?_
                                    obtain ⟨r_52, g_53, hf⟩ := Option.bind_eq_some_iff.mp hf
                                    refine ju_calli (W.runS (As := [.long (a1), .long ((-32)), .long (31), .long (1)]) (rest := []) ⟨hx, hb, hml, hown, hts⟩ (c_M_isStep l (ad := ad) (sk := sk) (sv := sv) (tK := tK)  a1 ((-32)) 31 1  r_52 g_53) (va_cwS 4 hts (aw_S aw_493 aw_494 aw_2 aw_495) rfl rfl rfl (by decide +kernel) ⟨Nat.le_of_ble_eq_true rfl, Nat.le_of_ble_eq_true rfl⟩) ⟨fun a U g mk q => ⟨q.1, q.2.call⟩, fun U hU hW => ⟨rfl, hT.at hS hU hW (fun _ z => z.elim)⟩⟩ rfl rfl hl.1 rfl (lv_room (Nat.le_of_ble_eq_true rfl)) d_M_isImmediate_258 ⟨Nat.le_refl _, Nat.le_refl _⟩) ?_
                                    exact W.zret (v := bI r_52) hx hb hr (ju_nz r_52) (fun t ht hW => ⟨congrArg (fun z => Outcome.returned (some (Value.int (bI z)))) (Option.some.inj hf), ht⟩) (fun q h => nomatch h) d_M_isImmediate_261
                                  · replace hf := (if_neg c_51).symm.trans hf
                                    by_cases c_54 : a0 = 60
                                    · replace hf := (if_pos c_54).symm.trans hf
                                      refine lv_tableIn (tgt := 346) hx hb d_M_isImmediate_91 (by rw [c_54]; decide) (by rw [c_54]; decide) (by rw [c_54] <;> rfl) (by decide) ?_
                                      refine lv_lload_n hx hb d_M_isImmediate_346 rfl (lv_at hl 1 rfl) ?_
                                      refine lv_lconst (v := 0) hx hb d_M_isImmediate_347 (by decide) ?_
                                      refine lv_ldc2 (v := 252) hx hb hown (ht aw_515) d_M_isImmediate_348 ?_
                                      refine lv_ldc2 (v := 4) hx hb hown (ht aw_504) d_M_isImmediate_351 ?_
                                      obtain ⟨r_55, g_56, hf⟩ := Option.bind_eq_some_iff.mp hf
                                      refine ju_calli (W.runS (As := [.long (a1), .long (0), .long (252), .long (4)]) (rest := []) ⟨hx, hb, hml, hown, hts⟩ (c_M_isStep l (ad := ad) (sk := sk) (sv := sv) (tK := tK)  a1 0 252 4  r_55 g_56) (va_cwS 4 hts (aw_S aw_493 aw_494 aw_2 aw_495) rfl rfl rfl (by decide +kernel) ⟨Nat.le_of_ble_eq_true rfl, Nat.le_of_ble_eq_true rfl⟩) ⟨fun a U g mk q => ⟨q.1, q.2.call⟩, fun U hU hW => ⟨rfl, hT.at hS hU hW (fun _ z => z.elim)⟩⟩ rfl rfl hl.1 rfl (lv_room (Nat.le_of_ble_eq_true rfl)) d_M_isImmediate_354 ⟨Nat.le_refl _, Nat.le_refl _⟩) ?_
                                      exact W.zret (v := bI r_55) hx hb hr (ju_nz r_55) (fun t ht hW => ⟨congrArg (fun z => Outcome.returned (some (Value.int (bI z)))) (Option.some.inj hf), ht⟩) (fun q h => nomatch h) d_M_isImmediate_357
                                    · replace hf := (if_neg c_54).symm.trans hf
                                      by_cases c_57 : a0 = 61
                                      · replace hf := (if_pos c_57).symm.trans hf
                                        refine lv_tableIn (tgt := 346) hx hb d_M_isImmediate_91 (by rw [c_57]; decide) (by rw [c_57]; decide) (by rw [c_57] <;> rfl) (by decide) ?_
                                        refine lv_lload_n hx hb d_M_isImmediate_346 rfl (lv_at hl 1 rfl) ?_
                                        refine lv_lconst (v := 0) hx hb d_M_isImmediate_347 (by decide) ?_
                                        refine lv_ldc2 (v := 252) hx hb hown (ht aw_515) d_M_isImmediate_348 ?_
                                        refine lv_ldc2 (v := 4) hx hb hown (ht aw_504) d_M_isImmediate_351 ?_
                                        obtain ⟨r_58, g_59, hf⟩ := Option.bind_eq_some_iff.mp hf
                                        refine ju_calli (W.runS (As := [.long (a1), .long (0), .long (252), .long (4)]) (rest := []) ⟨hx, hb, hml, hown, hts⟩ (c_M_isStep l (ad := ad) (sk := sk) (sv := sv) (tK := tK)  a1 0 252 4  r_58 g_59) (va_cwS 4 hts (aw_S aw_493 aw_494 aw_2 aw_495) rfl rfl rfl (by decide +kernel) ⟨Nat.le_of_ble_eq_true rfl, Nat.le_of_ble_eq_true rfl⟩) ⟨fun a U g mk q => ⟨q.1, q.2.call⟩, fun U hU hW => ⟨rfl, hT.at hS hU hW (fun _ z => z.elim)⟩⟩ rfl rfl hl.1 rfl (lv_room (Nat.le_of_ble_eq_true rfl)) d_M_isImmediate_354 ⟨Nat.le_refl _, Nat.le_refl _⟩) ?_
                                        exact W.zret (v := bI r_58) hx hb hr (ju_nz r_58) (fun t ht hW => ⟨congrArg (fun z => Outcome.returned (some (Value.int (bI z)))) (Option.some.inj hf), ht⟩) (fun q h => nomatch h) d_M_isImmediate_357
                                      · replace hf := (if_neg c_57).symm.trans hf
                                        by_cases c_60 : a0 = 62
                                        · replace hf := (if_pos c_60).symm.trans hf
                                          refine lv_tableIn (tgt := 346) hx hb d_M_isImmediate_91 (by rw [c_60]; decide) (by rw [c_60]; decide) (by rw [c_60] <;> rfl) (by decide) ?_
                                          refine lv_lload_n hx hb d_M_isImmediate_346 rfl (lv_at hl 1 rfl) ?_
                                          refine lv_lconst (v := 0) hx hb d_M_isImmediate_347 (by decide) ?_
                                          refine lv_ldc2 (v := 252) hx hb hown (ht aw_515) d_M_isImmediate_348 ?_
                                          refine lv_ldc2 (v := 4) hx hb hown (ht aw_504) d_M_isImmediate_351 ?_
                                          obtain ⟨r_61, g_62, hf⟩ := Option.bind_eq_some_iff.mp hf
                                          refine ju_calli (W.runS (As := [.long (a1), .long (0), .long (252), .long (4)]) (rest := []) ⟨hx, hb, hml, hown, hts⟩ (c_M_isStep l (ad := ad) (sk := sk) (sv := sv) (tK := tK)  a1 0 252 4  r_61 g_62) (va_cwS 4 hts (aw_S aw_493 aw_494 aw_2 aw_495) rfl rfl rfl (by decide +kernel) ⟨Nat.le_of_ble_eq_true rfl, Nat.le_of_ble_eq_true rfl⟩) ⟨fun a U g mk q => ⟨q.1, q.2.call⟩, fun U hU hW => ⟨rfl, hT.at hS hU hW (fun _ z => z.elim)⟩⟩ rfl rfl hl.1 rfl (lv_room (Nat.le_of_ble_eq_true rfl)) d_M_isImmediate_354 ⟨Nat.le_refl _, Nat.le_refl _⟩) ?_
                                          exact W.zret (v := bI r_61) hx hb hr (ju_nz r_61) (fun t ht hW => ⟨congrArg (fun z => Outcome.returned (some (Value.int (bI z)))) (Option.some.inj hf), ht⟩) (fun q h => nomatch h) d_M_isImmediate_357
                                        · replace hf := (if_neg c_60).symm.trans hf
                                          by_cases c_63 : a0 = 63
                                          · replace hf := (if_pos c_63).symm.trans hf
                                            refine lv_tableIn (tgt := 346) hx hb d_M_isImmediate_91 (by rw [c_63]; decide) (by rw [c_63]; decide) (by rw [c_63] <;> rfl) (by decide) ?_
                                            refine lv_lload_n hx hb d_M_isImmediate_346 rfl (lv_at hl 1 rfl) ?_
                                            refine lv_lconst (v := 0) hx hb d_M_isImmediate_347 (by decide) ?_
                                            refine lv_ldc2 (v := 252) hx hb hown (ht aw_515) d_M_isImmediate_348 ?_
                                            refine lv_ldc2 (v := 4) hx hb hown (ht aw_504) d_M_isImmediate_351 ?_
                                            obtain ⟨r_64, g_65, hf⟩ := Option.bind_eq_some_iff.mp hf
                                            refine ju_calli (W.runS (As := [.long (a1), .long (0), .long (252), .long (4)]) (rest := []) ⟨hx, hb, hml, hown, hts⟩ (c_M_isStep l (ad := ad) (sk := sk) (sv := sv) (tK := tK)  a1 0 252 4  r_64 g_65) (va_cwS 4 hts (aw_S aw_493 aw_494 aw_2 aw_495) rfl rfl rfl (by decide +kernel) ⟨Nat.le_of_ble_eq_true rfl, Nat.le_of_ble_eq_true rfl⟩) ⟨fun a U g mk q => ⟨q.1, q.2.call⟩, fun U hU hW => ⟨rfl, hT.at hS hU hW (fun _ z => z.elim)⟩⟩ rfl rfl hl.1 rfl (lv_room (Nat.le_of_ble_eq_true rfl)) d_M_isImmediate_354 ⟨Nat.le_refl _, Nat.le_refl _⟩) ?_
                                            exact W.zret (v := bI r_64) hx hb hr (ju_nz r_64) (fun t ht hW => ⟨congrArg (fun z => Outcome.returned (some (Value.int (bI z)))) (Option.some.inj hf), ht⟩) (fun q h => nomatch h) d_M_isImmediate_357
                                          · replace hf := (if_neg c_63).symm.trans hf
                                            by_cases c_66 : a0 = 64
                                            · replace hf := (if_pos c_66).symm.trans hf
                                              refine lv_tableIn (tgt := 236) hx hb d_M_isImmediate_91 (by rw [c_66]; decide) (by rw [c_66]; decide) (by rw [c_66] <;> rfl) (by decide) ?_
                                              refine lv_lload_n hx hb d_M_isImmediate_236 rfl (lv_at hl 1 rfl) ?_
                                              refine lv_ldc2 (v := (-2048)) hx hb hown (ht aw_502) d_M_isImmediate_237 ?_
                                              refine lv_ldc2 (v := 2046) hx hb hown (ht aw_508) d_M_isImmediate_240 ?_
                                              refine lv_ldc2 (v := 2) hx hb hown (ht aw_498) d_M_isImmediate_243 ?_
                                              obtain ⟨r_67, g_68, hf⟩ := Option.bind_eq_some_iff.mp hf
                                              refine ju_calli (W.runS (As := [.long (a1), .long ((-2048)), .long (2046), .long (2)]) (rest := []) ⟨hx, hb, hml, hown, hts⟩ (c_M_isStep l (ad := ad) (sk := sk) (sv := sv) (tK := tK)  a1 ((-2048)) 2046 2  r_67 g_68) (va_cwS 4 hts (aw_S aw_493 aw_494 aw_2 aw_495) rfl rfl rfl (by decide +kernel) ⟨Nat.le_of_ble_eq_true rfl, Nat.le_of_ble_eq_true rfl⟩) ⟨fun a U g mk q => ⟨q.1, q.2.call⟩, fun U hU hW => ⟨rfl, hT.at hS hU hW (fun _ z => z.elim)⟩⟩ rfl rfl hl.1 rfl (lv_room (Nat.le_of_ble_eq_true rfl)) d_M_isImmediate_246 ⟨Nat.le_refl _, Nat.le_refl _⟩) ?_
                                              exact W.zret (v := bI r_67) hx hb hr (ju_nz r_67) (fun t ht hW => ⟨congrArg (fun z => Outcome.returned (some (Value.int (bI z)))) (Option.some.inj hf), ht⟩) (fun q h => nomatch h) d_M_isImmediate_249
                                            · replace hf := (if_neg c_66).symm.trans hf
                                              by_cases c_69 : a0 = 65
                                              · replace hf := (if_pos c_69).symm.trans hf
                                                refine lv_tableIn (tgt := 332) hx hb d_M_isImmediate_91 (by rw [c_69]; decide) (by rw [c_69]; decide) (by rw [c_69] <;> rfl) (by decide) ?_
                                                refine lv_lload_n hx hb d_M_isImmediate_332 rfl (lv_at hl 1 rfl) ?_
                                                refine lv_ldc2 (v := (-256)) hx hb hown (ht aw_513) d_M_isImmediate_333 ?_
                                                refine lv_ldc2 (v := 254) hx hb hown (ht aw_514) d_M_isImmediate_336 ?_
                                                refine lv_ldc2 (v := 2) hx hb hown (ht aw_498) d_M_isImmediate_339 ?_
                                                obtain ⟨r_70, g_71, hf⟩ := Option.bind_eq_some_iff.mp hf
                                                refine ju_calli (W.runS (As := [.long (a1), .long ((-256)), .long (254), .long (2)]) (rest := []) ⟨hx, hb, hml, hown, hts⟩ (c_M_isStep l (ad := ad) (sk := sk) (sv := sv) (tK := tK)  a1 ((-256)) 254 2  r_70 g_71) (va_cwS 4 hts (aw_S aw_493 aw_494 aw_2 aw_495) rfl rfl rfl (by decide +kernel) ⟨Nat.le_of_ble_eq_true rfl, Nat.le_of_ble_eq_true rfl⟩) ⟨fun a U g mk q => ⟨q.1, q.2.call⟩, fun U hU hW => ⟨rfl, hT.at hS hU hW (fun _ z => z.elim)⟩⟩ rfl rfl hl.1 rfl (lv_room (Nat.le_of_ble_eq_true rfl)) d_M_isImmediate_342 ⟨Nat.le_refl _, Nat.le_refl _⟩) ?_
                                                exact W.zret (v := bI r_70) hx hb hr (ju_nz r_70) (fun t ht hW => ⟨congrArg (fun z => Outcome.returned (some (Value.int (bI z)))) (Option.some.inj hf), ht⟩) (fun q h => nomatch h) d_M_isImmediate_345
                                              · replace hf := (if_neg c_69).symm.trans hf
                                                by_cases c_72 : a0 = 66
                                                · replace hf := (if_pos c_72).symm.trans hf
                                                  refine lv_tableIn (tgt := 332) hx hb d_M_isImmediate_91 (by rw [c_72]; decide) (by rw [c_72]; decide) (by rw [c_72] <;> rfl) (by decide) ?_
                                                  refine lv_lload_n hx hb d_M_isImmediate_332 rfl (lv_at hl 1 rfl) ?_
                                                  refine lv_ldc2 (v := (-256)) hx hb hown (ht aw_513) d_M_isImmediate_333 ?_
                                                  refine lv_ldc2 (v := 254) hx hb hown (ht aw_514) d_M_isImmediate_336 ?_
                                                  refine lv_ldc2 (v := 2) hx hb hown (ht aw_498) d_M_isImmediate_339 ?_
                                                  obtain ⟨r_73, g_74, hf⟩ := Option.bind_eq_some_iff.mp hf
                                                  refine ju_calli (W.runS (As := [.long (a1), .long ((-256)), .long (254), .long (2)]) (rest := []) ⟨hx, hb, hml, hown, hts⟩ (c_M_isStep l (ad := ad) (sk := sk) (sv := sv) (tK := tK)  a1 ((-256)) 254 2  r_73 g_74) (va_cwS 4 hts (aw_S aw_493 aw_494 aw_2 aw_495) rfl rfl rfl (by decide +kernel) ⟨Nat.le_of_ble_eq_true rfl, Nat.le_of_ble_eq_true rfl⟩) ⟨fun a U g mk q => ⟨q.1, q.2.call⟩, fun U hU hW => ⟨rfl, hT.at hS hU hW (fun _ z => z.elim)⟩⟩ rfl rfl hl.1 rfl (lv_room (Nat.le_of_ble_eq_true rfl)) d_M_isImmediate_342 ⟨Nat.le_refl _, Nat.le_refl _⟩) ?_
                                                  exact W.zret (v := bI r_73) hx hb hr (ju_nz r_73) (fun t ht hW => ⟨congrArg (fun z => Outcome.returned (some (Value.int (bI z)))) (Option.some.inj hf), ht⟩) (fun q h => nomatch h) d_M_isImmediate_345
                                                · replace hf := (if_neg c_72).symm.trans hf
                                                  by_cases c_75 : a0 = 67
                                                  · replace hf := (if_pos c_75).symm.trans hf
                                                    refine lv_tableIn (tgt := 322) hx hb d_M_isImmediate_91 (by rw [c_75]; decide) (by rw [c_75]; decide) (by rw [c_75] <;> rfl) (by decide) ?_
                                                    refine lv_lload_n hx hb d_M_isImmediate_322 rfl (lv_at hl 1 rfl) ?_
                                                    refine lv_lconst (v := 1) hx hb d_M_isImmediate_323 (by decide) ?_
                                                    refine lv_ldc2 (v := 31) hx hb hown (ht aw_501) d_M_isImmediate_324 ?_
                                                    refine lv_lconst (v := 1) hx hb d_M_isImmediate_327 (by decide) ?_
                                                    obtain ⟨r_76, g_77, hf⟩ := Option.bind_eq_some_iff.mp hf
                                                    refine ju_calli (W.runS (As := [.long (a1), .long (1), .long (31), .long (1)]) (rest := []) ⟨hx, hb, hml, hown, hts⟩ (c_M_isStep l (ad := ad) (sk := sk) (sv := sv) (tK := tK)  a1 1 31 1  r_76 g_77) (va_cwS 4 hts (aw_S aw_493 aw_494 aw_2 aw_495) rfl rfl rfl (by decide +kernel) ⟨Nat.le_of_ble_eq_true rfl, Nat.le_of_ble_eq_true rfl⟩) ⟨fun a U g mk q => ⟨q.1, q.2.call⟩, fun U hU hW => ⟨rfl, hT.at hS hU hW (fun _ z => z.elim)⟩⟩ rfl rfl hl.1 rfl (lv_room (Nat.le_of_ble_eq_true rfl)) d_M_isImmediate_328 ⟨Nat.le_refl _, Nat.le_refl _⟩) ?_
                                                    exact W.zret (v := bI r_76) hx hb hr (ju_nz r_76) (fun t ht hW => ⟨congrArg (fun z => Outcome.returned (some (Value.int (bI z)))) (Option.some.inj hf), ht⟩) (fun q h => nomatch h) d_M_isImmediate_331
                                                  · replace hf := (if_neg c_75).symm.trans hf
                                                    refine lv_tableOut (tgt := 346) hx hb d_M_isImmediate_91 (by have q0 := lv_neT c_10 (k := 48) (a := 48) rfl; have q1 := lv_neT c_13 (k := 49) (a := 49) rfl; have q2 := lv_neT c_16 (k := 50) (a := 50) rfl; have q3 := lv_neT c_19 (k := 51) (a := 51) rfl; have q4 := lv_neT c_22 (k := 52) (a := 52) rfl; have q5 := lv_neT c_27 (k := 53) (a := 53) rfl; have q6 := lv_neT c_30 (k := 54) (a := 54) rfl; have q7 := lv_neT c_33 (k := 55) (a := 55) rfl; have q8 := lv_neT c_38 (k := 56) (a := 56) rfl; have q9 := lv_neT c_45 (k := 57) (a := 57) rfl; have q10 := lv_neT c_48 (k := 58) (a := 58) rfl; have q11 := lv_neT c_51 (k := 59) (a := 59) rfl; have q12 := lv_neT c_54 (k := 60) (a := 60) rfl; have q13 := lv_neT c_57 (k := 61) (a := 61) rfl; have q14 := lv_neT c_60 (k := 62) (a := 62) rfl; have q15 := lv_neT c_63 (k := 63) (a := 63) rfl; have q16 := lv_neT c_66 (k := 64) (a := 64) rfl; have q17 := lv_neT c_69 (k := 65) (a := 65) rfl; have q18 := lv_neT c_72 (k := 66) (a := 66) rfl; have q19 := lv_neT c_75 (k := 67) (a := 67) rfl; omega) (by decide) ?_
                                                    refine lv_lload_n hx hb d_M_isImmediate_346 rfl (lv_at hl 1 rfl) ?_
                                                    refine lv_lconst (v := 0) hx hb d_M_isImmediate_347 (by decide) ?_
                                                    refine lv_ldc2 (v := 252) hx hb hown (ht aw_515) d_M_isImmediate_348 ?_
                                                    refine lv_ldc2 (v := 4) hx hb hown (ht aw_504) d_M_isImmediate_351 ?_
                                                    obtain ⟨r_78, g_79, hf⟩ := Option.bind_eq_some_iff.mp hf
                                                    refine ju_calli (W.runS (As := [.long (a1), .long (0), .long (252), .long (4)]) (rest := []) ⟨hx, hb, hml, hown, hts⟩ (c_M_isStep l (ad := ad) (sk := sk) (sv := sv) (tK := tK)  a1 0 252 4  r_78 g_79) (va_cwS 4 hts (aw_S aw_493 aw_494 aw_2 aw_495) rfl rfl rfl (by decide +kernel) ⟨Nat.le_of_ble_eq_true rfl, Nat.le_of_ble_eq_true rfl⟩) ⟨fun a U g mk q => ⟨q.1, q.2.call⟩, fun U hU hW => ⟨rfl, hT.at hS hU hW (fun _ z => z.elim)⟩⟩ rfl rfl hl.1 rfl (lv_room (Nat.le_of_ble_eq_true rfl)) d_M_isImmediate_354 ⟨Nat.le_refl _, Nat.le_refl _⟩) ?_
                                                    exact W.zret (v := bI r_78) hx hb hr (ju_nz r_78) (fun t ht hW => ⟨congrArg (fun z => Outcome.returned (some (Value.int (bI z)))) (Option.some.inj hf), ht⟩) (fun q h => nomatch h) d_M_isImmediate_357
          · replace hf := (if_neg c_9).symm.trans hf
            refine lv_lload_n hx hb d_M_isImmediate_78 rfl (lv_at hl 1 rfl) ?_
            refine lv_ldc2 (v := (-2048)) hx hb hown (ht aw_502) d_M_isImmediate_79 ?_
            refine lv_ldc2 (v := 2047) hx hb hown (ht aw_503) d_M_isImmediate_82 ?_
            refine lv_lconst (v := 1) hx hb d_M_isImmediate_85 (by decide) ?_
            obtain ⟨r_80, g_81, hf⟩ := Option.bind_eq_some_iff.mp hf
            refine ju_calli (W.runS (As := [.long (a1), .long ((-2048)), .long (2047), .long (1)]) (rest := []) ⟨hx, hb, hml, hown, hts⟩ (c_M_isStep l (ad := ad) (sk := sk) (sv := sv) (tK := tK)  a1 ((-2048)) 2047 1  r_80 g_81) (va_cwS 4 hts (aw_S aw_493 aw_494 aw_2 aw_495) rfl rfl rfl (by decide +kernel) ⟨Nat.le_of_ble_eq_true rfl, Nat.le_of_ble_eq_true rfl⟩) ⟨fun a U g mk q => ⟨q.1, q.2.call⟩, fun U hU hW => ⟨rfl, hT.at hS hU hW (fun _ z => z.elim)⟩⟩ rfl rfl hl.1 rfl (lv_room (Nat.le_of_ble_eq_true rfl)) d_M_isImmediate_86 ⟨Nat.le_refl _, Nat.le_refl _⟩) ?_
            exact W.zret (v := bI r_80) hx hb hr (ju_nz r_80) (fun t ht hW => ⟨congrArg (fun z => Outcome.returned (some (Value.int (bI z)))) (Option.some.inj hf), ht⟩) (fun q h => nomatch h) d_M_isImmediate_89
        · replace hf := (if_neg c_8).symm.trans hf
          refine lv_lload_n hx hb d_M_isImmediate_62 rfl (lv_at hl 1 rfl) ?_
          refine lv_lconst (v := 0) hx hb d_M_isImmediate_63 (by decide) ?_
          refine lv_ldc2 (v := 31) hx hb hown (ht aw_501) d_M_isImmediate_64 ?_
          refine lv_lconst (v := 1) hx hb d_M_isImmediate_67 (by decide) ?_
          obtain ⟨r_82, g_83, hf⟩ := Option.bind_eq_some_iff.mp hf
          refine ju_calli (W.runS (As := [.long (a1), .long (0), .long (31), .long (1)]) (rest := []) ⟨hx, hb, hml, hown, hts⟩ (c_M_isStep l (ad := ad) (sk := sk) (sv := sv) (tK := tK)  a1 0 31 1  r_82 g_83) (va_cwS 4 hts (aw_S aw_493 aw_494 aw_2 aw_495) rfl rfl rfl (by decide +kernel) ⟨Nat.le_of_ble_eq_true rfl, Nat.le_of_ble_eq_true rfl⟩) ⟨fun a U g mk q => ⟨q.1, q.2.call⟩, fun U hU hW => ⟨rfl, hT.at hS hU hW (fun _ z => z.elim)⟩⟩ rfl rfl hl.1 rfl (lv_room (Nat.le_of_ble_eq_true rfl)) d_M_isImmediate_68 ⟨Nat.le_refl _, Nat.le_refl _⟩) ?_
          exact W.zret (v := bI r_82) hx hb hr (ju_nz r_82) (fun t ht hW => ⟨congrArg (fun z => Outcome.returned (some (Value.int (bI z)))) (Option.some.inj hf), ht⟩) (fun q h => nomatch h) d_M_isImmediate_71
      · replace hf := (if_neg c_5).symm.trans hf
        refine lv_lload_n hx hb d_M_isImmediate_41 rfl (lv_at hl 1 rfl) ?_
        refine lv_ldc2 (v := (-4096)) hx hb hown (ht aw_499) d_M_isImmediate_42 ?_
        refine lv_ldc2 (v := 4094) hx hb hown (ht aw_500) d_M_isImmediate_45 ?_
        refine lv_ldc2 (v := 2) hx hb hown (ht aw_498) d_M_isImmediate_48 ?_
        obtain ⟨r_84, g_85, hf⟩ := Option.bind_eq_some_iff.mp hf
        refine ju_calli (W.runS (As := [.long (a1), .long ((-4096)), .long (4094), .long (2)]) (rest := []) ⟨hx, hb, hml, hown, hts⟩ (c_M_isStep l (ad := ad) (sk := sk) (sv := sv) (tK := tK)  a1 ((-4096)) 4094 2  r_84 g_85) (va_cwS 4 hts (aw_S aw_493 aw_494 aw_2 aw_495) rfl rfl rfl (by decide +kernel) ⟨Nat.le_of_ble_eq_true rfl, Nat.le_of_ble_eq_true rfl⟩) ⟨fun a U g mk q => ⟨q.1, q.2.call⟩, fun U hU hW => ⟨rfl, hT.at hS hU hW (fun _ z => z.elim)⟩⟩ rfl rfl hl.1 rfl (lv_room (Nat.le_of_ble_eq_true rfl)) d_M_isImmediate_51 ⟨Nat.le_refl _, Nat.le_refl _⟩) ?_
        exact W.zret (v := bI r_84) hx hb hr (ju_nz r_84) (fun t ht hW => ⟨congrArg (fun z => Outcome.returned (some (Value.int (bI z)))) (Option.some.inj hf), ht⟩) (fun q h => nomatch h) d_M_isImmediate_54
    · replace hf := (if_pos c_2).symm.trans hf
      refine lv_lload_n hx hb d_M_isImmediate_20 rfl (lv_at hl 1 rfl) ?_
      refine lv_ldc2 (v := (-1048576)) hx hb hown (ht aw_496) d_M_isImmediate_21 ?_
      refine lv_ldc2 (v := 1048574) hx hb hown (ht aw_497) d_M_isImmediate_24 ?_
      refine lv_ldc2 (v := 2) hx hb hown (ht aw_498) d_M_isImmediate_27 ?_
      obtain ⟨r_86, g_87, hf⟩ := Option.bind_eq_some_iff.mp hf
      refine ju_calli (W.runS (As := [.long (a1), .long ((-1048576)), .long (1048574), .long (2)]) (rest := []) ⟨hx, hb, hml, hown, hts⟩ (c_M_isStep l (ad := ad) (sk := sk) (sv := sv) (tK := tK)  a1 ((-1048576)) 1048574 2  r_86 g_87) (va_cwS 4 hts (aw_S aw_493 aw_494 aw_2 aw_495) rfl rfl rfl (by decide +kernel) ⟨Nat.le_of_ble_eq_true rfl, Nat.le_of_ble_eq_true rfl⟩) ⟨fun a U g mk q => ⟨q.1, q.2.call⟩, fun U hU hW => ⟨rfl, hT.at hS hU hW (fun _ z => z.elim)⟩⟩ rfl rfl hl.1 rfl (lv_room (Nat.le_of_ble_eq_true rfl)) d_M_isImmediate_30 ⟨Nat.le_refl _, Nat.le_refl _⟩) ?_
      exact W.zret (v := bI r_86) hx hb hr (ju_nz r_86) (fun t ht hW => ⟨congrArg (fun z => Outcome.returned (some (Value.int (bI z)))) (Option.some.inj hf), ht⟩) (fun q h => nomatch h) d_M_isImmediate_33
  · replace hf := (if_neg c_1).symm.trans hf
    refine lv_lload_n hx hb d_M_isImmediate_5 rfl (lv_at hl 1 rfl) ?_
    refine lv_lconst (v := 0) hx hb d_M_isImmediate_6 (by decide) ?_
    refine lv_ldc2 (v := 1048575) hx hb hown (ht aw_492) d_M_isImmediate_7 ?_
    refine lv_lconst (v := 1) hx hb d_M_isImmediate_10 (by decide) ?_
    obtain ⟨r_88, g_89, hf⟩ := Option.bind_eq_some_iff.mp hf
    refine ju_calli (W.runS (As := [.long (a1), .long (0), .long (1048575), .long (1)]) (rest := []) ⟨hx, hb, hml, hown, hts⟩ (c_M_isStep l (ad := ad) (sk := sk) (sv := sv) (tK := tK)  a1 0 1048575 1  r_88 g_89) (va_cwS 4 hts (aw_S aw_493 aw_494 aw_2 aw_495) rfl rfl rfl (by decide +kernel) ⟨Nat.le_of_ble_eq_true rfl, Nat.le_of_ble_eq_true rfl⟩) ⟨fun a U g mk q => ⟨q.1, q.2.call⟩, fun U hU hW => ⟨rfl, hT.at hS hU hW (fun _ z => z.elim)⟩⟩ rfl rfl hl.1 rfl (lv_room (Nat.le_of_ble_eq_true rfl)) d_M_isImmediate_11 ⟨Nat.le_refl _, Nat.le_refl _⟩) ?_
    exact W.zret (v := bI r_88) hx hb hr (ju_nz r_88) (fun t ht hW => ⟨congrArg (fun z => Outcome.returned (some (Value.int (bI z)))) (Option.some.inj hf), ht⟩) (fun q h => nomatch h) d_M_isImmediate_14

def f_M_signOf (a0 : Int32) : Option Int32 :=
  if a0 < 2 then (some ((-1))) else ((f_M_isShift a0).bind fun r_2 => if (bI r_2) = 0 then (if a0 = 2 then (some (20)) else (if 48 ≤ a0 then (if a0 = 52 then (some (5)) else ( if a0 = 53 then (some (11)) else ( if a0 = 54 then (some (5)) else ( if a0 = 55 then (some (9)) else ( if a0 = 56 then (some (5)) else ( if a0 = 57 then (some ((-1))) else ( if a0 = 58 then (some ((-1))) else ( if a0 = 59 then (some (5)) else ( if a0 = 60 then (some ((-1))) else ( if a0 = 61 then (some ((-1))) else ( if a0 = 62 then (some ((-1))) else ( if a0 = 63 then (some ((-1))) else ( if a0 = 64 then (some (11)) else ( if a0 = 65 then (some (8)) else ( if a0 = 66 then (some (8)) else (some ((-1)))))))))))))))))) else ((f_M_isBranch a0).bind fun r_22 => if (bI r_22) = 0 then (some (11)) else (some (12))))) else (some ((-1))))
set_option maxHeartbeats 4000000 in
set_option maxRecDepth 100000 in
theorem c_M_signOf (l : Launch) {ad sk sv : Nat → Nat} {tK : Nat} (a0 : Int32)  (r : Int32) (hf : f_M_signOf a0 = some r) : Met l y_M_signOf (Cond.code y_M_signOf b_M_signOf 1 (Option.some FieldType.int) :: aw) ({ frames := 1, cells := 0, slots := 0, locals := 20 } : Room) (va_Pc [.int (a0)] (fun U => tb ad sk sv tK (fun _ => False) U U.heap)) (QcRead r) 0 0 (fun _ => False) := by
  refine Met.ofW (cc := b_M_signOf) (maxL := 1) (ret := (Option.some FieldType.int)) (by decide) rfl ?_
  intro p e s m args below meth c s₁ B hml hv
  obtain ⟨rfl, hT⟩ := hv
  have hx := B.exec
  have hb := B.bytes
  have hr := B.returns
  have hts := atoms_spec (ws := (Cond.code y_M_signOf b_M_signOf 1 (Option.some FieldType.int) :: aw)) B.pre
  have ht : ∀ {w : Cond}, w ∈ aw → w.before ([.int (a0)] : List Value).toArray s = true := fun h => hts _ (List.mem_cons_of_mem _ h)
  have hown : s.vm.findClass "CodeWordsModel" = some m.cls := findClass_of_methodNamed B.named
  have hlocks := B.notSynchronized
  have hS : va_S (fun _ => False) s.heap s.heap [] := va_S.rf
  have hl := lv_entry ([.int (a0)]) (n := 1) (Nat.le_of_ble_eq_true rfl)
  rw [lg_entry_eq]
  generalize (lg_sl ([.int (a0)]) ++ List.replicate (1 - (lg_sl ([.int (a0)])).length) Slot.unset).toArray = ls at hl ⊢
  have hl : lv_has ls 1 [(0, .int (a0))] := hl
  rw [f_M_signOf] at hf
  refine lv_iload_n hx hb d_M_signOf_0 rfl (lv_at hl 0 rfl) ?_
  refine lv_iconst (v := 2) hx hb d_M_signOf_1 (by decide) ?_
  refine lv_icmp_lt (tgt := 12) hx hb d_M_signOf_2 (by decide) (fun c_1 => ?_) (fun c_1 => ?_)
  · replace hf := (if_pos c_1).symm.trans hf
    refine lv_iconst (v := (-1)) hx hb d_M_signOf_12 (by decide) ?_
    exact W.iret (v := (-1)) hx hb hr (fun t ht hW => ⟨congrArg (fun z => Outcome.returned (some (Value.int z))) (Option.some.inj hf), ht⟩) (fun q h => nomatch h) d_M_signOf_13
  · replace hf := (if_neg c_1).symm.trans hf
    refine lv_iload_n hx hb d_M_signOf_5 rfl (lv_at hl 0 rfl) ?_
    obtain ⟨r_2, g_3, hf⟩ := Option.bind_eq_some_iff.mp hf
    refine ju_calli (W.runS (As := [.int (a0)]) (rest := []) ⟨hx, hb, hml, hown, hts⟩ (c_M_isShift l (ad := ad) (sk := sk) (sv := sv) (tK := tK)  a0  r_2 g_3) (va_cwS 1 hts (aw_S aw_420 aw_421 aw_2 aw_422) rfl rfl rfl (by decide +kernel) ⟨Nat.le_of_ble_eq_true rfl, Nat.le_of_ble_eq_true rfl⟩) ⟨fun a U g mk q => ⟨q.1, q.2.call⟩, fun U hU hW => ⟨rfl, hT.at hS hU hW (fun _ z => z.elim)⟩⟩ rfl rfl hl.1 rfl (lv_room (Nat.le_of_ble_eq_true rfl)) d_M_signOf_6 ⟨Nat.le_refl _, Nat.le_refl _⟩) ?_
    refine lv_if_eq (tgt := 14) hx hb d_M_signOf_9 (by decide) (fun c_4 => ?_) (fun c_4 => ?_)
    · replace hf := (if_pos c_4).symm.trans hf
      refine lv_iload_n hx hb d_M_signOf_14 rfl (lv_at hl 0 rfl) ?_
      refine lv_iconst (v := 2) hx hb d_M_signOf_15 (by decide) ?_
      refine lv_icmp_ne (tgt := 22) hx hb d_M_signOf_16 (by decide) (fun c_5 => ?_) (fun c_5 => ?_)
      · replace hf := (if_neg c_5).symm.trans hf
        refine lv_iload_n hx hb d_M_signOf_22 rfl (lv_at hl 0 rfl) ?_
        refine lv_bipush (v := 48) hx hb d_M_signOf_23 (by decide) ?_
        refine lv_icmp_ge (tgt := 43) hx hb d_M_signOf_25 (by decide) (fun c_6 => ?_) (fun c_6 => ?_)
        · replace hf := (if_pos c_6).symm.trans hf
          refine lv_iload_n hx hb d_M_signOf_43 rfl (lv_at hl 0 rfl) ?_
          by_cases c_7 : a0 = 52
          · replace hf := (if_pos c_7).symm.trans hf
            refine lv_tableIn (tgt := 120) hx hb d_M_signOf_44 (by rw [c_7]; decide) (by rw [c_7]; decide) (by rw [c_7] <;> rfl) (by decide) ?_
            refine lv_iconst (v := 5) hx hb d_M_signOf_120 (by decide) ?_
            exact W.iret (v := 5) hx hb hr (fun t ht hW => ⟨congrArg (fun z => Outcome.returned (some (Value.int z))) (Option.some.inj hf), ht⟩) (fun q h => nomatch h) d_M_signOf_121
          · replace hf := (if_neg c_7).symm.trans hf
            by_cases c_8 : a0 = 53
            · replace hf := (if_pos c_8).symm.trans hf
              refine lv_tableIn (tgt := 122) hx hb d_M_signOf_44 (by rw [c_8]; decide) (by rw [c_8]; decide) (by rw [c_8] <;> rfl) (by decide) ?_
              refine lv_bipush (v := 11) hx hb d_M_signOf_122 (by decide) ?_
              exact W.iret (v := 11) hx hb hr (fun t ht hW => ⟨congrArg (fun z => Outcome.returned (some (Value.int z))) (Option.some.inj hf), ht⟩) (fun q h => nomatch h) d_M_signOf_124
            · replace hf := (if_neg c_8).symm.trans hf
              by_cases c_9 : a0 = 54
              · replace hf := (if_pos c_9).symm.trans hf
                refine lv_tableIn (tgt := 120) hx hb d_M_signOf_44 (by rw [c_9]; decide) (by rw [c_9]; decide) (by rw [c_9] <;> rfl) (by decide) ?_
                refine lv_iconst (v := 5) hx hb d_M_signOf_120 (by decide) ?_
                exact W.iret (v := 5) hx hb hr (fun t ht hW => ⟨congrArg (fun z => Outcome.returned (some (Value.int z))) (Option.some.inj hf), ht⟩) (fun q h => nomatch h) d_M_signOf_121
              · replace hf := (if_neg c_9).symm.trans hf
                by_cases c_10 : a0 = 55
                · replace hf := (if_pos c_10).symm.trans hf
                  refine lv_tableIn (tgt := 125) hx hb d_M_signOf_44 (by rw [c_10]; decide) (by rw [c_10]; decide) (by rw [c_10] <;> rfl) (by decide) ?_
                  refine lv_bipush (v := 9) hx hb d_M_signOf_125 (by decide) ?_
                  exact W.iret (v := 9) hx hb hr (fun t ht hW => ⟨congrArg (fun z => Outcome.returned (some (Value.int z))) (Option.some.inj hf), ht⟩) (fun q h => nomatch h) d_M_signOf_127
                · replace hf := (if_neg c_10).symm.trans hf
                  by_cases c_11 : a0 = 56
                  · replace hf := (if_pos c_11).symm.trans hf
                    refine lv_tableIn (tgt := 120) hx hb d_M_signOf_44 (by rw [c_11]; decide) (by rw [c_11]; decide) (by rw [c_11] <;> rfl) (by decide) ?_
                    refine lv_iconst (v := 5) hx hb d_M_signOf_120 (by decide) ?_
                    exact W.iret (v := 5) hx hb hr (fun t ht hW => ⟨congrArg (fun z => Outcome.returned (some (Value.int z))) (Option.some.inj hf), ht⟩) (fun q h => nomatch h) d_M_signOf_121
                  · replace hf := (if_neg c_11).symm.trans hf
                    by_cases c_12 : a0 = 57
                    · replace hf := (if_pos c_12).symm.trans hf
                      refine lv_tableIn (tgt := 131) hx hb d_M_signOf_44 (by rw [c_12]; decide) (by rw [c_12]; decide) (by rw [c_12] <;> rfl) (by decide) ?_
                      refine lv_iconst (v := (-1)) hx hb d_M_signOf_131 (by decide) ?_
                      exact W.iret (v := (-1)) hx hb hr (fun t ht hW => ⟨congrArg (fun z => Outcome.returned (some (Value.int z))) (Option.some.inj hf), ht⟩) (fun q h => nomatch h) d_M_signOf_132
                    · replace hf := (if_neg c_12).symm.trans hf
                      by_cases c_13 : a0 = 58
                      · replace hf := (if_pos c_13).symm.trans hf
                        refine lv_tableIn (tgt := 131) hx hb d_M_signOf_44 (by rw [c_13]; decide) (by rw [c_13]; decide) (by rw [c_13] <;> rfl) (by decide) ?_
                        refine lv_iconst (v := (-1)) hx hb d_M_signOf_131 (by decide) ?_
                        exact W.iret (v := (-1)) hx hb hr (fun t ht hW => ⟨congrArg (fun z => Outcome.returned (some (Value.int z))) (Option.some.inj hf), ht⟩) (fun q h => nomatch h) d_M_signOf_132
                      · replace hf := (if_neg c_13).symm.trans hf
                        by_cases c_14 : a0 = 59
                        · replace hf := (if_pos c_14).symm.trans hf
                          refine lv_tableIn (tgt := 120) hx hb d_M_signOf_44 (by rw [c_14]; decide) (by rw [c_14]; decide) (by rw [c_14] <;> rfl) (by decide) ?_
                          refine lv_iconst (v := 5) hx hb d_M_signOf_120 (by decide) ?_
                          exact W.iret (v := 5) hx hb hr (fun t ht hW => ⟨congrArg (fun z => Outcome.returned (some (Value.int z))) (Option.some.inj hf), ht⟩) (fun q h => nomatch h) d_M_signOf_121
                        · replace hf := (if_neg c_14).symm.trans hf
                          by_cases c_15 : a0 = 60
                          · replace hf := (if_pos c_15).symm.trans hf
                            refine lv_tableIn (tgt := 131) hx hb d_M_signOf_44 (by rw [c_15]; decide) (by rw [c_15]; decide) (by rw [c_15] <;> rfl) (by decide) ?_
                            refine lv_iconst (v := (-1)) hx hb d_M_signOf_131 (by decide) ?_
                            exact W.iret (v := (-1)) hx hb hr (fun t ht hW => ⟨congrArg (fun z => Outcome.returned (some (Value.int z))) (Option.some.inj hf), ht⟩) (fun q h => nomatch h) d_M_signOf_132
                          · replace hf := (if_neg c_15).symm.trans hf
                            by_cases c_16 : a0 = 61
                            · replace hf := (if_pos c_16).symm.trans hf
                              refine lv_tableIn (tgt := 131) hx hb d_M_signOf_44 (by rw [c_16]; decide) (by rw [c_16]; decide) (by rw [c_16] <;> rfl) (by decide) ?_
                              refine lv_iconst (v := (-1)) hx hb d_M_signOf_131 (by decide) ?_
                              exact W.iret (v := (-1)) hx hb hr (fun t ht hW => ⟨congrArg (fun z => Outcome.returned (some (Value.int z))) (Option.some.inj hf), ht⟩) (fun q h => nomatch h) d_M_signOf_132
                            · replace hf := (if_neg c_16).symm.trans hf
                              by_cases c_17 : a0 = 62
                              · replace hf := (if_pos c_17).symm.trans hf
                                refine lv_tableIn (tgt := 131) hx hb d_M_signOf_44 (by rw [c_17]; decide) (by rw [c_17]; decide) (by rw [c_17] <;> rfl) (by decide) ?_
                                refine lv_iconst (v := (-1)) hx hb d_M_signOf_131 (by decide) ?_
                                exact W.iret (v := (-1)) hx hb hr (fun t ht hW => ⟨congrArg (fun z => Outcome.returned (some (Value.int z))) (Option.some.inj hf), ht⟩) (fun q h => nomatch h) d_M_signOf_132
                              · replace hf := (if_neg c_17).symm.trans hf
                                by_cases c_18 : a0 = 63
                                · replace hf := (if_pos c_18).symm.trans hf
                                  refine lv_tableIn (tgt := 131) hx hb d_M_signOf_44 (by rw [c_18]; decide) (by rw [c_18]; decide) (by rw [c_18] <;> rfl) (by decide) ?_
                                  refine lv_iconst (v := (-1)) hx hb d_M_signOf_131 (by decide) ?_
                                  exact W.iret (v := (-1)) hx hb hr (fun t ht hW => ⟨congrArg (fun z => Outcome.returned (some (Value.int z))) (Option.some.inj hf), ht⟩) (fun q h => nomatch h) d_M_signOf_132
                                · replace hf := (if_neg c_18).symm.trans hf
                                  by_cases c_19 : a0 = 64
                                  · replace hf := (if_pos c_19).symm.trans hf
                                    refine lv_tableIn (tgt := 122) hx hb d_M_signOf_44 (by rw [c_19]; decide) (by rw [c_19]; decide) (by rw [c_19] <;> rfl) (by decide) ?_
                                    refine lv_bipush (v := 11) hx hb d_M_signOf_122 (by decide) ?_
                                    exact W.iret (v := 11) hx hb hr (fun t ht hW => ⟨congrArg (fun z => Outcome.returned (some (Value.int z))) (Option.some.inj hf), ht⟩) (fun q h => nomatch h) d_M_signOf_124
                                  · replace hf := (if_neg c_19).symm.trans hf
                                    by_cases c_20 : a0 = 65
                                    · replace hf := (if_pos c_20).symm.trans hf
                                      refine lv_tableIn (tgt := 128) hx hb d_M_signOf_44 (by rw [c_20]; decide) (by rw [c_20]; decide) (by rw [c_20] <;> rfl) (by decide) ?_
                                      refine lv_bipush (v := 8) hx hb d_M_signOf_128 (by decide) ?_
                                      exact W.iret (v := 8) hx hb hr (fun t ht hW => ⟨congrArg (fun z => Outcome.returned (some (Value.int z))) (Option.some.inj hf), ht⟩) (fun q h => nomatch h) d_M_signOf_130
                                    · replace hf := (if_neg c_20).symm.trans hf
                                      by_cases c_21 : a0 = 66
                                      · replace hf := (if_pos c_21).symm.trans hf
                                        refine lv_tableIn (tgt := 128) hx hb d_M_signOf_44 (by rw [c_21]; decide) (by rw [c_21]; decide) (by rw [c_21] <;> rfl) (by decide) ?_
                                        refine lv_bipush (v := 8) hx hb d_M_signOf_128 (by decide) ?_
                                        exact W.iret (v := 8) hx hb hr (fun t ht hW => ⟨congrArg (fun z => Outcome.returned (some (Value.int z))) (Option.some.inj hf), ht⟩) (fun q h => nomatch h) d_M_signOf_130
                                      · replace hf := (if_neg c_21).symm.trans hf
                                        refine lv_tableOut (tgt := 131) hx hb d_M_signOf_44 (by have q0 := lv_neT c_7 (k := 52) (a := 52) rfl; have q1 := lv_neT c_8 (k := 53) (a := 53) rfl; have q2 := lv_neT c_9 (k := 54) (a := 54) rfl; have q3 := lv_neT c_10 (k := 55) (a := 55) rfl; have q4 := lv_neT c_11 (k := 56) (a := 56) rfl; have q5 := lv_neT c_12 (k := 57) (a := 57) rfl; have q6 := lv_neT c_13 (k := 58) (a := 58) rfl; have q7 := lv_neT c_14 (k := 59) (a := 59) rfl; have q8 := lv_neT c_15 (k := 60) (a := 60) rfl; have q9 := lv_neT c_16 (k := 61) (a := 61) rfl; have q10 := lv_neT c_17 (k := 62) (a := 62) rfl; have q11 := lv_neT c_18 (k := 63) (a := 63) rfl; have q12 := lv_neT c_19 (k := 64) (a := 64) rfl; have q13 := lv_neT c_20 (k := 65) (a := 65) rfl; have q14 := lv_neT c_21 (k := 66) (a := 66) rfl; omega) (by decide) ?_
                                        refine lv_iconst (v := (-1)) hx hb d_M_signOf_131 (by decide) ?_
                                        exact W.iret (v := (-1)) hx hb hr (fun t ht hW => ⟨congrArg (fun z => Outcome.returned (some (Value.int z))) (Option.some.inj hf), ht⟩) (fun q h => nomatch h) d_M_signOf_132
        · replace hf := (if_neg c_6).symm.trans hf
          refine lv_iload_n hx hb d_M_signOf_28 rfl (lv_at hl 0 rfl) ?_
          obtain ⟨r_22, g_23, hf⟩ := Option.bind_eq_some_iff.mp hf
          refine ju_calli (W.runS (As := [.int (a0)]) (rest := []) ⟨hx, hb, hml, hown, hts⟩ (c_M_isBranch l (ad := ad) (sk := sk) (sv := sv) (tK := tK)  a0  r_22 g_23) (va_cwS 1 hts (aw_S aw_411 aw_412 aw_2 aw_413) rfl rfl rfl (by decide +kernel) ⟨Nat.le_of_ble_eq_true rfl, Nat.le_of_ble_eq_true rfl⟩) ⟨fun a U g mk q => ⟨q.1, q.2.call⟩, fun U hU hW => ⟨rfl, hT.at hS hU hW (fun _ z => z.elim)⟩⟩ rfl rfl hl.1 rfl (lv_room (Nat.le_of_ble_eq_true rfl)) d_M_signOf_29 ⟨Nat.le_refl _, Nat.le_refl _⟩) ?_
          refine lv_if_eq (tgt := 40) hx hb d_M_signOf_32 (by decide) (fun c_24 => ?_) (fun c_24 => ?_)
          · replace hf := (if_pos c_24).symm.trans hf
            refine lv_bipush (v := 11) hx hb d_M_signOf_40 (by decide) ?_
            exact W.iret (v := 11) hx hb hr (fun t ht hW => ⟨congrArg (fun z => Outcome.returned (some (Value.int z))) (Option.some.inj hf), ht⟩) (fun q h => nomatch h) d_M_signOf_42
          · replace hf := (if_neg c_24).symm.trans hf
            refine lv_bipush (v := 12) hx hb d_M_signOf_35 (by decide) ?_
            refine lv_goto (tgt := 42) hx hb d_M_signOf_37 (by decide) ?_
            exact W.iret (v := 12) hx hb hr (fun t ht hW => ⟨congrArg (fun z => Outcome.returned (some (Value.int z))) (Option.some.inj hf), ht⟩) (fun q h => nomatch h) d_M_signOf_42
      · replace hf := (if_pos c_5).symm.trans hf
        refine lv_bipush (v := 20) hx hb d_M_signOf_19 (by decide) ?_
        exact W.iret (v := 20) hx hb hr (fun t ht hW => ⟨congrArg (fun z => Outcome.returned (some (Value.int z))) (Option.some.inj hf), ht⟩) (fun q h => nomatch h) d_M_signOf_21
    · replace hf := (if_neg c_4).symm.trans hf
      refine lv_iconst (v := (-1)) hx hb d_M_signOf_12 (by decide) ?_
      exact W.iret (v := (-1)) hx hb hr (fun t ht hW => ⟨congrArg (fun z => Outcome.returned (some (Value.int z))) (Option.some.inj hf), ht⟩) (fun q h => nomatch h) d_M_signOf_13

def f_M_isLong (a0 : Int32) : Option Bool :=
  if (a0 &&& 3) = 3 then (some true) else (some false)
set_option maxHeartbeats 4000000 in
set_option maxRecDepth 100000 in
theorem c_M_isLong (l : Launch) {ad sk sv : Nat → Nat} {tK : Nat} (a0 : Int32)  (r : Bool) (hf : f_M_isLong a0 = some r) : Met l y_M_isLong (Cond.code y_M_isLong b_M_isLong 1 (Option.some FieldType.boolean) :: aw) ({ frames := 0, cells := 0, slots := 0, locals := 0 } : Room) (va_Pc [.int (a0)] (fun U => tb ad sk sv tK (fun _ => False) U U.heap)) (QcRead (bI r)) 0 0 (fun _ => False) := by
  refine Met.ofW (cc := b_M_isLong) (maxL := 1) (ret := (Option.some FieldType.boolean)) (by decide) rfl ?_
  intro p e s m args below meth c s₁ B hml hv
  obtain ⟨rfl, hT⟩ := hv
  have hx := B.exec
  have hb := B.bytes
  have hr := B.returns
  have hts := atoms_spec (ws := (Cond.code y_M_isLong b_M_isLong 1 (Option.some FieldType.boolean) :: aw)) B.pre
  have ht : ∀ {w : Cond}, w ∈ aw → w.before ([.int (a0)] : List Value).toArray s = true := fun h => hts _ (List.mem_cons_of_mem _ h)
  have hown : s.vm.findClass "CodeWordsModel" = some m.cls := findClass_of_methodNamed B.named
  have hlocks := B.notSynchronized
  have hS : va_S (fun _ => False) s.heap s.heap [] := va_S.rf
  have hl := lv_entry ([.int (a0)]) (n := 1) (Nat.le_of_ble_eq_true rfl)
  rw [lg_entry_eq]
  generalize (lg_sl ([.int (a0)]) ++ List.replicate (1 - (lg_sl ([.int (a0)])).length) Slot.unset).toArray = ls at hl ⊢
  have hl : lv_has ls 1 [(0, .int (a0))] := hl
  rw [f_M_isLong] at hf
  refine lv_iload_n hx hb d_M_isLong_0 rfl (lv_at hl 0 rfl) ?_
  refine lv_iconst (v := 3) hx hb d_M_isLong_1 (by decide) ?_
  refine lv_iand hx hb d_M_isLong_2 ?_
  refine lv_iconst (v := 3) hx hb d_M_isLong_3 (by decide) ?_
  refine lv_icmp_ne (tgt := 11) hx hb d_M_isLong_4 (by decide) (fun c_1 => ?_) (fun c_1 => ?_)
  · replace hf := (if_neg c_1).symm.trans hf
    refine lv_iconst (v := 0) hx hb d_M_isLong_11 (by decide) ?_
    exact W.zret (v := 0) hx hb hr (ju_nz false) (fun t ht hW => ⟨congrArg (fun z => Outcome.returned (some (Value.int (bI z)))) (Option.some.inj hf), ht⟩) (fun q h => nomatch h) d_M_isLong_12
  · replace hf := (if_pos c_1).symm.trans hf
    refine lv_iconst (v := 1) hx hb d_M_isLong_7 (by decide) ?_
    refine lv_goto (tgt := 12) hx hb d_M_isLong_8 (by decide) ?_
    exact W.zret (v := 1) hx hb hr (ju_nz true) (fun t ht hW => ⟨congrArg (fun z => Outcome.returned (some (Value.int (bI z)))) (Option.some.inj hf), ht⟩) (fun q h => nomatch h) d_M_isLong_12

def f_M_longKind (a0 : Int32) : Option Int32 :=
  if a0 = 48 then (some (18)) else ( if a0 = 49 then (some (12)) else ( if a0 = 50 then (some (17)) else ( if a0 = 51 then (some (18)) else ( if a0 = 52 then (some (18)) else ( if a0 = 53 then (some (2)) else ( if a0 = 54 then (some (18)) else ( if a0 = 55 then (some (18)) else ( if a0 = 56 then (some (0)) else ( if a0 = 57 then (some (25)) else ( if a0 = 58 then (some (26)) else ( if a0 = 59 then (some (23)) else ( if a0 = 60 then (some (28)) else ( if a0 = 61 then (some (32)) else ( if a0 = 62 then (some (35)) else ( if a0 = 63 then (some (36)) else ( if a0 = 64 then (some (2)) else ( if a0 = 65 then (some (4)) else ( if a0 = 66 then (some (5)) else ( if a0 = 67 then (some (24)) else ( if a0 = 68 then (some (12)) else ( if a0 = 69 then (some (3)) else ( if a0 = 70 then (some (27)) else ( if a0 = 71 then (some (47)) else ( if a0 = 72 then (some (3)) else ( if a0 = 73 then (some (27)) else ( if a0 = 74 then (some (17)) else (some (27))))))))))))))))))))))))))))
set_option maxHeartbeats 4000000 in
set_option maxRecDepth 100000 in
theorem c_M_longKind (l : Launch) {ad sk sv : Nat → Nat} {tK : Nat} (a0 : Int32)  (r : Int32) (hf : f_M_longKind a0 = some r) : Met l y_M_longKind (Cond.code y_M_longKind b_M_longKind 1 (Option.some FieldType.int) :: aw) ({ frames := 0, cells := 0, slots := 0, locals := 0 } : Room) (va_Pc [.int (a0)] (fun U => tb ad sk sv tK (fun _ => False) U U.heap)) (QcRead r) 0 0 (fun _ => False) := by
  refine Met.ofW (cc := b_M_longKind) (maxL := 1) (ret := (Option.some FieldType.int)) (by decide) rfl ?_
  intro p e s m args below meth c s₁ B hml hv
  obtain ⟨rfl, hT⟩ := hv
  have hx := B.exec
  have hb := B.bytes
  have hr := B.returns
  have hts := atoms_spec (ws := (Cond.code y_M_longKind b_M_longKind 1 (Option.some FieldType.int) :: aw)) B.pre
  have ht : ∀ {w : Cond}, w ∈ aw → w.before ([.int (a0)] : List Value).toArray s = true := fun h => hts _ (List.mem_cons_of_mem _ h)
  have hown : s.vm.findClass "CodeWordsModel" = some m.cls := findClass_of_methodNamed B.named
  have hlocks := B.notSynchronized
  have hS : va_S (fun _ => False) s.heap s.heap [] := va_S.rf
  have hl := lv_entry ([.int (a0)]) (n := 1) (Nat.le_of_ble_eq_true rfl)
  rw [lg_entry_eq]
  generalize (lg_sl ([.int (a0)]) ++ List.replicate (1 - (lg_sl ([.int (a0)])).length) Slot.unset).toArray = ls at hl ⊢
  have hl : lv_has ls 1 [(0, .int (a0))] := hl
  rw [f_M_longKind] at hf
  refine lv_iload_n hx hb d_M_longKind_0 rfl (lv_at hl 0 rfl) ?_
  by_cases c_1 : a0 = 48
  · replace hf := (if_pos c_1).symm.trans hf
    refine lv_tableIn (tgt := 124) hx hb d_M_longKind_1 (by rw [c_1]; decide) (by rw [c_1]; decide) (by rw [c_1] <;> rfl) (by decide) ?_
    refine lv_bipush (v := 18) hx hb d_M_longKind_124 (by decide) ?_
    exact W.iret (v := 18) hx hb hr (fun t ht hW => ⟨congrArg (fun z => Outcome.returned (some (Value.int z))) (Option.some.inj hf), ht⟩) (fun q h => nomatch h) d_M_longKind_126
  · replace hf := (if_neg c_1).symm.trans hf
    by_cases c_2 : a0 = 49
    · replace hf := (if_pos c_2).symm.trans hf
      refine lv_tableIn (tgt := 127) hx hb d_M_longKind_1 (by rw [c_2]; decide) (by rw [c_2]; decide) (by rw [c_2] <;> rfl) (by decide) ?_
      refine lv_bipush (v := 12) hx hb d_M_longKind_127 (by decide) ?_
      exact W.iret (v := 12) hx hb hr (fun t ht hW => ⟨congrArg (fun z => Outcome.returned (some (Value.int z))) (Option.some.inj hf), ht⟩) (fun q h => nomatch h) d_M_longKind_129
    · replace hf := (if_neg c_2).symm.trans hf
      by_cases c_3 : a0 = 50
      · replace hf := (if_pos c_3).symm.trans hf
        refine lv_tableIn (tgt := 130) hx hb d_M_longKind_1 (by rw [c_3]; decide) (by rw [c_3]; decide) (by rw [c_3] <;> rfl) (by decide) ?_
        refine lv_bipush (v := 17) hx hb d_M_longKind_130 (by decide) ?_
        exact W.iret (v := 17) hx hb hr (fun t ht hW => ⟨congrArg (fun z => Outcome.returned (some (Value.int z))) (Option.some.inj hf), ht⟩) (fun q h => nomatch h) d_M_longKind_132
      · replace hf := (if_neg c_3).symm.trans hf
        by_cases c_4 : a0 = 51
        · replace hf := (if_pos c_4).symm.trans hf
          refine lv_tableIn (tgt := 124) hx hb d_M_longKind_1 (by rw [c_4]; decide) (by rw [c_4]; decide) (by rw [c_4] <;> rfl) (by decide) ?_
          refine lv_bipush (v := 18) hx hb d_M_longKind_124 (by decide) ?_
          exact W.iret (v := 18) hx hb hr (fun t ht hW => ⟨congrArg (fun z => Outcome.returned (some (Value.int z))) (Option.some.inj hf), ht⟩) (fun q h => nomatch h) d_M_longKind_126
        · replace hf := (if_neg c_4).symm.trans hf
          by_cases c_5 : a0 = 52
          · replace hf := (if_pos c_5).symm.trans hf
            refine lv_tableIn (tgt := 124) hx hb d_M_longKind_1 (by rw [c_5]; decide) (by rw [c_5]; decide) (by rw [c_5] <;> rfl) (by decide) ?_
            refine lv_bipush (v := 18) hx hb d_M_longKind_124 (by decide) ?_
            exact W.iret (v := 18) hx hb hr (fun t ht hW => ⟨congrArg (fun z => Outcome.returned (some (Value.int z))) (Option.some.inj hf), ht⟩) (fun q h => nomatch h) d_M_longKind_126
          · replace hf := (if_neg c_5).symm.trans hf
            by_cases c_6 : a0 = 53
            · replace hf := (if_pos c_6).symm.trans hf
              refine lv_tableIn (tgt := 133) hx hb d_M_longKind_1 (by rw [c_6]; decide) (by rw [c_6]; decide) (by rw [c_6] <;> rfl) (by decide) ?_
              refine lv_iconst (v := 2) hx hb d_M_longKind_133 (by decide) ?_
              exact W.iret (v := 2) hx hb hr (fun t ht hW => ⟨congrArg (fun z => Outcome.returned (some (Value.int z))) (Option.some.inj hf), ht⟩) (fun q h => nomatch h) d_M_longKind_134
            · replace hf := (if_neg c_6).symm.trans hf
              by_cases c_7 : a0 = 54
              · replace hf := (if_pos c_7).symm.trans hf
                refine lv_tableIn (tgt := 124) hx hb d_M_longKind_1 (by rw [c_7]; decide) (by rw [c_7]; decide) (by rw [c_7] <;> rfl) (by decide) ?_
                refine lv_bipush (v := 18) hx hb d_M_longKind_124 (by decide) ?_
                exact W.iret (v := 18) hx hb hr (fun t ht hW => ⟨congrArg (fun z => Outcome.returned (some (Value.int z))) (Option.some.inj hf), ht⟩) (fun q h => nomatch h) d_M_longKind_126
              · replace hf := (if_neg c_7).symm.trans hf
                by_cases c_8 : a0 = 55
                · replace hf := (if_pos c_8).symm.trans hf
                  refine lv_tableIn (tgt := 124) hx hb d_M_longKind_1 (by rw [c_8]; decide) (by rw [c_8]; decide) (by rw [c_8] <;> rfl) (by decide) ?_
                  refine lv_bipush (v := 18) hx hb d_M_longKind_124 (by decide) ?_
                  exact W.iret (v := 18) hx hb hr (fun t ht hW => ⟨congrArg (fun z => Outcome.returned (some (Value.int z))) (Option.some.inj hf), ht⟩) (fun q h => nomatch h) d_M_longKind_126
                · replace hf := (if_neg c_8).symm.trans hf
                  by_cases c_9 : a0 = 56
                  · replace hf := (if_pos c_9).symm.trans hf
                    refine lv_tableIn (tgt := 135) hx hb d_M_longKind_1 (by rw [c_9]; decide) (by rw [c_9]; decide) (by rw [c_9] <;> rfl) (by decide) ?_
                    refine lv_iconst (v := 0) hx hb d_M_longKind_135 (by decide) ?_
                    exact W.iret (v := 0) hx hb hr (fun t ht hW => ⟨congrArg (fun z => Outcome.returned (some (Value.int z))) (Option.some.inj hf), ht⟩) (fun q h => nomatch h) d_M_longKind_136
                  · replace hf := (if_neg c_9).symm.trans hf
                    by_cases c_10 : a0 = 57
                    · replace hf := (if_pos c_10).symm.trans hf
                      refine lv_tableIn (tgt := 137) hx hb d_M_longKind_1 (by rw [c_10]; decide) (by rw [c_10]; decide) (by rw [c_10] <;> rfl) (by decide) ?_
                      refine lv_bipush (v := 25) hx hb d_M_longKind_137 (by decide) ?_
                      exact W.iret (v := 25) hx hb hr (fun t ht hW => ⟨congrArg (fun z => Outcome.returned (some (Value.int z))) (Option.some.inj hf), ht⟩) (fun q h => nomatch h) d_M_longKind_139
                    · replace hf := (if_neg c_10).symm.trans hf
                      by_cases c_11 : a0 = 58
                      · replace hf := (if_pos c_11).symm.trans hf
                        refine lv_tableIn (tgt := 140) hx hb d_M_longKind_1 (by rw [c_11]; decide) (by rw [c_11]; decide) (by rw [c_11] <;> rfl) (by decide) ?_
                        refine lv_bipush (v := 26) hx hb d_M_longKind_140 (by decide) ?_
                        exact W.iret (v := 26) hx hb hr (fun t ht hW => ⟨congrArg (fun z => Outcome.returned (some (Value.int z))) (Option.some.inj hf), ht⟩) (fun q h => nomatch h) d_M_longKind_142
                      · replace hf := (if_neg c_11).symm.trans hf
                        by_cases c_12 : a0 = 59
                        · replace hf := (if_pos c_12).symm.trans hf
                          refine lv_tableIn (tgt := 143) hx hb d_M_longKind_1 (by rw [c_12]; decide) (by rw [c_12]; decide) (by rw [c_12] <;> rfl) (by decide) ?_
                          refine lv_bipush (v := 23) hx hb d_M_longKind_143 (by decide) ?_
                          exact W.iret (v := 23) hx hb hr (fun t ht hW => ⟨congrArg (fun z => Outcome.returned (some (Value.int z))) (Option.some.inj hf), ht⟩) (fun q h => nomatch h) d_M_longKind_145
                        · replace hf := (if_neg c_12).symm.trans hf
                          by_cases c_13 : a0 = 60
                          · replace hf := (if_pos c_13).symm.trans hf
                            refine lv_tableIn (tgt := 146) hx hb d_M_longKind_1 (by rw [c_13]; decide) (by rw [c_13]; decide) (by rw [c_13] <;> rfl) (by decide) ?_
                            refine lv_bipush (v := 28) hx hb d_M_longKind_146 (by decide) ?_
                            exact W.iret (v := 28) hx hb hr (fun t ht hW => ⟨congrArg (fun z => Outcome.returned (some (Value.int z))) (Option.some.inj hf), ht⟩) (fun q h => nomatch h) d_M_longKind_148
                          · replace hf := (if_neg c_13).symm.trans hf
                            by_cases c_14 : a0 = 61
                            · replace hf := (if_pos c_14).symm.trans hf
                              refine lv_tableIn (tgt := 149) hx hb d_M_longKind_1 (by rw [c_14]; decide) (by rw [c_14]; decide) (by rw [c_14] <;> rfl) (by decide) ?_
                              refine lv_bipush (v := 32) hx hb d_M_longKind_149 (by decide) ?_
                              exact W.iret (v := 32) hx hb hr (fun t ht hW => ⟨congrArg (fun z => Outcome.returned (some (Value.int z))) (Option.some.inj hf), ht⟩) (fun q h => nomatch h) d_M_longKind_151
                            · replace hf := (if_neg c_14).symm.trans hf
                              by_cases c_15 : a0 = 62
                              · replace hf := (if_pos c_15).symm.trans hf
                                refine lv_tableIn (tgt := 152) hx hb d_M_longKind_1 (by rw [c_15]; decide) (by rw [c_15]; decide) (by rw [c_15] <;> rfl) (by decide) ?_
                                refine lv_bipush (v := 35) hx hb d_M_longKind_152 (by decide) ?_
                                exact W.iret (v := 35) hx hb hr (fun t ht hW => ⟨congrArg (fun z => Outcome.returned (some (Value.int z))) (Option.some.inj hf), ht⟩) (fun q h => nomatch h) d_M_longKind_154
                              · replace hf := (if_neg c_15).symm.trans hf
                                by_cases c_16 : a0 = 63
                                · replace hf := (if_pos c_16).symm.trans hf
                                  refine lv_tableIn (tgt := 155) hx hb d_M_longKind_1 (by rw [c_16]; decide) (by rw [c_16]; decide) (by rw [c_16] <;> rfl) (by decide) ?_
                                  refine lv_bipush (v := 36) hx hb d_M_longKind_155 (by decide) ?_
                                  exact W.iret (v := 36) hx hb hr (fun t ht hW => ⟨congrArg (fun z => Outcome.returned (some (Value.int z))) (Option.some.inj hf), ht⟩) (fun q h => nomatch h) d_M_longKind_157
                                · replace hf := (if_neg c_16).symm.trans hf
                                  by_cases c_17 : a0 = 64
                                  · replace hf := (if_pos c_17).symm.trans hf
                                    refine lv_tableIn (tgt := 133) hx hb d_M_longKind_1 (by rw [c_17]; decide) (by rw [c_17]; decide) (by rw [c_17] <;> rfl) (by decide) ?_
                                    refine lv_iconst (v := 2) hx hb d_M_longKind_133 (by decide) ?_
                                    exact W.iret (v := 2) hx hb hr (fun t ht hW => ⟨congrArg (fun z => Outcome.returned (some (Value.int z))) (Option.some.inj hf), ht⟩) (fun q h => nomatch h) d_M_longKind_134
                                  · replace hf := (if_neg c_17).symm.trans hf
                                    by_cases c_18 : a0 = 65
                                    · replace hf := (if_pos c_18).symm.trans hf
                                      refine lv_tableIn (tgt := 158) hx hb d_M_longKind_1 (by rw [c_18]; decide) (by rw [c_18]; decide) (by rw [c_18] <;> rfl) (by decide) ?_
                                      refine lv_iconst (v := 4) hx hb d_M_longKind_158 (by decide) ?_
                                      exact W.iret (v := 4) hx hb hr (fun t ht hW => ⟨congrArg (fun z => Outcome.returned (some (Value.int z))) (Option.some.inj hf), ht⟩) (fun q h => nomatch h) d_M_longKind_159
                                    · replace hf := (if_neg c_18).symm.trans hf
                                      by_cases c_19 : a0 = 66
                                      · replace hf := (if_pos c_19).symm.trans hf
                                        refine lv_tableIn (tgt := 160) hx hb d_M_longKind_1 (by rw [c_19]; decide) (by rw [c_19]; decide) (by rw [c_19] <;> rfl) (by decide) ?_
                                        refine lv_iconst (v := 5) hx hb d_M_longKind_160 (by decide) ?_
                                        exact W.iret (v := 5) hx hb hr (fun t ht hW => ⟨congrArg (fun z => Outcome.returned (some (Value.int z))) (Option.some.inj hf), ht⟩) (fun q h => nomatch h) d_M_longKind_161
                                      · replace hf := (if_neg c_19).symm.trans hf
                                        by_cases c_20 : a0 = 67
                                        · replace hf := (if_pos c_20).symm.trans hf
                                          refine lv_tableIn (tgt := 162) hx hb d_M_longKind_1 (by rw [c_20]; decide) (by rw [c_20]; decide) (by rw [c_20] <;> rfl) (by decide) ?_
                                          refine lv_bipush (v := 24) hx hb d_M_longKind_162 (by decide) ?_
                                          exact W.iret (v := 24) hx hb hr (fun t ht hW => ⟨congrArg (fun z => Outcome.returned (some (Value.int z))) (Option.some.inj hf), ht⟩) (fun q h => nomatch h) d_M_longKind_164
                                        · replace hf := (if_neg c_20).symm.trans hf
                                          by_cases c_21 : a0 = 68
                                          · replace hf := (if_pos c_21).symm.trans hf
                                            refine lv_tableIn (tgt := 127) hx hb d_M_longKind_1 (by rw [c_21]; decide) (by rw [c_21]; decide) (by rw [c_21] <;> rfl) (by decide) ?_
                                            refine lv_bipush (v := 12) hx hb d_M_longKind_127 (by decide) ?_
                                            exact W.iret (v := 12) hx hb hr (fun t ht hW => ⟨congrArg (fun z => Outcome.returned (some (Value.int z))) (Option.some.inj hf), ht⟩) (fun q h => nomatch h) d_M_longKind_129
                                          · replace hf := (if_neg c_21).symm.trans hf
                                            by_cases c_22 : a0 = 69
                                            · replace hf := (if_pos c_22).symm.trans hf
                                              refine lv_tableIn (tgt := 165) hx hb d_M_longKind_1 (by rw [c_22]; decide) (by rw [c_22]; decide) (by rw [c_22] <;> rfl) (by decide) ?_
                                              refine lv_iconst (v := 3) hx hb d_M_longKind_165 (by decide) ?_
                                              exact W.iret (v := 3) hx hb hr (fun t ht hW => ⟨congrArg (fun z => Outcome.returned (some (Value.int z))) (Option.some.inj hf), ht⟩) (fun q h => nomatch h) d_M_longKind_166
                                            · replace hf := (if_neg c_22).symm.trans hf
                                              by_cases c_23 : a0 = 70
                                              · replace hf := (if_pos c_23).symm.trans hf
                                                refine lv_tableIn (tgt := 170) hx hb d_M_longKind_1 (by rw [c_23]; decide) (by rw [c_23]; decide) (by rw [c_23] <;> rfl) (by decide) ?_
                                                refine lv_bipush (v := 27) hx hb d_M_longKind_170 (by decide) ?_
                                                exact W.iret (v := 27) hx hb hr (fun t ht hW => ⟨congrArg (fun z => Outcome.returned (some (Value.int z))) (Option.some.inj hf), ht⟩) (fun q h => nomatch h) d_M_longKind_172
                                              · replace hf := (if_neg c_23).symm.trans hf
                                                by_cases c_24 : a0 = 71
                                                · replace hf := (if_pos c_24).symm.trans hf
                                                  refine lv_tableIn (tgt := 167) hx hb d_M_longKind_1 (by rw [c_24]; decide) (by rw [c_24]; decide) (by rw [c_24] <;> rfl) (by decide) ?_
                                                  refine lv_bipush (v := 47) hx hb d_M_longKind_167 (by decide) ?_
                                                  exact W.iret (v := 47) hx hb hr (fun t ht hW => ⟨congrArg (fun z => Outcome.returned (some (Value.int z))) (Option.some.inj hf), ht⟩) (fun q h => nomatch h) d_M_longKind_169
                                                · replace hf := (if_neg c_24).symm.trans hf
                                                  by_cases c_25 : a0 = 72
                                                  · replace hf := (if_pos c_25).symm.trans hf
                                                    refine lv_tableIn (tgt := 165) hx hb d_M_longKind_1 (by rw [c_25]; decide) (by rw [c_25]; decide) (by rw [c_25] <;> rfl) (by decide) ?_
                                                    refine lv_iconst (v := 3) hx hb d_M_longKind_165 (by decide) ?_
                                                    exact W.iret (v := 3) hx hb hr (fun t ht hW => ⟨congrArg (fun z => Outcome.returned (some (Value.int z))) (Option.some.inj hf), ht⟩) (fun q h => nomatch h) d_M_longKind_166
                                                  · replace hf := (if_neg c_25).symm.trans hf
                                                    by_cases c_26 : a0 = 73
                                                    · replace hf := (if_pos c_26).symm.trans hf
                                                      refine lv_tableIn (tgt := 170) hx hb d_M_longKind_1 (by rw [c_26]; decide) (by rw [c_26]; decide) (by rw [c_26] <;> rfl) (by decide) ?_
                                                      refine lv_bipush (v := 27) hx hb d_M_longKind_170 (by decide) ?_
                                                      exact W.iret (v := 27) hx hb hr (fun t ht hW => ⟨congrArg (fun z => Outcome.returned (some (Value.int z))) (Option.some.inj hf), ht⟩) (fun q h => nomatch h) d_M_longKind_172
                                                    · replace hf := (if_neg c_26).symm.trans hf
                                                      by_cases c_27 : a0 = 74
                                                      · replace hf := (if_pos c_27).symm.trans hf
                                                        refine lv_tableIn (tgt := 130) hx hb d_M_longKind_1 (by rw [c_27]; decide) (by rw [c_27]; decide) (by rw [c_27] <;> rfl) (by decide) ?_
                                                        refine lv_bipush (v := 17) hx hb d_M_longKind_130 (by decide) ?_
                                                        exact W.iret (v := 17) hx hb hr (fun t ht hW => ⟨congrArg (fun z => Outcome.returned (some (Value.int z))) (Option.some.inj hf), ht⟩) (fun q h => nomatch h) d_M_longKind_132
                                                      · replace hf := (if_neg c_27).symm.trans hf
                                                        refine lv_tableOut (tgt := 170) hx hb d_M_longKind_1 (by have q0 := lv_neT c_1 (k := 48) (a := 48) rfl; have q1 := lv_neT c_2 (k := 49) (a := 49) rfl; have q2 := lv_neT c_3 (k := 50) (a := 50) rfl; have q3 := lv_neT c_4 (k := 51) (a := 51) rfl; have q4 := lv_neT c_5 (k := 52) (a := 52) rfl; have q5 := lv_neT c_6 (k := 53) (a := 53) rfl; have q6 := lv_neT c_7 (k := 54) (a := 54) rfl; have q7 := lv_neT c_8 (k := 55) (a := 55) rfl; have q8 := lv_neT c_9 (k := 56) (a := 56) rfl; have q9 := lv_neT c_10 (k := 57) (a := 57) rfl; have q10 := lv_neT c_11 (k := 58) (a := 58) rfl; have q11 := lv_neT c_12 (k := 59) (a := 59) rfl; have q12 := lv_neT c_13 (k := 60) (a := 60) rfl; have q13 := lv_neT c_14 (k := 61) (a := 61) rfl; have q14 := lv_neT c_15 (k := 62) (a := 62) rfl; have q15 := lv_neT c_16 (k := 63) (a := 63) rfl; have q16 := lv_neT c_17 (k := 64) (a := 64) rfl; have q17 := lv_neT c_18 (k := 65) (a := 65) rfl; have q18 := lv_neT c_19 (k := 66) (a := 66) rfl; have q19 := lv_neT c_20 (k := 67) (a := 67) rfl; have q20 := lv_neT c_21 (k := 68) (a := 68) rfl; have q21 := lv_neT c_22 (k := 69) (a := 69) rfl; have q22 := lv_neT c_23 (k := 70) (a := 70) rfl; have q23 := lv_neT c_24 (k := 71) (a := 71) rfl; have q24 := lv_neT c_25 (k := 72) (a := 72) rfl; have q25 := lv_neT c_26 (k := 73) (a := 73) rfl; have q26 := lv_neT c_27 (k := 74) (a := 74) rfl; omega) (by decide) ?_
                                                        refine lv_bipush (v := 27) hx hb d_M_longKind_170 (by decide) ?_
                                                        exact W.iret (v := 27) hx hb hr (fun t ht hW => ⟨congrArg (fun z => Outcome.returned (some (Value.int z))) (Option.some.inj hf), ht⟩) (fun q h => nomatch h) d_M_longKind_172

def f_M_patternOf_L39 (a0 : Int32)   : Option (Int32) :=
  if a0 = 49 then (some (3)) else ((f_M_isBranch a0).bind fun r_7 => if (bI r_7) = 0 then ((f_M_isStore a0).bind fun r_10 => if (bI r_10) = 0 then (if a0 = 50 then (some (4)) else (if 27 ≤ a0 then (if 45 ≤ a0 then (if a0 < 48 then (some (0)) else (if a0 = 51 then (some (0)) else (if a0 = 71 then (some (0)) else (if a0 = 48 then (some (15)) else ( if a0 = 49 then (some (12)) else ( if a0 = 50 then (some (12)) else ( if a0 = 51 then (some (12)) else ( if a0 = 52 then (some (12)) else ( if a0 = 53 then (some (8)) else ( if a0 = 54 then (some (12)) else ( if a0 = 55 then (some (16)) else ( if a0 = 56 then (some (12)) else ( if a0 = 57 then (some (12)) else ( if a0 = 58 then (some (12)) else ( if a0 = 59 then (some (12)) else ( if a0 = 60 then (some (10)) else ( if a0 = 61 then (some (10)) else ( if a0 = 62 then (some (10)) else ( if a0 = 63 then (some (10)) else ( if a0 = 64 then (some (8)) else ( if a0 = 65 then (some (9)) else ( if a0 = 66 then (some (9)) else ( if a0 = 67 then (some (12)) else ( if a0 = 68 then (some (13)) else ( if a0 = 69 then (some (11)) else ( if a0 = 70 then (some (10)) else ( if a0 = 71 then (some (12)) else ( if a0 = 72 then (some (11)) else ( if a0 = 73 then (some (10)) else ( if a0 = 74 then (some (14)) else (some (12)))))))))))))))))))))))))))))))) else (some (1))) else (some (2)))) else (some (4))) else (some (5)))
def f_M_patternOf (a0 : Int32) : Option Int32 :=
  if a0 < 2 then (some (6)) else (if a0 = 56 then (some (6)) else (if a0 = 2 then (some (7)) else (if a0 = 3 then (some (3)) else (if a0 ≤ 9 then (f_M_patternOf_L39 a0  ) else (if a0 < 15 then (some (3)) else (f_M_patternOf_L39 a0  ))))))
set_option maxHeartbeats 4000000 in
set_option maxRecDepth 100000 in
theorem c_M_patternOf (l : Launch) {ad sk sv : Nat → Nat} {tK : Nat} (a0 : Int32)  (r : Int32) (hf : f_M_patternOf a0 = some r) : Met l y_M_patternOf (Cond.code y_M_patternOf b_M_patternOf 1 (Option.some FieldType.int) :: aw) ({ frames := 1, cells := 0, slots := 0, locals := 20 } : Room) (va_Pc [.int (a0)] (fun U => tb ad sk sv tK (fun _ => False) U U.heap)) (QcRead r) 0 0 (fun _ => False) := by
  refine Met.ofW (cc := b_M_patternOf) (maxL := 1) (ret := (Option.some FieldType.int)) (by decide) rfl ?_
  intro p e s m args below meth c s₁ B hml hv
  obtain ⟨rfl, hT⟩ := hv
  have hx := B.exec
  have hb := B.bytes
  have hr := B.returns
  have hts := atoms_spec (ws := (Cond.code y_M_patternOf b_M_patternOf 1 (Option.some FieldType.int) :: aw)) B.pre
  have ht : ∀ {w : Cond}, w ∈ aw → w.before ([.int (a0)] : List Value).toArray s = true := fun h => hts _ (List.mem_cons_of_mem _ h)
  have hown : s.vm.findClass "CodeWordsModel" = some m.cls := findClass_of_methodNamed B.named
  have hlocks := B.notSynchronized
  have hS : va_S (fun _ => False) s.heap s.heap [] := va_S.rf
  have hl := lv_entry ([.int (a0)]) (n := 1) (Nat.le_of_ble_eq_true rfl)
  rw [lg_entry_eq]
  generalize (lg_sl ([.int (a0)]) ++ List.replicate (1 - (lg_sl ([.int (a0)])).length) Slot.unset).toArray = ls at hl ⊢
  have hl : lv_has ls 1 [(0, .int (a0))] := hl
  have J39 : ∀  (ls : Array Slot), lv_has ls 1 [(0, .int (a0))] → f_M_patternOf_L39 a0   = some r → pW p l e (headSpec (Cond.code y_M_patternOf b_M_patternOf 1 (Option.some FieldType.int) :: aw) ({ frames := 1, cells := 0, slots := 0, locals := 20 } : Room)).room s m ([.int (a0)] : List Value).toArray below meth c r (F0 m 39 ls []) := by
    intro   ls  hl hf
    rw [f_M_patternOf_L39] at hf
    refine lv_iload_n hx hb d_M_patternOf_39 rfl (lv_at hl 0 rfl) ?_
    refine lv_bipush (v := 49) hx hb d_M_patternOf_40 (by decide) ?_
    refine lv_icmp_ne (tgt := 47) hx hb d_M_patternOf_42 (by decide) (fun c_6 => ?_) (fun c_6 => ?_)
    · replace hf := (if_neg c_6).symm.trans hf
      refine lv_iload_n hx hb d_M_patternOf_47 rfl (lv_at hl 0 rfl) ?_
      obtain ⟨r_7, g_8, hf⟩ := Option.bind_eq_some_iff.mp hf
      refine ju_calli (W.runS (As := [.int (a0)]) (rest := []) ⟨hx, hb, hml, hown, hts⟩ (c_M_isBranch l (ad := ad) (sk := sk) (sv := sv) (tK := tK)  a0  r_7 g_8) (va_cwS 1 hts (aw_S aw_411 aw_412 aw_2 aw_413) rfl rfl rfl (by decide +kernel) ⟨Nat.le_of_ble_eq_true rfl, Nat.le_of_ble_eq_true rfl⟩) ⟨fun a U g mk q => ⟨q.1, q.2.call⟩, fun U hU hW => ⟨rfl, hT.at hS hU hW (fun _ z => z.elim)⟩⟩ rfl rfl hl.1 rfl (lv_room (Nat.le_of_ble_eq_true rfl)) d_M_patternOf_48 ⟨Nat.le_refl _, Nat.le_refl _⟩) ?_
      refine lv_if_eq (tgt := 56) hx hb d_M_patternOf_51 (by decide) (fun c_9 => ?_) (fun c_9 => ?_)
      · replace hf := (if_pos c_9).symm.trans hf
        refine lv_iload_n hx hb d_M_patternOf_56 rfl (lv_at hl 0 rfl) ?_
        obtain ⟨r_10, g_11, hf⟩ := Option.bind_eq_some_iff.mp hf
        refine ju_calli (W.runS (As := [.int (a0)]) (rest := []) ⟨hx, hb, hml, hown, hts⟩ (c_M_isStore l (ad := ad) (sk := sk) (sv := sv) (tK := tK)  a0  r_10 g_11) (va_cwS 1 hts (aw_S aw_414 aw_415 aw_2 aw_416) rfl rfl rfl (by decide +kernel) ⟨Nat.le_of_ble_eq_true rfl, Nat.le_of_ble_eq_true rfl⟩) ⟨fun a U g mk q => ⟨q.1, q.2.call⟩, fun U hU hW => ⟨rfl, hT.at hS hU hW (fun _ z => z.elim)⟩⟩ rfl rfl hl.1 rfl (lv_room (Nat.le_of_ble_eq_true rfl)) d_M_patternOf_57 ⟨Nat.le_refl _, Nat.le_refl _⟩) ?_
        refine lv_if_ne (tgt := 69) hx hb d_M_patternOf_60 (by decide) (fun c_12 => ?_) (fun c_12 => ?_)
        · replace hf := (if_neg c_12).symm.trans hf
          refine lv_iconst (v := 4) hx hb d_M_patternOf_69 (by decide) ?_
          exact W.iret (v := 4) hx hb hr (fun t ht hW => ⟨congrArg (fun z => Outcome.returned (some (Value.int z))) (Option.some.inj hf), ht⟩) (fun q h => nomatch h) d_M_patternOf_70
        · replace hf := (if_pos c_12).symm.trans hf
          refine lv_iload_n hx hb d_M_patternOf_63 rfl (lv_at hl 0 rfl) ?_
          refine lv_bipush (v := 50) hx hb d_M_patternOf_64 (by decide) ?_
          refine lv_icmp_ne (tgt := 71) hx hb d_M_patternOf_66 (by decide) (fun c_13 => ?_) (fun c_13 => ?_)
          · replace hf := (if_neg c_13).symm.trans hf
            refine lv_iload_n hx hb d_M_patternOf_71 rfl (lv_at hl 0 rfl) ?_
            refine lv_bipush (v := 27) hx hb d_M_patternOf_72 (by decide) ?_
            refine lv_icmp_ge (tgt := 79) hx hb d_M_patternOf_74 (by decide) (fun c_14 => ?_) (fun c_14 => ?_)
            · replace hf := (if_pos c_14).symm.trans hf
              refine lv_iload_n hx hb d_M_patternOf_79 rfl (lv_at hl 0 rfl) ?_
              refine lv_bipush (v := 45) hx hb d_M_patternOf_80 (by decide) ?_
              refine lv_icmp_ge (tgt := 87) hx hb d_M_patternOf_82 (by decide) (fun c_15 => ?_) (fun c_15 => ?_)
              · replace hf := (if_pos c_15).symm.trans hf
                refine lv_iload_n hx hb d_M_patternOf_87 rfl (lv_at hl 0 rfl) ?_
                refine lv_bipush (v := 48) hx hb d_M_patternOf_88 (by decide) ?_
                refine lv_icmp_lt (tgt := 105) hx hb d_M_patternOf_90 (by decide) (fun c_16 => ?_) (fun c_16 => ?_)
                · replace hf := (if_pos c_16).symm.trans hf
                  refine lv_iconst (v := 0) hx hb d_M_patternOf_105 (by decide) ?_
                  exact W.iret (v := 0) hx hb hr (fun t ht hW => ⟨congrArg (fun z => Outcome.returned (some (Value.int z))) (Option.some.inj hf), ht⟩) (fun q h => nomatch h) d_M_patternOf_106
                · replace hf := (if_neg c_16).symm.trans hf
                  refine lv_iload_n hx hb d_M_patternOf_93 rfl (lv_at hl 0 rfl) ?_
                  refine lv_bipush (v := 51) hx hb d_M_patternOf_94 (by decide) ?_
                  refine lv_icmp_eq (tgt := 105) hx hb d_M_patternOf_96 (by decide) (fun c_17 => ?_) (fun c_17 => ?_)
                  · replace hf := (if_pos c_17).symm.trans hf
                    refine lv_iconst (v := 0) hx hb d_M_patternOf_105 (by decide) ?_
                    exact W.iret (v := 0) hx hb hr (fun t ht hW => ⟨congrArg (fun z => Outcome.returned (some (Value.int z))) (Option.some.inj hf), ht⟩) (fun q h => nomatch h) d_M_patternOf_106
                  · replace hf := (if_neg c_17).symm.trans hf
                    refine lv_iload_n hx hb d_M_patternOf_99 rfl (lv_at hl 0 rfl) ?_
                    refine lv_bipush (v := 71) hx hb d_M_patternOf_100 (by decide) ?_
                    refine lv_icmp_ne (tgt := 107) hx hb d_M_patternOf_102 (by decide) (fun c_18 => ?_) (fun c_18 => ?_)
                    · replace hf := (if_neg c_18).symm.trans hf
                      refine lv_iload_n hx hb d_M_patternOf_107 rfl (lv_at hl 0 rfl) ?_
                      by_cases c_19 : a0 = 48
                      · replace hf := (if_pos c_19).symm.trans hf
                        refine lv_tableIn (tgt := 232) hx hb d_M_patternOf_108 (by rw [c_19]; decide) (by rw [c_19]; decide) (by rw [c_19] <;> rfl) (by decide) ?_
                        refine lv_bipush (v := 15) hx hb d_M_patternOf_232 (by decide) ?_
                        exact W.iret (v := 15) hx hb hr (fun t ht hW => ⟨congrArg (fun z => Outcome.returned (some (Value.int z))) (Option.some.inj hf), ht⟩) (fun q h => nomatch h) d_M_patternOf_234
                      · replace hf := (if_neg c_19).symm.trans hf
                        by_cases c_20 : a0 = 49
                        · replace hf := (if_pos c_20).symm.trans hf
                          refine lv_tableIn (tgt := 256) hx hb d_M_patternOf_108 (by rw [c_20]; decide) (by rw [c_20]; decide) (by rw [c_20] <;> rfl) (by decide) ?_
                          refine lv_bipush (v := 12) hx hb d_M_patternOf_256 (by decide) ?_
                          exact W.iret (v := 12) hx hb hr (fun t ht hW => ⟨congrArg (fun z => Outcome.returned (some (Value.int z))) (Option.some.inj hf), ht⟩) (fun q h => nomatch h) d_M_patternOf_258
                        · replace hf := (if_neg c_20).symm.trans hf
                          by_cases c_21 : a0 = 50
                          · replace hf := (if_pos c_21).symm.trans hf
                            refine lv_tableIn (tgt := 256) hx hb d_M_patternOf_108 (by rw [c_21]; decide) (by rw [c_21]; decide) (by rw [c_21] <;> rfl) (by decide) ?_
                            refine lv_bipush (v := 12) hx hb d_M_patternOf_256 (by decide) ?_
                            exact W.iret (v := 12) hx hb hr (fun t ht hW => ⟨congrArg (fun z => Outcome.returned (some (Value.int z))) (Option.some.inj hf), ht⟩) (fun q h => nomatch h) d_M_patternOf_258
                          · replace hf := (if_neg c_21).symm.trans hf
                            by_cases c_22 : a0 = 51
                            · replace hf := (if_pos c_22).symm.trans hf
                              refine lv_tableIn (tgt := 256) hx hb d_M_patternOf_108 (by rw [c_22]; decide) (by rw [c_22]; decide) (by rw [c_22] <;> rfl) (by decide) ?_
                              refine lv_bipush (v := 12) hx hb d_M_patternOf_256 (by decide) ?_
                              exact W.iret (v := 12) hx hb hr (fun t ht hW => ⟨congrArg (fun z => Outcome.returned (some (Value.int z))) (Option.some.inj hf), ht⟩) (fun q h => nomatch h) d_M_patternOf_258
                            · replace hf := (if_neg c_22).symm.trans hf
                              by_cases c_23 : a0 = 52
                              · replace hf := (if_pos c_23).symm.trans hf
                                refine lv_tableIn (tgt := 256) hx hb d_M_patternOf_108 (by rw [c_23]; decide) (by rw [c_23]; decide) (by rw [c_23] <;> rfl) (by decide) ?_
                                refine lv_bipush (v := 12) hx hb d_M_patternOf_256 (by decide) ?_
                                exact W.iret (v := 12) hx hb hr (fun t ht hW => ⟨congrArg (fun z => Outcome.returned (some (Value.int z))) (Option.some.inj hf), ht⟩) (fun q h => nomatch h) d_M_patternOf_258
                              · replace hf := (if_neg c_23).symm.trans hf
                                by_cases c_24 : a0 = 53
                                · replace hf := (if_pos c_24).symm.trans hf
                                  refine lv_tableIn (tgt := 235) hx hb d_M_patternOf_108 (by rw [c_24]; decide) (by rw [c_24]; decide) (by rw [c_24] <;> rfl) (by decide) ?_
                                  refine lv_bipush (v := 8) hx hb d_M_patternOf_235 (by decide) ?_
                                  exact W.iret (v := 8) hx hb hr (fun t ht hW => ⟨congrArg (fun z => Outcome.returned (some (Value.int z))) (Option.some.inj hf), ht⟩) (fun q h => nomatch h) d_M_patternOf_237
                                · replace hf := (if_neg c_24).symm.trans hf
                                  by_cases c_25 : a0 = 54
                                  · replace hf := (if_pos c_25).symm.trans hf
                                    refine lv_tableIn (tgt := 256) hx hb d_M_patternOf_108 (by rw [c_25]; decide) (by rw [c_25]; decide) (by rw [c_25] <;> rfl) (by decide) ?_
                                    refine lv_bipush (v := 12) hx hb d_M_patternOf_256 (by decide) ?_
                                    exact W.iret (v := 12) hx hb hr (fun t ht hW => ⟨congrArg (fun z => Outcome.returned (some (Value.int z))) (Option.some.inj hf), ht⟩) (fun q h => nomatch h) d_M_patternOf_258
                                  · replace hf := (if_neg c_25).symm.trans hf
                                    by_cases c_26 : a0 = 55
                                    · replace hf := (if_pos c_26).symm.trans hf
                                      refine lv_tableIn (tgt := 238) hx hb d_M_patternOf_108 (by rw [c_26]; decide) (by rw [c_26]; decide) (by rw [c_26] <;> rfl) (by decide) ?_
                                      refine lv_bipush (v := 16) hx hb d_M_patternOf_238 (by decide) ?_
                                      exact W.iret (v := 16) hx hb hr (fun t ht hW => ⟨congrArg (fun z => Outcome.returned (some (Value.int z))) (Option.some.inj hf), ht⟩) (fun q h => nomatch h) d_M_patternOf_240
                                    · replace hf := (if_neg c_26).symm.trans hf
                                      by_cases c_27 : a0 = 56
                                      · replace hf := (if_pos c_27).symm.trans hf
                                        refine lv_tableIn (tgt := 256) hx hb d_M_patternOf_108 (by rw [c_27]; decide) (by rw [c_27]; decide) (by rw [c_27] <;> rfl) (by decide) ?_
                                        refine lv_bipush (v := 12) hx hb d_M_patternOf_256 (by decide) ?_
                                        exact W.iret (v := 12) hx hb hr (fun t ht hW => ⟨congrArg (fun z => Outcome.returned (some (Value.int z))) (Option.some.inj hf), ht⟩) (fun q h => nomatch h) d_M_patternOf_258
                                      · replace hf := (if_neg c_27).symm.trans hf
                                        by_cases c_28 : a0 = 57
                                        · replace hf := (if_pos c_28).symm.trans hf
                                          refine lv_tableIn (tgt := 256) hx hb d_M_patternOf_108 (by rw [c_28]; decide) (by rw [c_28]; decide) (by rw [c_28] <;> rfl) (by decide) ?_
                                          refine lv_bipush (v := 12) hx hb d_M_patternOf_256 (by decide) ?_
                                          exact W.iret (v := 12) hx hb hr (fun t ht hW => ⟨congrArg (fun z => Outcome.returned (some (Value.int z))) (Option.some.inj hf), ht⟩) (fun q h => nomatch h) d_M_patternOf_258
                                        · replace hf := (if_neg c_28).symm.trans hf
                                          by_cases c_29 : a0 = 58
                                          · replace hf := (if_pos c_29).symm.trans hf
                                            refine lv_tableIn (tgt := 256) hx hb d_M_patternOf_108 (by rw [c_29]; decide) (by rw [c_29]; decide) (by rw [c_29] <;> rfl) (by decide) ?_
                                            refine lv_bipush (v := 12) hx hb d_M_patternOf_256 (by decide) ?_
                                            exact W.iret (v := 12) hx hb hr (fun t ht hW => ⟨congrArg (fun z => Outcome.returned (some (Value.int z))) (Option.some.inj hf), ht⟩) (fun q h => nomatch h) d_M_patternOf_258
                                          · replace hf := (if_neg c_29).symm.trans hf
                                            by_cases c_30 : a0 = 59
                                            · replace hf := (if_pos c_30).symm.trans hf
                                              refine lv_tableIn (tgt := 256) hx hb d_M_patternOf_108 (by rw [c_30]; decide) (by rw [c_30]; decide) (by rw [c_30] <;> rfl) (by decide) ?_
                                              refine lv_bipush (v := 12) hx hb d_M_patternOf_256 (by decide) ?_
                                              exact W.iret (v := 12) hx hb hr (fun t ht hW => ⟨congrArg (fun z => Outcome.returned (some (Value.int z))) (Option.some.inj hf), ht⟩) (fun q h => nomatch h) d_M_patternOf_258
                                            · replace hf := (if_neg c_30).symm.trans hf
                                              by_cases c_31 : a0 = 60
                                              · replace hf := (if_pos c_31).symm.trans hf
                                                refine lv_tableIn (tgt := 241) hx hb d_M_patternOf_108 (by rw [c_31]; decide) (by rw [c_31]; decide) (by rw [c_31] <;> rfl) (by decide) ?_
                                                refine lv_bipush (v := 10) hx hb d_M_patternOf_241 (by decide) ?_
                                                exact W.iret (v := 10) hx hb hr (fun t ht hW => ⟨congrArg (fun z => Outcome.returned (some (Value.int z))) (Option.some.inj hf), ht⟩) (fun q h => nomatch h) d_M_patternOf_243
                                              · replace hf := (if_neg c_31).symm.trans hf
                                                by_cases c_32 : a0 = 61
                                                · replace hf := (if_pos c_32).symm.trans hf
                                                  refine lv_tableIn (tgt := 241) hx hb d_M_patternOf_108 (by rw [c_32]; decide) (by rw [c_32]; decide) (by rw [c_32] <;> rfl) (by decide) ?_
                                                  refine lv_bipush (v := 10) hx hb d_M_patternOf_241 (by decide) ?_
                                                  exact W.iret (v := 10) hx hb hr (fun t ht hW => ⟨congrArg (fun z => Outcome.returned (some (Value.int z))) (Option.some.inj hf), ht⟩) (fun q h => nomatch h) d_M_patternOf_243
                                                · replace hf := (if_neg c_32).symm.trans hf
                                                  by_cases c_33 : a0 = 62
                                                  · replace hf := (if_pos c_33).symm.trans hf
                                                    refine lv_tableIn (tgt := 241) hx hb d_M_patternOf_108 (by rw [c_33]; decide) (by rw [c_33]; decide) (by rw [c_33] <;> rfl) (by decide) ?_
                                                    refine lv_bipush (v := 10) hx hb d_M_patternOf_241 (by decide) ?_
                                                    exact W.iret (v := 10) hx hb hr (fun t ht hW => ⟨congrArg (fun z => Outcome.returned (some (Value.int z))) (Option.some.inj hf), ht⟩) (fun q h => nomatch h) d_M_patternOf_243
                                                  · replace hf := (if_neg c_33).symm.trans hf
                                                    by_cases c_34 : a0 = 63
                                                    · replace hf := (if_pos c_34).symm.trans hf
                                                      refine lv_tableIn (tgt := 241) hx hb d_M_patternOf_108 (by rw [c_34]; decide) (by rw [c_34]; decide) (by rw [c_34] <;> rfl) (by decide) ?_
                                                      refine lv_bipush (v := 10) hx hb d_M_patternOf_241 (by decide) ?_
                                                      exact W.iret (v := 10) hx hb hr (fun t ht hW => ⟨congrArg (fun z => Outcome.returned (some (Value.int z))) (Option.some.inj hf), ht⟩) (fun q h => nomatch h) d_M_patternOf_243
                                                    · replace hf := (if_neg c_34).symm.trans hf
                                                      by_cases c_35 : a0 = 64
                                                      · replace hf := (if_pos c_35).symm.trans hf
                                                        refine lv_tableIn (tgt := 235) hx hb d_M_patternOf_108 (by rw [c_35]; decide) (by rw [c_35]; decide) (by rw [c_35] <;> rfl) (by decide) ?_
                                                        refine lv_bipush (v := 8) hx hb d_M_patternOf_235 (by decide) ?_
                                                        exact W.iret (v := 8) hx hb hr (fun t ht hW => ⟨congrArg (fun z => Outcome.returned (some (Value.int z))) (Option.some.inj hf), ht⟩) (fun q h => nomatch h) d_M_patternOf_237
                                                      · replace hf := (if_neg c_35).symm.trans hf
                                                        by_cases c_36 : a0 = 65
                                                        · replace hf := (if_pos c_36).symm.trans hf
                                                          refine lv_tableIn (tgt := 244) hx hb d_M_patternOf_108 (by rw [c_36]; decide) (by rw [c_36]; decide) (by rw [c_36] <;> rfl) (by decide) ?_
                                                          refine lv_bipush (v := 9) hx hb d_M_patternOf_244 (by decide) ?_
                                                          exact W.iret (v := 9) hx hb hr (fun t ht hW => ⟨congrArg (fun z => Outcome.returned (some (Value.int z))) (Option.some.inj hf), ht⟩) (fun q h => nomatch h) d_M_patternOf_246
                                                        · replace hf := (if_neg c_36).symm.trans hf
                                                          by_cases c_37 : a0 = 66
                                                          · replace hf := (if_pos c_37).symm.trans hf
                                                            refine lv_tableIn (tgt := 244) hx hb d_M_patternOf_108 (by rw [c_37]; decide) (by rw [c_37]; decide) (by rw [c_37] <;> rfl) (by decide) ?_
                                                            refine lv_bipush (v := 9) hx hb d_M_patternOf_244 (by decide) ?_
                                                            exact W.iret (v := 9) hx hb hr (fun t ht hW => ⟨congrArg (fun z => Outcome.returned (some (Value.int z))) (Option.some.inj hf), ht⟩) (fun q h => nomatch h) d_M_patternOf_246
                                                          · replace hf := (if_neg c_37).symm.trans hf
                                                            by_cases c_38 : a0 = 67
                                                            · replace hf := (if_pos c_38).symm.trans hf
                                                              refine lv_tableIn (tgt := 256) hx hb d_M_patternOf_108 (by rw [c_38]; decide) (by rw [c_38]; decide) (by rw [c_38] <;> rfl) (by decide) ?_
                                                              refine lv_bipush (v := 12) hx hb d_M_patternOf_256 (by decide) ?_
                                                              exact W.iret (v := 12) hx hb hr (fun t ht hW => ⟨congrArg (fun z => Outcome.returned (some (Value.int z))) (Option.some.inj hf), ht⟩) (fun q h => nomatch h) d_M_patternOf_258
                                                            · replace hf := (if_neg c_38).symm.trans hf
                                                              by_cases c_39 : a0 = 68
                                                              · replace hf := (if_pos c_39).symm.trans hf
                                                                refine lv_tableIn (tgt := 247) hx hb d_M_patternOf_108 (by rw [c_39]; decide) (by rw [c_39]; decide) (by rw [c_39] <;> rfl) (by decide) ?_
                                                                refine lv_bipush (v := 13) hx hb d_M_patternOf_247 (by decide) ?_
                                                                exact W.iret (v := 13) hx hb hr (fun t ht hW => ⟨congrArg (fun z => Outcome.returned (some (Value.int z))) (Option.some.inj hf), ht⟩) (fun q h => nomatch h) d_M_patternOf_249
                                                              · replace hf := (if_neg c_39).symm.trans hf
                                                                by_cases c_40 : a0 = 69
                                                                · replace hf := (if_pos c_40).symm.trans hf
                                                                  refine lv_tableIn (tgt := 250) hx hb d_M_patternOf_108 (by rw [c_40]; decide) (by rw [c_40]; decide) (by rw [c_40] <;> rfl) (by decide) ?_
                                                                  refine lv_bipush (v := 11) hx hb d_M_patternOf_250 (by decide) ?_
                                                                  exact W.iret (v := 11) hx hb hr (fun t ht hW => ⟨congrArg (fun z => Outcome.returned (some (Value.int z))) (Option.some.inj hf), ht⟩) (fun q h => nomatch h) d_M_patternOf_252
                                                                · replace hf := (if_neg c_40).symm.trans hf
                                                                  by_cases c_41 : a0 = 70
                                                                  · replace hf := (if_pos c_41).symm.trans hf
                                                                    refine lv_tableIn (tgt := 241) hx hb d_M_patternOf_108 (by rw [c_41]; decide) (by rw [c_41]; decide) (by rw [c_41] <;> rfl) (by decide) ?_
                                                                    refine lv_bipush (v := 10) hx hb d_M_patternOf_241 (by decide) ?_
                                                                    exact W.iret (v := 10) hx hb hr (fun t ht hW => ⟨congrArg (fun z => Outcome.returned (some (Value.int z))) (Option.some.inj hf), ht⟩) (fun q h => nomatch h) d_M_patternOf_243
                                                                  · replace hf := (if_neg c_41).symm.trans hf
                                                                    by_cases c_42 : a0 = 71
                                                                    · replace hf := (if_pos c_42).symm.trans hf
                                                                      refine lv_tableIn (tgt := 256) hx hb d_M_patternOf_108 (by rw [c_42]; decide) (by rw [c_42]; decide) (by rw [c_42] <;> rfl) (by decide) ?_
                                                                      refine lv_bipush (v := 12) hx hb d_M_patternOf_256 (by decide) ?_
                                                                      exact W.iret (v := 12) hx hb hr (fun t ht hW => ⟨congrArg (fun z => Outcome.returned (some (Value.int z))) (Option.some.inj hf), ht⟩) (fun q h => nomatch h) d_M_patternOf_258
                                                                    · replace hf := (if_neg c_42).symm.trans hf
                                                                      by_cases c_43 : a0 = 72
                                                                      · replace hf := (if_pos c_43).symm.trans hf
                                                                        refine lv_tableIn (tgt := 250) hx hb d_M_patternOf_108 (by rw [c_43]; decide) (by rw [c_43]; decide) (by rw [c_43] <;> rfl) (by decide) ?_
                                                                        refine lv_bipush (v := 11) hx hb d_M_patternOf_250 (by decide) ?_
                                                                        exact W.iret (v := 11) hx hb hr (fun t ht hW => ⟨congrArg (fun z => Outcome.returned (some (Value.int z))) (Option.some.inj hf), ht⟩) (fun q h => nomatch h) d_M_patternOf_252
                                                                      · replace hf := (if_neg c_43).symm.trans hf
                                                                        by_cases c_44 : a0 = 73
                                                                        · replace hf := (if_pos c_44).symm.trans hf
                                                                          refine lv_tableIn (tgt := 241) hx hb d_M_patternOf_108 (by rw [c_44]; decide) (by rw [c_44]; decide) (by rw [c_44] <;> rfl) (by decide) ?_
                                                                          refine lv_bipush (v := 10) hx hb d_M_patternOf_241 (by decide) ?_
                                                                          exact W.iret (v := 10) hx hb hr (fun t ht hW => ⟨congrArg (fun z => Outcome.returned (some (Value.int z))) (Option.some.inj hf), ht⟩) (fun q h => nomatch h) d_M_patternOf_243
                                                                        · replace hf := (if_neg c_44).symm.trans hf
                                                                          by_cases c_45 : a0 = 74
                                                                          · replace hf := (if_pos c_45).symm.trans hf
                                                                            refine lv_tableIn (tgt := 253) hx hb d_M_patternOf_108 (by rw [c_45]; decide) (by rw [c_45]; decide) (by rw [c_45] <;> rfl) (by decide) ?_
                                                                            refine lv_bipush (v := 14) hx hb d_M_patternOf_253 (by decide) ?_
                                                                            exact W.iret (v := 14) hx hb hr (fun t ht hW => ⟨congrArg (fun z => Outcome.returned (some (Value.int z))) (Option.some.inj hf), ht⟩) (fun q h => nomatch h) d_M_patternOf_255
                                                                          · replace hf := (if_neg c_45).symm.trans hf
                                                                            refine lv_tableOut (tgt := 256) hx hb d_M_patternOf_108 (by have q0 := lv_neT c_19 (k := 48) (a := 48) rfl; have q1 := lv_neT c_20 (k := 49) (a := 49) rfl; have q2 := lv_neT c_21 (k := 50) (a := 50) rfl; have q3 := lv_neT c_22 (k := 51) (a := 51) rfl; have q4 := lv_neT c_23 (k := 52) (a := 52) rfl; have q5 := lv_neT c_24 (k := 53) (a := 53) rfl; have q6 := lv_neT c_25 (k := 54) (a := 54) rfl; have q7 := lv_neT c_26 (k := 55) (a := 55) rfl; have q8 := lv_neT c_27 (k := 56) (a := 56) rfl; have q9 := lv_neT c_28 (k := 57) (a := 57) rfl; have q10 := lv_neT c_29 (k := 58) (a := 58) rfl; have q11 := lv_neT c_30 (k := 59) (a := 59) rfl; have q12 := lv_neT c_31 (k := 60) (a := 60) rfl; have q13 := lv_neT c_32 (k := 61) (a := 61) rfl; have q14 := lv_neT c_33 (k := 62) (a := 62) rfl; have q15 := lv_neT c_34 (k := 63) (a := 63) rfl; have q16 := lv_neT c_35 (k := 64) (a := 64) rfl; have q17 := lv_neT c_36 (k := 65) (a := 65) rfl; have q18 := lv_neT c_37 (k := 66) (a := 66) rfl; have q19 := lv_neT c_38 (k := 67) (a := 67) rfl; have q20 := lv_neT c_39 (k := 68) (a := 68) rfl; have q21 := lv_neT c_40 (k := 69) (a := 69) rfl; have q22 := lv_neT c_41 (k := 70) (a := 70) rfl; have q23 := lv_neT c_42 (k := 71) (a := 71) rfl; have q24 := lv_neT c_43 (k := 72) (a := 72) rfl; have q25 := lv_neT c_44 (k := 73) (a := 73) rfl; have q26 := lv_neT c_45 (k := 74) (a := 74) rfl; omega) (by decide) ?_
                                                                            refine lv_bipush (v := 12) hx hb d_M_patternOf_256 (by decide) ?_
                                                                            exact W.iret (v := 12) hx hb hr (fun t ht hW => ⟨congrArg (fun z => Outcome.returned (some (Value.int z))) (Option.some.inj hf), ht⟩) (fun q h => nomatch h) d_M_patternOf_258
                    · replace hf := (if_pos c_18).symm.trans hf
                      refine lv_iconst (v := 0) hx hb d_M_patternOf_105 (by decide) ?_
                      exact W.iret (v := 0) hx hb hr (fun t ht hW => ⟨congrArg (fun z => Outcome.returned (some (Value.int z))) (Option.some.inj hf), ht⟩) (fun q h => nomatch h) d_M_patternOf_106
              · replace hf := (if_neg c_15).symm.trans hf
                refine lv_iconst (v := 1) hx hb d_M_patternOf_85 (by decide) ?_
                exact W.iret (v := 1) hx hb hr (fun t ht hW => ⟨congrArg (fun z => Outcome.returned (some (Value.int z))) (Option.some.inj hf), ht⟩) (fun q h => nomatch h) d_M_patternOf_86
            · replace hf := (if_neg c_14).symm.trans hf
              refine lv_iconst (v := 2) hx hb d_M_patternOf_77 (by decide) ?_
              exact W.iret (v := 2) hx hb hr (fun t ht hW => ⟨congrArg (fun z => Outcome.returned (some (Value.int z))) (Option.some.inj hf), ht⟩) (fun q h => nomatch h) d_M_patternOf_78
          · replace hf := (if_pos c_13).symm.trans hf
            refine lv_iconst (v := 4) hx hb d_M_patternOf_69 (by decide) ?_
            exact W.iret (v := 4) hx hb hr (fun t ht hW => ⟨congrArg (fun z => Outcome.returned (some (Value.int z))) (Option.some.inj hf), ht⟩) (fun q h => nomatch h) d_M_patternOf_70
      · replace hf := (if_neg c_9).symm.trans hf
        refine lv_iconst (v := 5) hx hb d_M_patternOf_54 (by decide) ?_
        exact W.iret (v := 5) hx hb hr (fun t ht hW => ⟨congrArg (fun z => Outcome.returned (some (Value.int z))) (Option.some.inj hf), ht⟩) (fun q h => nomatch h) d_M_patternOf_55
    · replace hf := (if_pos c_6).symm.trans hf
      refine lv_iconst (v := 3) hx hb d_M_patternOf_45 (by decide) ?_
      exact W.iret (v := 3) hx hb hr (fun t ht hW => ⟨congrArg (fun z => Outcome.returned (some (Value.int z))) (Option.some.inj hf), ht⟩) (fun q h => nomatch h) d_M_patternOf_46
  rw [f_M_patternOf] at hf
  refine lv_iload_n hx hb d_M_patternOf_0 rfl (lv_at hl 0 rfl) ?_
  refine lv_iconst (v := 2) hx hb d_M_patternOf_1 (by decide) ?_
  refine lv_icmp_lt (tgt := 11) hx hb d_M_patternOf_2 (by decide) (fun c_1 => ?_) (fun c_1 => ?_)
  · replace hf := (if_pos c_1).symm.trans hf
    refine lv_bipush (v := 6) hx hb d_M_patternOf_11 (by decide) ?_
    exact W.iret (v := 6) hx hb hr (fun t ht hW => ⟨congrArg (fun z => Outcome.returned (some (Value.int z))) (Option.some.inj hf), ht⟩) (fun q h => nomatch h) d_M_patternOf_13
  · replace hf := (if_neg c_1).symm.trans hf
    refine lv_iload_n hx hb d_M_patternOf_5 rfl (lv_at hl 0 rfl) ?_
    refine lv_bipush (v := 56) hx hb d_M_patternOf_6 (by decide) ?_
    refine lv_icmp_ne (tgt := 14) hx hb d_M_patternOf_8 (by decide) (fun c_2 => ?_) (fun c_2 => ?_)
    · replace hf := (if_neg c_2).symm.trans hf
      refine lv_iload_n hx hb d_M_patternOf_14 rfl (lv_at hl 0 rfl) ?_
      refine lv_iconst (v := 2) hx hb d_M_patternOf_15 (by decide) ?_
      refine lv_icmp_ne (tgt := 22) hx hb d_M_patternOf_16 (by decide) (fun c_3 => ?_) (fun c_3 => ?_)
      · replace hf := (if_neg c_3).symm.trans hf
        refine lv_iload_n hx hb d_M_patternOf_22 rfl (lv_at hl 0 rfl) ?_
        refine lv_iconst (v := 3) hx hb d_M_patternOf_23 (by decide) ?_
        refine lv_icmp_eq (tgt := 45) hx hb d_M_patternOf_24 (by decide) (fun c_4 => ?_) (fun c_4 => ?_)
        · replace hf := (if_pos c_4).symm.trans hf
          refine lv_iconst (v := 3) hx hb d_M_patternOf_45 (by decide) ?_
          exact W.iret (v := 3) hx hb hr (fun t ht hW => ⟨congrArg (fun z => Outcome.returned (some (Value.int z))) (Option.some.inj hf), ht⟩) (fun q h => nomatch h) d_M_patternOf_46
        · replace hf := (if_neg c_4).symm.trans hf
          refine lv_iload_n hx hb d_M_patternOf_27 rfl (lv_at hl 0 rfl) ?_
          refine lv_bipush (v := 9) hx hb d_M_patternOf_28 (by decide) ?_
          refine lv_icmp_le (tgt := 39) hx hb d_M_patternOf_30 (by decide) (fun c_5 => ?_) (fun c_5 => ?_)
          · replace hf := (if_pos c_5).symm.trans hf
            exact J39   _  (lv_sub hl [0] rfl) hf
          · replace hf := (if_neg c_5).symm.trans hf
            refine lv_iload_n hx hb d_M_patternOf_33 rfl (lv_at hl 0 rfl) ?_
            refine lv_bipush (v := 15) hx hb d_M_patternOf_34 (by decide) ?_
            refine lv_icmp_lt (tgt := 45) hx hb d_M_patternOf_36 (by decide) (fun c_46 => ?_) (fun c_46 => ?_)
            · replace hf := (if_pos c_46).symm.trans hf
              refine lv_iconst (v := 3) hx hb d_M_patternOf_45 (by decide) ?_
              exact W.iret (v := 3) hx hb hr (fun t ht hW => ⟨congrArg (fun z => Outcome.returned (some (Value.int z))) (Option.some.inj hf), ht⟩) (fun q h => nomatch h) d_M_patternOf_46
            · replace hf := (if_neg c_46).symm.trans hf
              exact J39   _  (lv_sub hl [0] rfl) hf
      · replace hf := (if_pos c_3).symm.trans hf
        refine lv_bipush (v := 7) hx hb d_M_patternOf_19 (by decide) ?_
        exact W.iret (v := 7) hx hb hr (fun t ht hW => ⟨congrArg (fun z => Outcome.returned (some (Value.int z))) (Option.some.inj hf), ht⟩) (fun q h => nomatch h) d_M_patternOf_21
    · replace hf := (if_pos c_2).symm.trans hf
      refine lv_bipush (v := 6) hx hb d_M_patternOf_11 (by decide) ?_
      exact W.iret (v := 6) hx hb hr (fun t ht hW => ⟨congrArg (fun z => Outcome.returned (some (Value.int z))) (Option.some.inj hf), ht⟩) (fun q h => nomatch h) d_M_patternOf_13

def f_M_codeOf_L28 (a0 : Int32)   : Option (Int32) :=
  if a0 < 48 then (some (0)) else (if 57 < a0 then (some (0)) else (some ((a0 - 48) + 27)))
def f_M_codeOf (a0 : Int32) : Option Int32 :=
  if a0 = 46 then (some (37)) else (if a0 < 97 then (f_M_codeOf_L28 a0  ) else (if 122 < a0 then (f_M_codeOf_L28 a0  ) else (some ((a0 - 97) + 1))))
set_option maxHeartbeats 4000000 in
set_option maxRecDepth 100000 in
theorem c_M_codeOf (l : Launch) {ad sk sv : Nat → Nat} {tK : Nat} (a0 : Int32)  (r : Int32) (hf : f_M_codeOf a0 = some r) : Met l y_M_codeOf (Cond.code y_M_codeOf b_M_codeOf 1 (Option.some FieldType.int) :: aw) ({ frames := 0, cells := 0, slots := 0, locals := 0 } : Room) (va_Pc [.int (a0)] (fun U => tb ad sk sv tK (fun _ => False) U U.heap)) (QcRead r) 0 0 (fun _ => False) := by
  refine Met.ofW (cc := b_M_codeOf) (maxL := 1) (ret := (Option.some FieldType.int)) (by decide) rfl ?_
  intro p e s m args below meth c s₁ B hml hv
  obtain ⟨rfl, hT⟩ := hv
  have hx := B.exec
  have hb := B.bytes
  have hr := B.returns
  have hts := atoms_spec (ws := (Cond.code y_M_codeOf b_M_codeOf 1 (Option.some FieldType.int) :: aw)) B.pre
  have ht : ∀ {w : Cond}, w ∈ aw → w.before ([.int (a0)] : List Value).toArray s = true := fun h => hts _ (List.mem_cons_of_mem _ h)
  have hown : s.vm.findClass "CodeWordsModel" = some m.cls := findClass_of_methodNamed B.named
  have hlocks := B.notSynchronized
  have hS : va_S (fun _ => False) s.heap s.heap [] := va_S.rf
  have hl := lv_entry ([.int (a0)]) (n := 1) (Nat.le_of_ble_eq_true rfl)
  rw [lg_entry_eq]
  generalize (lg_sl ([.int (a0)]) ++ List.replicate (1 - (lg_sl ([.int (a0)])).length) Slot.unset).toArray = ls at hl ⊢
  have hl : lv_has ls 1 [(0, .int (a0))] := hl
  have J28 : ∀  (ls : Array Slot), lv_has ls 1 [(0, .int (a0))] → f_M_codeOf_L28 a0   = some r → pW p l e (headSpec (Cond.code y_M_codeOf b_M_codeOf 1 (Option.some FieldType.int) :: aw) ({ frames := 0, cells := 0, slots := 0, locals := 0 } : Room)).room s m ([.int (a0)] : List Value).toArray below meth c r (F0 m 28 ls []) := by
    intro   ls  hl hf
    rw [f_M_codeOf_L28] at hf
    refine lv_iload_n hx hb d_M_codeOf_28 rfl (lv_at hl 0 rfl) ?_
    refine lv_bipush (v := 48) hx hb d_M_codeOf_29 (by decide) ?_
    refine lv_icmp_lt (tgt := 50) hx hb d_M_codeOf_31 (by decide) (fun c_3 => ?_) (fun c_3 => ?_)
    · replace hf := (if_pos c_3).symm.trans hf
      refine lv_iconst (v := 0) hx hb d_M_codeOf_50 (by decide) ?_
      exact W.iret (v := 0) hx hb hr (fun t ht hW => ⟨congrArg (fun z => Outcome.returned (some (Value.int z))) (Option.some.inj hf), ht⟩) (fun q h => nomatch h) d_M_codeOf_51
    · replace hf := (if_neg c_3).symm.trans hf
      refine lv_iload_n hx hb d_M_codeOf_34 rfl (lv_at hl 0 rfl) ?_
      refine lv_bipush (v := 57) hx hb d_M_codeOf_35 (by decide) ?_
      refine lv_icmp_gt (tgt := 50) hx hb d_M_codeOf_37 (by decide) (fun c_4 => ?_) (fun c_4 => ?_)
      · replace hf := (if_pos c_4).symm.trans hf
        refine lv_iconst (v := 0) hx hb d_M_codeOf_50 (by decide) ?_
        exact W.iret (v := 0) hx hb hr (fun t ht hW => ⟨congrArg (fun z => Outcome.returned (some (Value.int z))) (Option.some.inj hf), ht⟩) (fun q h => nomatch h) d_M_codeOf_51
      · replace hf := (if_neg c_4).symm.trans hf
        refine lv_iload_n hx hb d_M_codeOf_40 rfl (lv_at hl 0 rfl) ?_
        refine lv_bipush (v := 48) hx hb d_M_codeOf_41 (by decide) ?_
        refine lv_isub hx hb d_M_codeOf_43 ?_
        refine lv_bipush (v := 27) hx hb d_M_codeOf_44 (by decide) ?_
        refine lv_iadd hx hb d_M_codeOf_46 ?_
        refine lv_goto (tgt := 51) hx hb d_M_codeOf_47 (by decide) ?_
        exact W.iret (v := (a0 - 48) + 27) hx hb hr (fun t ht hW => ⟨congrArg (fun z => Outcome.returned (some (Value.int z))) (Option.some.inj hf), ht⟩) (fun q h => nomatch h) d_M_codeOf_51
  rw [f_M_codeOf] at hf
  refine lv_iload_n hx hb d_M_codeOf_0 rfl (lv_at hl 0 rfl) ?_
  refine lv_bipush (v := 46) hx hb d_M_codeOf_1 (by decide) ?_
  refine lv_icmp_ne (tgt := 9) hx hb d_M_codeOf_3 (by decide) (fun c_1 => ?_) (fun c_1 => ?_)
  · replace hf := (if_neg c_1).symm.trans hf
    refine lv_iload_n hx hb d_M_codeOf_9 rfl (lv_at hl 0 rfl) ?_
    refine lv_bipush (v := 97) hx hb d_M_codeOf_10 (by decide) ?_
    refine lv_icmp_lt (tgt := 28) hx hb d_M_codeOf_12 (by decide) (fun c_2 => ?_) (fun c_2 => ?_)
    · replace hf := (if_pos c_2).symm.trans hf
      exact J28   _  (lv_sub hl [0] rfl) hf
    · replace hf := (if_neg c_2).symm.trans hf
      refine lv_iload_n hx hb d_M_codeOf_15 rfl (lv_at hl 0 rfl) ?_
      refine lv_bipush (v := 122) hx hb d_M_codeOf_16 (by decide) ?_
      refine lv_icmp_gt (tgt := 28) hx hb d_M_codeOf_18 (by decide) (fun c_5 => ?_) (fun c_5 => ?_)
      · replace hf := (if_pos c_5).symm.trans hf
        exact J28   _  (lv_sub hl [0] rfl) hf
      · replace hf := (if_neg c_5).symm.trans hf
        refine lv_iload_n hx hb d_M_codeOf_21 rfl (lv_at hl 0 rfl) ?_
        refine lv_bipush (v := 97) hx hb d_M_codeOf_22 (by decide) ?_
        refine lv_isub hx hb d_M_codeOf_24 ?_
        refine lv_iconst (v := 1) hx hb d_M_codeOf_25 (by decide) ?_
        refine lv_iadd hx hb d_M_codeOf_26 ?_
        exact W.iret (v := (a0 - 97) + 1) hx hb hr (fun t ht hW => ⟨congrArg (fun z => Outcome.returned (some (Value.int z))) (Option.some.inj hf), ht⟩) (fun q h => nomatch h) d_M_codeOf_27
  · replace hf := (if_pos c_1).symm.trans hf
    refine lv_bipush (v := 37) hx hb d_M_codeOf_6 (by decide) ?_
    exact W.iret (v := 37) hx hb hr (fun t ht hW => ⟨congrArg (fun z => Outcome.returned (some (Value.int z))) (Option.some.inj hf), ht⟩) (fun q h => nomatch h) d_M_codeOf_8

def f_M_lettersOf_L4 (a0 : Int64)  : Nat → Int32 → Int64 → Option (Int32)
  | 0, _, _ => none
  | n + 1, x2, x3 =>
    if (lg_cmp x3 0) ≤ 0 then (some (x2)) else (f_M_lettersOf_L4 a0  n (x2 + 1) (x3 / 40))
def f_M_lettersOf (a0 : Int64) : Option Int32 :=
  f_M_lettersOf_L4 a0  80 0 a0
set_option maxHeartbeats 4000000 in
set_option maxRecDepth 100000 in
theorem c_M_lettersOf (l : Launch) {ad sk sv : Nat → Nat} {tK : Nat} (a0 : Int64)  (r : Int32) (hf : f_M_lettersOf a0 = some r) : Met l y_M_lettersOf (Cond.code y_M_lettersOf b_M_lettersOf 5 (Option.some FieldType.int) :: aw) ({ frames := 0, cells := 0, slots := 0, locals := 0 } : Room) (va_Pc [.long (a0)] (fun U => tb ad sk sv tK (fun _ => False) U U.heap)) (QcRead r) 0 0 (fun _ => False) := by
  refine Met.ofW (cc := b_M_lettersOf) (maxL := 5) (ret := (Option.some FieldType.int)) (by decide) rfl ?_
  intro p e s m args below meth c s₁ B hml hv
  obtain ⟨rfl, hT⟩ := hv
  have hx := B.exec
  have hb := B.bytes
  have hr := B.returns
  have hts := atoms_spec (ws := (Cond.code y_M_lettersOf b_M_lettersOf 5 (Option.some FieldType.int) :: aw)) B.pre
  have ht : ∀ {w : Cond}, w ∈ aw → w.before ([.long (a0)] : List Value).toArray s = true := fun h => hts _ (List.mem_cons_of_mem _ h)
  have hown : s.vm.findClass "CodeWordsModel" = some m.cls := findClass_of_methodNamed B.named
  have hlocks := B.notSynchronized
  have hS : va_S (fun _ => False) s.heap s.heap [] := va_S.rf
  have hl := lv_entry ([.long (a0)]) (n := 5) (Nat.le_of_ble_eq_true rfl)
  rw [lg_entry_eq]
  generalize (lg_sl ([.long (a0)]) ++ List.replicate (5 - (lg_sl ([.long (a0)])).length) Slot.unset).toArray = ls at hl ⊢
  have hl : lv_has ls 5 [(0, .long (a0))] := hl
  have J4 : ∀ (n : Nat) (x2 : Int32) (x3 : Int64) (ls : Array Slot), lv_has ls 5 [(0, .long (a0)), (2, .int (x2)), (3, .long (x3))] → f_M_lettersOf_L4 a0  n x2 x3 = some r → pW p l e (headSpec (Cond.code y_M_lettersOf b_M_lettersOf 5 (Option.some FieldType.int) :: aw) ({ frames := 0, cells := 0, slots := 0, locals := 0 } : Room)).room s m ([.long (a0)] : List Value).toArray below meth c r (F0 m 4 ls []) := by
    intro n
    induction n with
    | zero =>
      intro x2 x3  ls  hl hf
      rw [f_M_lettersOf_L4] at hf
      cases hf
    | succ n ih =>
      intro x2 x3  ls  hl hf
      rw [f_M_lettersOf_L4] at hf
      refine lv_lload_n hx hb d_M_lettersOf_4 rfl (lv_at hl 2 rfl) ?_
      refine lv_lconst (v := 0) hx hb d_M_lettersOf_5 (by decide) ?_
      refine W.lcmp hx hb d_M_lettersOf_6 ?_
      refine lv_if_le (tgt := 22) hx hb d_M_lettersOf_7 (by decide) (fun c_1 => ?_) (fun c_1 => ?_)
      · replace hf := (if_pos c_1).symm.trans hf
        refine lv_iload_n hx hb d_M_lettersOf_22 rfl (lv_at hl 1 rfl) ?_
        exact W.iret (v := x2) hx hb hr (fun t ht hW => ⟨congrArg (fun z => Outcome.returned (some (Value.int z))) (Option.some.inj hf), ht⟩) (fun q h => nomatch h) d_M_lettersOf_23
      · replace hf := (if_neg c_1).symm.trans hf
        refine lv_iinc (v := x2 + 1) (lv' := [(2, .int (x2 + 1)), (0, .long (a0)), (3, .long (x3))]) hx hb d_M_lettersOf_10 hl (k := 1) rfl rfl (by decide) rfl (fun ls hl => ?_)
        refine lv_lload_n hx hb d_M_lettersOf_13 rfl (lv_at hl 2 rfl) ?_
        refine lv_ldc2 (v := 40) hx hb hown (ht aw_663) d_M_lettersOf_14 ?_
        refine lv_ldiv hx hb d_M_lettersOf_17 (by decide) ?_
        refine lv_lstore_n (lv' := [(3, .long (x3 / 40)), (2, .int (x2 + 1)), (0, .long (a0))]) hx hb d_M_lettersOf_18 rfl hl (by decide) rfl (fun ls hl => ?_)
        refine lv_goto (tgt := 4) hx hb d_M_lettersOf_19 (by decide) ?_
        exact ih (x2 + 1) (x3 / 40)  _  (lv_sub hl [2, 1, 0] rfl) hf
  rw [f_M_lettersOf] at hf
  refine lv_iconst (v := 0) hx hb d_M_lettersOf_0 (by decide) ?_
  refine lv_istore_n (lv' := [(2, .int (0)), (0, .long (a0))]) hx hb d_M_lettersOf_1 rfl hl (by decide) rfl (fun ls hl => ?_)
  refine lv_lload_n hx hb d_M_lettersOf_2 rfl (lv_at hl 1 rfl) ?_
  refine lv_lstore_n (lv' := [(3, .long (a0)), (2, .int (0)), (0, .long (a0))]) hx hb d_M_lettersOf_3 rfl hl (by decide) rfl (fun ls hl => ?_)
  exact J4 80 0 a0  _  (lv_sub hl [2, 1, 0] rfl) hf

