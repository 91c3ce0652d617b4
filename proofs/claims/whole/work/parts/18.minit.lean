def f_M_lay_L3 (w_mm : List (List Int32)) (a0 : Int32) (a1 : Int32) (a2 : Int32) (a3 : Int32) (a4 : Int32)  : Nat → Int32 → List (List Int32) → Option (List (List Int32))
  | 0, _, _ => none
  | n + 1, x6, y_mm =>
    if x6 < a2 then (some (y_mm)) else (if ((32 * a0) + x6) < 0 ∨ 2400 ≤ ((32 * a0) + x6).toNatClampNeg then none else f_M_lay_L3 w_mm a0 a1 a2 a3 a4  n (x6 + (-1)) (gs y_mm ((32 * a0) + x6).toNatClampNeg ((a3 + a4) - (a1 - x6))))
def f_M_lay (w_mm : List (List Int32)) (a0 : Int32) (a1 : Int32) (a2 : Int32) (a3 : Int32) (a4 : Int32) : Option (List (List Int32)) :=
  f_M_lay_L3 w_mm a0 a1 a2 a3 a4  80 a1 w_mm
set_option maxHeartbeats 1000000 in
set_option maxRecDepth 100000 in
theorem c_M_lay (l : Launch) {ad sk sv : Nat → Nat} {tK : Nat} (dC : Nat → ClassId) (dI : Nat → Nat → Nat) (cI : ClassId) (h0 rw pt ou : Nat) (w_mm : List (List Int32)) (hm : gw w_mm) (a0 : Int32) (a1 : Int32) (a2 : Int32) (a3 : Int32) (a4 : Int32)  (r : List (List Int32)) (hf : f_M_lay w_mm a0 a1 a2 a3 a4 = some r) : Met l y_M_lay (Cond.code y_M_lay b_M_lay 7 (Option.none : Option FieldType) :: aw) ({ frames := 0, cells := 0, slots := 0, locals := 0 } : Room) (va_Pc [.ref (h0), .int (a0), .int (a1), .int (a2), .int (a3), .int (a4)] (fun U => va_P (dC, dI) cls2 (wM cI h0 rw pt ou 0 (gg w_mm) (fun _ => 0) (fun _ => 0) 0 0) U.heap ∧ va_K (dC, dI) cls2 [(cI, .int)] U ∧ va_D (aM h0 rw pt ou) (wM cI h0 rw pt ou 0 (gg w_mm) (fun _ => 0) (fun _ => 0) 0 0) ∧ tb ad sk sv tK (aM h0 rw pt ou) U U.heap)) (va_Qv (fun u => u = r ∧ gw u) (fun (u : List (List Int32)) t => va_P (dC, dI) cls2 (wM cI h0 rw pt ou 0 (gg u) (fun _ => 0) (fun _ => 0) 0 0) t.heap) (aM h0 rw pt ou)) 0 0 (aM h0 rw pt ou) := by
  refine Met.ofW (cc := b_M_lay) (maxL := 7) (ret := (Option.none : Option FieldType)) (by decide) rfl ?_
  intro p e s m args below meth c s₁ B hml hv
  obtain ⟨rfl, hP, hK, hD, hT⟩ := hv
  have hD0 := hD
  have hx := B.exec
  have hb := B.bytes
  have hr := B.returns
  have hts := atoms_spec (ws := (Cond.code y_M_lay b_M_lay 7 (Option.none : Option FieldType) :: aw)) B.pre
  have ht : ∀ {w : Cond}, w ∈ aw → w.before ([.ref (h0), .int (a0), .int (a1), .int (a2), .int (a3), .int (a4)] : List Value).toArray s = true := fun h => hts _ (List.mem_cons_of_mem _ h)
  have hown : s.vm.findClass "CodeWordsModel" = some m.cls := findClass_of_methodNamed B.named
  have hlocks := B.notSynchronized
  have hS : va_S (aM h0 rw pt ou) s.heap s.heap [] := va_S.rf
  have hl := lv_entry ([.ref (h0), .int (a0), .int (a1), .int (a2), .int (a3), .int (a4)]) (n := 7) (Nat.le_of_ble_eq_true rfl)
  rw [lg_entry_eq]
  generalize (lg_sl ([.ref (h0), .int (a0), .int (a1), .int (a2), .int (a3), .int (a4)]) ++ List.replicate (7 - (lg_sl ([.ref (h0), .int (a0), .int (a1), .int (a2), .int (a3), .int (a4)])).length) Slot.unset).toArray = ls at hl ⊢
  have hl : lv_has ls 7 [(0, .ref (h0)), (1, .int (a0)), (2, .int (a1)), (3, .int (a2)), (4, .int (a3)), (5, .int (a4))] := hl
  have J3 : ∀ (n3 : Nat) (x6 : Int32) (y_mm : List (List Int32)) (H : Heap) (locs : List Loc) (ls : Array Slot), gw y_mm → va_P (dC, dI) cls2 (wM cI h0 rw pt ou 0 (gg y_mm) (fun _ => 0) (fun _ => 0) 0 0) H → va_S (aM h0 rw pt ou) s.heap H locs → lv_has ls 7 [(0, .ref (h0)), (1, .int (a0)), (2, .int (a1)), (3, .int (a2)), (4, .int (a3)), (5, .int (a4)), (6, .int (x6))] → f_M_lay_L3 w_mm a0 a1 a2 a3 a4  n3 x6 y_mm = some r → wW p l e (headSpec (Cond.code y_M_lay b_M_lay 7 (Option.none : Option FieldType) :: aw) ({ frames := 0, cells := 0, slots := 0, locals := 0 } : Room)).room s m ([.ref (h0), .int (a0), .int (a1), .int (a2), .int (a3), .int (a4)] : List Value).toArray below meth c (va_Qv (fun u => u = r ∧ gw u) (fun (u : List (List Int32)) t => va_P (dC, dI) cls2 (wM cI h0 rw pt ou 0 (gg u) (fun _ => 0) (fun _ => 0) 0 0) t.heap) (aM h0 rw pt ou)) (aM h0 rw pt ou) H locs (F0 m 3 ls []) := by
    intro n3
    induction n3 with
    | zero =>
      intro x6 y_mm H locs ls hm hP hS hl hf
      rw [f_M_lay_L3] at hf
      cases hf
    | succ n3 ih3 =>
      intro x6 y_mm H locs ls hm hP hS hl hf
      rw [f_M_lay_L3] at hf
      have hD : va_D (aM h0 rw pt ou) (wM cI h0 rw pt ou 0 (gg y_mm) (fun _ => 0) (fun _ => 0) 0 0) := dD hD0 rfl
      refine lv_iload hx hb d_M_lay_3 (lv_at hl 6 rfl) ?_
      refine lv_iload_n hx hb d_M_lay_5 rfl (lv_at hl 3 rfl) ?_
      refine lv_icmp_lt (tgt := 37) hx hb d_M_lay_6 (by decide) (fun c_1 => ?_) (fun c_1 => ?_)
      · replace hf := (if_pos c_1).symm.trans hf
        exact W.vret hx hb hr (fun t ht hW => ⟨⟨(y_mm), rfl, ⟨Option.some.inj hf, hm⟩, by rw [← ht] at hP; exact hP⟩, hS.F ht⟩) hS.2.2 d_M_lay_37
      · replace hf := (if_neg c_1).symm.trans hf
        refine lv_aload_n hx hb d_M_lay_9 rfl (lv_at hl 0 rfl) ?_
        refine va_get (D := (dC, dI)) (ci := 1) (v := .ref (rw)) (C := "CodeWordsModel") (T := F_M) (N := 6) hx hb hts (in_M _) hown hK hP 0 rfl rfl 1 (by decide) (ht aw_440) (fun _ h9 => h9) rfl d_M_lay_10 ?_
        refine lv_bipush (v := 32) hx hb d_M_lay_13 (by decide) ?_
        refine lv_iload_n hx hb d_M_lay_15 rfl (lv_at hl 1 rfl) ?_
        refine lv_imul hx hb d_M_lay_16 ?_
        refine lv_iload hx hb d_M_lay_17 (lv_at hl 6 rfl) ?_
        refine lv_iadd hx hb d_M_lay_19 ?_
        refine lv_iload hx hb d_M_lay_20 (lv_at hl 4 rfl) ?_
        refine lv_iload hx hb d_M_lay_22 (lv_at hl 5 rfl) ?_
        refine lv_iadd hx hb d_M_lay_24 ?_
        refine lv_iload_n hx hb d_M_lay_25 rfl (lv_at hl 2 rfl) ?_
        refine lv_iload hx hb d_M_lay_26 (lv_at hl 6 rfl) ?_
        refine lv_isub hx hb d_M_lay_28 ?_
        refine lv_isub hx hb d_M_lay_29 ?_
        obtain ⟨z_2, hf⟩ := ju_gd hf
        refine va_iast hx hb hK hP hD hS 1 0 rfl rfl z_2 d_M_lay_30 (fun H locs hP hD hS => ?_)
        have hP : va_P (dC, dI) cls2 (wM cI h0 rw pt ou 0 (gg (gs y_mm ((32 * a0) + x6).toNatClampNeg ((a3 + a4) - (a1 - x6)))) (fun _ => 0) (fun _ => 0) 0 0) H := by rw [show gg (gs y_mm ((32 * a0) + x6).toNatClampNeg ((a3 + a4) - (a1 - x6))) = upd (gg y_mm) ((32 * a0) + x6).toNatClampNeg ((a3 + a4) - (a1 - x6)) from gs_upd hm z_2]; exact hP
        have hm : gw (gs y_mm ((32 * a0) + x6).toNatClampNeg ((a3 + a4) - (a1 - x6))) := gw_gs hm z_2
        have hD : va_D (aM h0 rw pt ou) (wM cI h0 rw pt ou 0 (gg (gs y_mm ((32 * a0) + x6).toNatClampNeg ((a3 + a4) - (a1 - x6)))) (fun _ => 0) (fun _ => 0) 0 0) := dD hD0 rfl
        refine lv_iinc (v := x6 + (-1)) (lv' := [(6, .int (x6 + (-1))), (0, .ref (h0)), (1, .int (a0)), (2, .int (a1)), (3, .int (a2)), (4, .int (a3)), (5, .int (a4))]) hx hb d_M_lay_31 hl (k := 6) rfl rfl (by decide) rfl (fun ls hl => ?_)
        refine lv_goto (tgt := 3) hx hb d_M_lay_34 (by decide) ?_
        exact ih3 (x6 + (-1)) (gs y_mm ((32 * a0) + x6).toNatClampNeg ((a3 + a4) - (a1 - x6))) _ _ _ hm hP hS (lv_sub hl [1, 2, 3, 4, 5, 6, 0] rfl) hf
  rw [f_M_lay] at hf
  refine lv_iload_n hx hb d_M_lay_0 rfl (lv_at hl 2 rfl) ?_
  refine lv_istore (lv' := [(6, .int (a1)), (0, .ref (h0)), (1, .int (a0)), (2, .int (a1)), (3, .int (a2)), (4, .int (a3)), (5, .int (a4))]) hx hb d_M_lay_1 hl (by decide) rfl (fun ls hl => ?_)
  exact J3 80 a1 w_mm _ _ _ hm hP hS (lv_sub hl [1, 2, 3, 4, 5, 6, 0] rfl) hf

def f_M_fix_L3 (w_mm : List (List Int32)) (a0 : Int32) (a1 : Int32) (a2 : Int32) (a3 : Int32)  : Nat → Int32 → List (List Int32) → Option (List (List Int32))
  | 0, _, _ => none
  | n + 1, x5, y_mm =>
    if a2 ≤ x5 then (some (y_mm)) else (if (((32 * a0) + a1) + x5) < 0 ∨ 2400 ≤ (((32 * a0) + a1) + x5).toNatClampNeg then none else f_M_fix_L3 w_mm a0 a1 a2 a3  n (x5 + 1) (gs y_mm (((32 * a0) + a1) + x5).toNatClampNeg ((a3 >>> (x5 &&& 31)) &&& 1)))
def f_M_fix (w_mm : List (List Int32)) (a0 : Int32) (a1 : Int32) (a2 : Int32) (a3 : Int32) : Option (List (List Int32)) :=
  f_M_fix_L3 w_mm a0 a1 a2 a3  80 0 w_mm
set_option maxHeartbeats 1000000 in
set_option maxRecDepth 100000 in
theorem c_M_fix (l : Launch) {ad sk sv : Nat → Nat} {tK : Nat} (dC : Nat → ClassId) (dI : Nat → Nat → Nat) (cI : ClassId) (h0 rw pt ou : Nat) (w_mm : List (List Int32)) (hm : gw w_mm) (a0 : Int32) (a1 : Int32) (a2 : Int32) (a3 : Int32)  (r : List (List Int32)) (hf : f_M_fix w_mm a0 a1 a2 a3 = some r) : Met l y_M_fix (Cond.code y_M_fix b_M_fix 6 (Option.none : Option FieldType) :: aw) ({ frames := 0, cells := 0, slots := 0, locals := 0 } : Room) (va_Pc [.ref (h0), .int (a0), .int (a1), .int (a2), .int (a3)] (fun U => va_P (dC, dI) cls2 (wM cI h0 rw pt ou 0 (gg w_mm) (fun _ => 0) (fun _ => 0) 0 0) U.heap ∧ va_K (dC, dI) cls2 [(cI, .int)] U ∧ va_D (aM h0 rw pt ou) (wM cI h0 rw pt ou 0 (gg w_mm) (fun _ => 0) (fun _ => 0) 0 0) ∧ tb ad sk sv tK (aM h0 rw pt ou) U U.heap)) (va_Qv (fun u => u = r ∧ gw u) (fun (u : List (List Int32)) t => va_P (dC, dI) cls2 (wM cI h0 rw pt ou 0 (gg u) (fun _ => 0) (fun _ => 0) 0 0) t.heap) (aM h0 rw pt ou)) 0 0 (aM h0 rw pt ou) := by
  refine Met.ofW (cc := b_M_fix) (maxL := 6) (ret := (Option.none : Option FieldType)) (by decide) rfl ?_
  intro p e s m args below meth c s₁ B hml hv
  obtain ⟨rfl, hP, hK, hD, hT⟩ := hv
  have hD0 := hD
  have hx := B.exec
  have hb := B.bytes
  have hr := B.returns
  have hts := atoms_spec (ws := (Cond.code y_M_fix b_M_fix 6 (Option.none : Option FieldType) :: aw)) B.pre
  have ht : ∀ {w : Cond}, w ∈ aw → w.before ([.ref (h0), .int (a0), .int (a1), .int (a2), .int (a3)] : List Value).toArray s = true := fun h => hts _ (List.mem_cons_of_mem _ h)
  have hown : s.vm.findClass "CodeWordsModel" = some m.cls := findClass_of_methodNamed B.named
  have hlocks := B.notSynchronized
  have hS : va_S (aM h0 rw pt ou) s.heap s.heap [] := va_S.rf
  have hl := lv_entry ([.ref (h0), .int (a0), .int (a1), .int (a2), .int (a3)]) (n := 6) (Nat.le_of_ble_eq_true rfl)
  rw [lg_entry_eq]
  generalize (lg_sl ([.ref (h0), .int (a0), .int (a1), .int (a2), .int (a3)]) ++ List.replicate (6 - (lg_sl ([.ref (h0), .int (a0), .int (a1), .int (a2), .int (a3)])).length) Slot.unset).toArray = ls at hl ⊢
  have hl : lv_has ls 6 [(0, .ref (h0)), (1, .int (a0)), (2, .int (a1)), (3, .int (a2)), (4, .int (a3))] := hl
  have J3 : ∀ (n3 : Nat) (x5 : Int32) (y_mm : List (List Int32)) (H : Heap) (locs : List Loc) (ls : Array Slot), gw y_mm → va_P (dC, dI) cls2 (wM cI h0 rw pt ou 0 (gg y_mm) (fun _ => 0) (fun _ => 0) 0 0) H → va_S (aM h0 rw pt ou) s.heap H locs → lv_has ls 6 [(0, .ref (h0)), (1, .int (a0)), (2, .int (a1)), (3, .int (a2)), (4, .int (a3)), (5, .int (x5))] → f_M_fix_L3 w_mm a0 a1 a2 a3  n3 x5 y_mm = some r → wW p l e (headSpec (Cond.code y_M_fix b_M_fix 6 (Option.none : Option FieldType) :: aw) ({ frames := 0, cells := 0, slots := 0, locals := 0 } : Room)).room s m ([.ref (h0), .int (a0), .int (a1), .int (a2), .int (a3)] : List Value).toArray below meth c (va_Qv (fun u => u = r ∧ gw u) (fun (u : List (List Int32)) t => va_P (dC, dI) cls2 (wM cI h0 rw pt ou 0 (gg u) (fun _ => 0) (fun _ => 0) 0 0) t.heap) (aM h0 rw pt ou)) (aM h0 rw pt ou) H locs (F0 m 3 ls []) := by
    intro n3
    induction n3 with
    | zero =>
      intro x5 y_mm H locs ls hm hP hS hl hf
      rw [f_M_fix_L3] at hf
      cases hf
    | succ n3 ih3 =>
      intro x5 y_mm H locs ls hm hP hS hl hf
      rw [f_M_fix_L3] at hf
      have hD : va_D (aM h0 rw pt ou) (wM cI h0 rw pt ou 0 (gg y_mm) (fun _ => 0) (fun _ => 0) 0 0) := dD hD0 rfl
      refine lv_iload hx hb d_M_fix_3 (lv_at hl 5 rfl) ?_
      refine lv_iload_n hx hb d_M_fix_5 rfl (lv_at hl 3 rfl) ?_
      refine lv_icmp_ge (tgt := 36) hx hb d_M_fix_6 (by decide) (fun c_1 => ?_) (fun c_1 => ?_)
      · replace hf := (if_pos c_1).symm.trans hf
        exact W.vret hx hb hr (fun t ht hW => ⟨⟨(y_mm), rfl, ⟨Option.some.inj hf, hm⟩, by rw [← ht] at hP; exact hP⟩, hS.F ht⟩) hS.2.2 d_M_fix_36
      · replace hf := (if_neg c_1).symm.trans hf
        refine lv_aload_n hx hb d_M_fix_9 rfl (lv_at hl 0 rfl) ?_
        refine va_get (D := (dC, dI)) (ci := 1) (v := .ref (rw)) (C := "CodeWordsModel") (T := F_M) (N := 6) hx hb hts (in_M _) hown hK hP 0 rfl rfl 1 (by decide) (ht aw_440) (fun _ h9 => h9) rfl d_M_fix_10 ?_
        refine lv_bipush (v := 32) hx hb d_M_fix_13 (by decide) ?_
        refine lv_iload_n hx hb d_M_fix_15 rfl (lv_at hl 1 rfl) ?_
        refine lv_imul hx hb d_M_fix_16 ?_
        refine lv_iload_n hx hb d_M_fix_17 rfl (lv_at hl 2 rfl) ?_
        refine lv_iadd hx hb d_M_fix_18 ?_
        refine lv_iload hx hb d_M_fix_19 (lv_at hl 5 rfl) ?_
        refine lv_iadd hx hb d_M_fix_21 ?_
        refine lv_iload hx hb d_M_fix_22 (lv_at hl 4 rfl) ?_
        refine lv_iload hx hb d_M_fix_24 (lv_at hl 5 rfl) ?_
        refine lv_ishr hx hb d_M_fix_26 ?_
        refine lv_iconst (v := 1) hx hb d_M_fix_27 (by decide) ?_
        refine lv_iand hx hb d_M_fix_28 ?_
        obtain ⟨z_2, hf⟩ := ju_gd hf
        refine va_iast hx hb hK hP hD hS 1 0 rfl rfl z_2 d_M_fix_29 (fun H locs hP hD hS => ?_)
        have hP : va_P (dC, dI) cls2 (wM cI h0 rw pt ou 0 (gg (gs y_mm (((32 * a0) + a1) + x5).toNatClampNeg ((a3 >>> (x5 &&& 31)) &&& 1))) (fun _ => 0) (fun _ => 0) 0 0) H := by rw [show gg (gs y_mm (((32 * a0) + a1) + x5).toNatClampNeg ((a3 >>> (x5 &&& 31)) &&& 1)) = upd (gg y_mm) (((32 * a0) + a1) + x5).toNatClampNeg ((a3 >>> (x5 &&& 31)) &&& 1) from gs_upd hm z_2]; exact hP
        have hm : gw (gs y_mm (((32 * a0) + a1) + x5).toNatClampNeg ((a3 >>> (x5 &&& 31)) &&& 1)) := gw_gs hm z_2
        have hD : va_D (aM h0 rw pt ou) (wM cI h0 rw pt ou 0 (gg (gs y_mm (((32 * a0) + a1) + x5).toNatClampNeg ((a3 >>> (x5 &&& 31)) &&& 1))) (fun _ => 0) (fun _ => 0) 0 0) := dD hD0 rfl
        refine lv_iinc (v := x5 + 1) (lv' := [(5, .int (x5 + 1)), (0, .ref (h0)), (1, .int (a0)), (2, .int (a1)), (3, .int (a2)), (4, .int (a3))]) hx hb d_M_fix_30 hl (k := 5) rfl rfl (by decide) rfl (fun ls hl => ?_)
        refine lv_goto (tgt := 3) hx hb d_M_fix_33 (by decide) ?_
        exact ih3 (x5 + 1) (gs y_mm (((32 * a0) + a1) + x5).toNatClampNeg ((a3 >>> (x5 &&& 31)) &&& 1)) _ _ _ hm hP hS (lv_sub hl [1, 2, 3, 4, 5, 0] rfl) hf
  rw [f_M_fix] at hf
  refine lv_iconst (v := 0) hx hb d_M_fix_0 (by decide) ?_
  refine lv_istore (lv' := [(5, .int (0)), (0, .ref (h0)), (1, .int (a0)), (2, .int (a1)), (3, .int (a2)), (4, .int (a3))]) hx hb d_M_fix_1 hl (by decide) rfl (fun ls hl => ?_)
  exact J3 80 0 w_mm _ _ _ hm hP hS (lv_sub hl [1, 2, 3, 4, 5, 0] rfl) hf

def f_M_one (w_mm : List (List Int32)) (a0 : Int32) (a1 : Int32) (a2 : Int32) : Option (List (List Int32)) :=
  if ((32 * a0) + a1) < 0 ∨ 2400 ≤ ((32 * a0) + a1).toNatClampNeg then none else some (gs w_mm ((32 * a0) + a1).toNatClampNeg (400 + a2))
set_option maxHeartbeats 1000000 in
set_option maxRecDepth 100000 in
theorem c_M_one (l : Launch) {ad sk sv : Nat → Nat} {tK : Nat} (dC : Nat → ClassId) (dI : Nat → Nat → Nat) (cI : ClassId) (h0 rw pt ou : Nat) (w_mm : List (List Int32)) (hm : gw w_mm) (a0 : Int32) (a1 : Int32) (a2 : Int32)  (r : List (List Int32)) (hf : f_M_one w_mm a0 a1 a2 = some r) : Met l y_M_one (Cond.code y_M_one b_M_one 4 (Option.none : Option FieldType) :: aw) ({ frames := 0, cells := 0, slots := 0, locals := 0 } : Room) (va_Pc [.ref (h0), .int (a0), .int (a1), .int (a2)] (fun U => va_P (dC, dI) cls2 (wM cI h0 rw pt ou 0 (gg w_mm) (fun _ => 0) (fun _ => 0) 0 0) U.heap ∧ va_K (dC, dI) cls2 [(cI, .int)] U ∧ va_D (aM h0 rw pt ou) (wM cI h0 rw pt ou 0 (gg w_mm) (fun _ => 0) (fun _ => 0) 0 0) ∧ tb ad sk sv tK (aM h0 rw pt ou) U U.heap)) (va_Qv (fun u => u = r ∧ gw u) (fun (u : List (List Int32)) t => va_P (dC, dI) cls2 (wM cI h0 rw pt ou 0 (gg u) (fun _ => 0) (fun _ => 0) 0 0) t.heap) (aM h0 rw pt ou)) 0 0 (aM h0 rw pt ou) := by
  refine Met.ofW (cc := b_M_one) (maxL := 4) (ret := (Option.none : Option FieldType)) (by decide) rfl ?_
  intro p e s m args below meth c s₁ B hml hv
  obtain ⟨rfl, hP, hK, hD, hT⟩ := hv
  have hD0 := hD
  have hx := B.exec
  have hb := B.bytes
  have hr := B.returns
  have hts := atoms_spec (ws := (Cond.code y_M_one b_M_one 4 (Option.none : Option FieldType) :: aw)) B.pre
  have ht : ∀ {w : Cond}, w ∈ aw → w.before ([.ref (h0), .int (a0), .int (a1), .int (a2)] : List Value).toArray s = true := fun h => hts _ (List.mem_cons_of_mem _ h)
  have hown : s.vm.findClass "CodeWordsModel" = some m.cls := findClass_of_methodNamed B.named
  have hlocks := B.notSynchronized
  have hS : va_S (aM h0 rw pt ou) s.heap s.heap [] := va_S.rf
  have hl := lv_entry ([.ref (h0), .int (a0), .int (a1), .int (a2)]) (n := 4) (Nat.le_of_ble_eq_true rfl)
  rw [lg_entry_eq]
  generalize (lg_sl ([.ref (h0), .int (a0), .int (a1), .int (a2)]) ++ List.replicate (4 - (lg_sl ([.ref (h0), .int (a0), .int (a1), .int (a2)])).length) Slot.unset).toArray = ls at hl ⊢
  have hl : lv_has ls 4 [(0, .ref (h0)), (1, .int (a0)), (2, .int (a1)), (3, .int (a2))] := hl
  rw [f_M_one] at hf
  refine lv_aload_n hx hb d_M_one_0 rfl (lv_at hl 0 rfl) ?_
  refine va_get (D := (dC, dI)) (ci := 1) (v := .ref (rw)) (C := "CodeWordsModel") (T := F_M) (N := 6) hx hb hts (in_M _) hown hK hP 0 rfl rfl 1 (by decide) (ht aw_440) (fun _ h9 => h9) rfl d_M_one_1 ?_
  refine lv_bipush (v := 32) hx hb d_M_one_4 (by decide) ?_
  refine lv_iload_n hx hb d_M_one_6 rfl (lv_at hl 1 rfl) ?_
  refine lv_imul hx hb d_M_one_7 ?_
  refine lv_iload_n hx hb d_M_one_8 rfl (lv_at hl 2 rfl) ?_
  refine lv_iadd hx hb d_M_one_9 ?_
  refine lv_sipush (v := 400) hx hb d_M_one_10 (by decide) ?_
  refine lv_iload_n hx hb d_M_one_13 rfl (lv_at hl 3 rfl) ?_
  refine lv_iadd hx hb d_M_one_14 ?_
  obtain ⟨z_1, hf⟩ := ju_gd hf
  refine va_iast hx hb hK hP hD hS 1 0 rfl rfl z_1 d_M_one_15 (fun H locs hP hD hS => ?_)
  have hP : va_P (dC, dI) cls2 (wM cI h0 rw pt ou 0 (gg (gs w_mm ((32 * a0) + a1).toNatClampNeg (400 + a2))) (fun _ => 0) (fun _ => 0) 0 0) H := by rw [show gg (gs w_mm ((32 * a0) + a1).toNatClampNeg (400 + a2)) = upd (gg w_mm) ((32 * a0) + a1).toNatClampNeg (400 + a2) from gs_upd hm z_1]; exact hP
  have hm : gw (gs w_mm ((32 * a0) + a1).toNatClampNeg (400 + a2)) := gw_gs hm z_1
  have hD : va_D (aM h0 rw pt ou) (wM cI h0 rw pt ou 0 (gg (gs w_mm ((32 * a0) + a1).toNatClampNeg (400 + a2))) (fun _ => 0) (fun _ => 0) 0 0) := dD hD0 rfl
  exact W.vret hx hb hr (fun t ht hW => ⟨⟨(gs w_mm ((32 * a0) + a1).toNatClampNeg (400 + a2)), rfl, ⟨Option.some.inj hf, hm⟩, by rw [← ht] at hP; exact hP⟩, hS.F ht⟩) hS.2.2 d_M_one_16

def f_M_ends (w_mm : List (List Int32)) (a0 : Int32) (a1 : Int32) (a2 : Int32) : Option (List (List Int32)) :=
  (f_M_fix w_mm a0 13 3 a1).bind fun r_1 => (f_M_fix r_1 a0 0 2 a2).bind fun r_3 => some (r_3)
set_option maxHeartbeats 1000000 in
set_option maxRecDepth 100000 in
theorem c_M_ends (l : Launch) {ad sk sv : Nat → Nat} {tK : Nat} (dC : Nat → ClassId) (dI : Nat → Nat → Nat) (cI : ClassId) (h0 rw pt ou : Nat) (w_mm : List (List Int32)) (hm : gw w_mm) (a0 : Int32) (a1 : Int32) (a2 : Int32)  (r : List (List Int32)) (hf : f_M_ends w_mm a0 a1 a2 = some r) : Met l y_M_ends (Cond.code y_M_ends b_M_ends 4 (Option.none : Option FieldType) :: aw) ({ frames := 1, cells := 0, slots := 0, locals := 25 } : Room) (va_Pc [.ref (h0), .int (a0), .int (a1), .int (a2)] (fun U => va_P (dC, dI) cls2 (wM cI h0 rw pt ou 0 (gg w_mm) (fun _ => 0) (fun _ => 0) 0 0) U.heap ∧ va_K (dC, dI) cls2 [(cI, .int)] U ∧ va_D (aM h0 rw pt ou) (wM cI h0 rw pt ou 0 (gg w_mm) (fun _ => 0) (fun _ => 0) 0 0) ∧ tb ad sk sv tK (aM h0 rw pt ou) U U.heap)) (va_Qv (fun u => u = r ∧ gw u) (fun (u : List (List Int32)) t => va_P (dC, dI) cls2 (wM cI h0 rw pt ou 0 (gg u) (fun _ => 0) (fun _ => 0) 0 0) t.heap) (aM h0 rw pt ou)) 0 0 (aM h0 rw pt ou) := by
  refine Met.ofW (cc := b_M_ends) (maxL := 4) (ret := (Option.none : Option FieldType)) (by decide) rfl ?_
  intro p e s m args below meth c s₁ B hml hv
  obtain ⟨rfl, hP, hK, hD, hT⟩ := hv
  have hD0 := hD
  have hx := B.exec
  have hb := B.bytes
  have hr := B.returns
  have hts := atoms_spec (ws := (Cond.code y_M_ends b_M_ends 4 (Option.none : Option FieldType) :: aw)) B.pre
  have ht : ∀ {w : Cond}, w ∈ aw → w.before ([.ref (h0), .int (a0), .int (a1), .int (a2)] : List Value).toArray s = true := fun h => hts _ (List.mem_cons_of_mem _ h)
  have hown : s.vm.findClass "CodeWordsModel" = some m.cls := findClass_of_methodNamed B.named
  have hlocks := B.notSynchronized
  have hS : va_S (aM h0 rw pt ou) s.heap s.heap [] := va_S.rf
  have hl := lv_entry ([.ref (h0), .int (a0), .int (a1), .int (a2)]) (n := 4) (Nat.le_of_ble_eq_true rfl)
  rw [lg_entry_eq]
  generalize (lg_sl ([.ref (h0), .int (a0), .int (a1), .int (a2)]) ++ List.replicate (4 - (lg_sl ([.ref (h0), .int (a0), .int (a1), .int (a2)])).length) Slot.unset).toArray = ls at hl ⊢
  have hl : lv_has ls 4 [(0, .ref (h0)), (1, .int (a0)), (2, .int (a1)), (3, .int (a2))] := hl
  rw [f_M_ends] at hf
  refine lv_aload_n hx hb d_M_ends_0 rfl (lv_at hl 0 rfl) ?_
  refine lv_iload_n hx hb d_M_ends_1 rfl (lv_at hl 1 rfl) ?_
  refine lv_bipush (v := 13) hx hb d_M_ends_2 (by decide) ?_
  refine lv_iconst (v := 3) hx hb d_M_ends_4 (by decide) ?_
  refine lv_iload_n hx hb d_M_ends_5 rfl (lv_at hl 2 rfl) ?_
  obtain ⟨r_1, g_2, hf⟩ := Option.bind_eq_some_iff.mp hf
  refine va_callv (va_runV (As := [.int (a0), .int (13), .int (3), .int (a1)]) (rest := []) ⟨hx, hb, hml, hown, hts⟩ (c_M_fix l (ad := ad) (sk := sk) (sv := sv) (tK := tK) dC dI cI h0 rw pt ou w_mm hm a0 13 3 a1  r_1 g_2) (cwV 4 hts (aw_V aw_397 aw_399 aw_p17 aw_2 aw_400) rfl rfl rfl (by decide +kernel) ⟨Nat.le_of_ble_eq_true rfl, Nat.le_of_ble_eq_true rfl⟩) ⟨wBlind, va_recv hK hP (ci := 1) (q0 := 0) rfl rfl, fun U hU hW => ⟨rfl, by rw [hU]; exact hP, va_K.moved hW.alike hK, hD, hT.at hS hU hW (fun _ z => z)⟩⟩ rfl rfl hl.1 rfl (lv_room (Nat.le_of_ble_eq_true rfl)) d_M_ends_6 ⟨Nat.le_refl _, Nat.le_refl _⟩) hS (fun _ _ h => h) (fun _ h => h) (fun u t H1 locs ht1 hvm hw hB hz1 hk1 hS => ?_)
  obtain ⟨hw, hm⟩ := hw
  rw [hw] at hB hm
  rw [ht1] at hB
  have hP : va_P (dC, dI) cls2 (wM cI h0 rw pt ou 0 (gg r_1) (fun _ => 0) (fun _ => 0) 0 0) H1 := hB
  have hD : va_D (aM h0 rw pt ou) (wM cI h0 rw pt ou 0 (gg r_1) (fun _ => 0) (fun _ => 0) 0 0) := dD hD0 rfl
  refine lv_aload_n hx hb d_M_ends_9 rfl (lv_at hl 0 rfl) ?_
  refine lv_iload_n hx hb d_M_ends_10 rfl (lv_at hl 1 rfl) ?_
  refine lv_iconst (v := 0) hx hb d_M_ends_11 (by decide) ?_
  refine lv_iconst (v := 2) hx hb d_M_ends_12 (by decide) ?_
  refine lv_iload_n hx hb d_M_ends_13 rfl (lv_at hl 3 rfl) ?_
  obtain ⟨r_3, g_4, hf⟩ := Option.bind_eq_some_iff.mp hf
  refine va_callv (va_runV (As := [.int (a0), .int (0), .int (2), .int (a2)]) (rest := []) ⟨hx, hb, hml, hown, hts⟩ (c_M_fix l (ad := ad) (sk := sk) (sv := sv) (tK := tK) dC dI cI h0 rw pt ou r_1 hm a0 0 2 a2  r_3 g_4) (cwV 4 hts (aw_V aw_397 aw_399 aw_p17 aw_2 aw_400) rfl rfl rfl (by decide +kernel) ⟨Nat.le_of_ble_eq_true rfl, Nat.le_of_ble_eq_true rfl⟩) ⟨wBlind, va_recv hK hP (ci := 1) (q0 := 0) rfl rfl, fun U hU hW => ⟨rfl, by rw [hU]; exact hP, va_K.moved hW.alike hK, hD, hT.at hS hU hW (fun _ z => z)⟩⟩ rfl rfl hl.1 rfl (lv_room (Nat.le_of_ble_eq_true rfl)) d_M_ends_14 ⟨Nat.le_refl _, Nat.le_refl _⟩) hS (fun _ _ h => h) (fun _ h => h) (fun u t H1 locs ht1 hvm hw hB hz1 hk1 hS => ?_)
  obtain ⟨hw, hm⟩ := hw
  rw [hw] at hB hm
  rw [ht1] at hB
  have hP : va_P (dC, dI) cls2 (wM cI h0 rw pt ou 0 (gg r_3) (fun _ => 0) (fun _ => 0) 0 0) H1 := hB
  have hD : va_D (aM h0 rw pt ou) (wM cI h0 rw pt ou 0 (gg r_3) (fun _ => 0) (fun _ => 0) 0 0) := dD hD0 rfl
  exact W.vret hx hb hr (fun t ht hW => ⟨⟨(r_3), rfl, ⟨Option.some.inj hf, hm⟩, by rw [← ht] at hP; exact hP⟩, hS.F ht⟩) hS.2.2 d_M_ends_17

def f_M_layJump (w_mm : List (List Int32)) (a0 : Int32) (a1 : Int32) : Option (List (List Int32)) :=
  (f_M_ends w_mm a0 a1 1).bind fun r_1 => (f_M_one r_1 a0 12 11).bind fun r_3 => (f_M_one r_3 a0 11 4).bind fun r_5 => (f_M_lay r_5 a0 10 9 400 9).bind fun r_7 => (f_M_one r_7 a0 8 10).bind fun r_9 => (f_M_one r_9 a0 7 6).bind fun r_11 => (f_M_one r_11 a0 6 7).bind fun r_13 => (f_M_lay r_13 a0 5 3 400 3).bind fun r_15 => (f_M_one r_15 a0 2 5).bind fun r_17 => some (r_17)
set_option maxHeartbeats 1000000 in
set_option maxRecDepth 100000 in
theorem c_M_layJump (l : Launch) {ad sk sv : Nat → Nat} {tK : Nat} (dC : Nat → ClassId) (dI : Nat → Nat → Nat) (cI : ClassId) (h0 rw pt ou : Nat) (w_mm : List (List Int32)) (hm : gw w_mm) (a0 : Int32) (a1 : Int32)  (r : List (List Int32)) (hf : f_M_layJump w_mm a0 a1 = some r) : Met l y_M_layJump (Cond.code y_M_layJump b_M_layJump 3 (Option.none : Option FieldType) :: aw) ({ frames := 2, cells := 0, slots := 0, locals := 48 } : Room) (va_Pc [.ref (h0), .int (a0), .int (a1)] (fun U => va_P (dC, dI) cls2 (wM cI h0 rw pt ou 0 (gg w_mm) (fun _ => 0) (fun _ => 0) 0 0) U.heap ∧ va_K (dC, dI) cls2 [(cI, .int)] U ∧ va_D (aM h0 rw pt ou) (wM cI h0 rw pt ou 0 (gg w_mm) (fun _ => 0) (fun _ => 0) 0 0) ∧ tb ad sk sv tK (aM h0 rw pt ou) U U.heap)) (va_Qv (fun u => u = r ∧ gw u) (fun (u : List (List Int32)) t => va_P (dC, dI) cls2 (wM cI h0 rw pt ou 0 (gg u) (fun _ => 0) (fun _ => 0) 0 0) t.heap) (aM h0 rw pt ou)) 0 0 (aM h0 rw pt ou) := by
  refine Met.ofW (cc := b_M_layJump) (maxL := 3) (ret := (Option.none : Option FieldType)) (by decide) rfl ?_
  intro p e s m args below meth c s₁ B hml hv
  obtain ⟨rfl, hP, hK, hD, hT⟩ := hv
  have hD0 := hD
  have hx := B.exec
  have hb := B.bytes
  have hr := B.returns
  have hts := atoms_spec (ws := (Cond.code y_M_layJump b_M_layJump 3 (Option.none : Option FieldType) :: aw)) B.pre
  have ht : ∀ {w : Cond}, w ∈ aw → w.before ([.ref (h0), .int (a0), .int (a1)] : List Value).toArray s = true := fun h => hts _ (List.mem_cons_of_mem _ h)
  have hown : s.vm.findClass "CodeWordsModel" = some m.cls := findClass_of_methodNamed B.named
  have hlocks := B.notSynchronized
  have hS : va_S (aM h0 rw pt ou) s.heap s.heap [] := va_S.rf
  have hl := lv_entry ([.ref (h0), .int (a0), .int (a1)]) (n := 3) (Nat.le_of_ble_eq_true rfl)
  rw [lg_entry_eq]
  generalize (lg_sl ([.ref (h0), .int (a0), .int (a1)]) ++ List.replicate (3 - (lg_sl ([.ref (h0), .int (a0), .int (a1)])).length) Slot.unset).toArray = ls at hl ⊢
  have hl : lv_has ls 3 [(0, .ref (h0)), (1, .int (a0)), (2, .int (a1))] := hl
  rw [f_M_layJump] at hf
  refine lv_aload_n hx hb d_M_layJump_0 rfl (lv_at hl 0 rfl) ?_
  refine lv_iload_n hx hb d_M_layJump_1 rfl (lv_at hl 1 rfl) ?_
  refine lv_iload_n hx hb d_M_layJump_2 rfl (lv_at hl 2 rfl) ?_
  refine lv_iconst (v := 1) hx hb d_M_layJump_3 (by decide) ?_
  obtain ⟨r_1, g_2, hf⟩ := Option.bind_eq_some_iff.mp hf
  refine va_callv (va_runV (As := [.int (a0), .int (a1), .int (1)]) (rest := []) ⟨hx, hb, hml, hown, hts⟩ (c_M_ends l (ad := ad) (sk := sk) (sv := sv) (tK := tK) dC dI cI h0 rw pt ou w_mm hm a0 a1 1  r_1 g_2) (cwV 3 hts (aw_V aw_427 aw_429 aw_p20 aw_2 aw_430) rfl rfl rfl (by decide +kernel) ⟨Nat.le_of_ble_eq_true rfl, Nat.le_of_ble_eq_true rfl⟩) ⟨wBlind, va_recv hK hP (ci := 1) (q0 := 0) rfl rfl, fun U hU hW => ⟨rfl, by rw [hU]; exact hP, va_K.moved hW.alike hK, hD, hT.at hS hU hW (fun _ z => z)⟩⟩ rfl rfl hl.1 rfl (lv_room (Nat.le_of_ble_eq_true rfl)) d_M_layJump_4 ⟨Nat.le_refl _, Nat.le_refl _⟩) hS (fun _ _ h => h) (fun _ h => h) (fun u t H1 locs ht1 hvm hw hB hz1 hk1 hS => ?_)
  obtain ⟨hw, hm⟩ := hw
  rw [hw] at hB hm
  rw [ht1] at hB
  have hP : va_P (dC, dI) cls2 (wM cI h0 rw pt ou 0 (gg r_1) (fun _ => 0) (fun _ => 0) 0 0) H1 := hB
  have hD : va_D (aM h0 rw pt ou) (wM cI h0 rw pt ou 0 (gg r_1) (fun _ => 0) (fun _ => 0) 0 0) := dD hD0 rfl
  refine lv_aload_n hx hb d_M_layJump_7 rfl (lv_at hl 0 rfl) ?_
  refine lv_iload_n hx hb d_M_layJump_8 rfl (lv_at hl 1 rfl) ?_
  refine lv_bipush (v := 12) hx hb d_M_layJump_9 (by decide) ?_
  refine lv_bipush (v := 11) hx hb d_M_layJump_11 (by decide) ?_
  obtain ⟨r_3, g_4, hf⟩ := Option.bind_eq_some_iff.mp hf
  refine va_callv (va_runV (As := [.int (a0), .int (12), .int (11)]) (rest := []) ⟨hx, hb, hml, hown, hts⟩ (c_M_one l (ad := ad) (sk := sk) (sv := sv) (tK := tK) dC dI cI h0 rw pt ou r_1 hm a0 12 11  r_3 g_4) (cwV 3 hts (aw_V aw_431 aw_433 aw_p21 aw_2 aw_434) rfl rfl rfl (by decide +kernel) ⟨Nat.le_of_ble_eq_true rfl, Nat.le_of_ble_eq_true rfl⟩) ⟨wBlind, va_recv hK hP (ci := 1) (q0 := 0) rfl rfl, fun U hU hW => ⟨rfl, by rw [hU]; exact hP, va_K.moved hW.alike hK, hD, hT.at hS hU hW (fun _ z => z)⟩⟩ rfl rfl hl.1 rfl (lv_room (Nat.le_of_ble_eq_true rfl)) d_M_layJump_13 ⟨Nat.le_refl _, Nat.le_refl _⟩) hS (fun _ _ h => h) (fun _ h => h) (fun u t H1 locs ht1 hvm hw hB hz1 hk1 hS => ?_)
  obtain ⟨hw, hm⟩ := hw
  rw [hw] at hB hm
  rw [ht1] at hB
  have hP : va_P (dC, dI) cls2 (wM cI h0 rw pt ou 0 (gg r_3) (fun _ => 0) (fun _ => 0) 0 0) H1 := hB
  have hD : va_D (aM h0 rw pt ou) (wM cI h0 rw pt ou 0 (gg r_3) (fun _ => 0) (fun _ => 0) 0 0) := dD hD0 rfl
  refine lv_aload_n hx hb d_M_layJump_16 rfl (lv_at hl 0 rfl) ?_
  refine lv_iload_n hx hb d_M_layJump_17 rfl (lv_at hl 1 rfl) ?_
  refine lv_bipush (v := 11) hx hb d_M_layJump_18 (by decide) ?_
  refine lv_iconst (v := 4) hx hb d_M_layJump_20 (by decide) ?_
  obtain ⟨r_5, g_6, hf⟩ := Option.bind_eq_some_iff.mp hf
  refine va_callv (va_runV (As := [.int (a0), .int (11), .int (4)]) (rest := []) ⟨hx, hb, hml, hown, hts⟩ (c_M_one l (ad := ad) (sk := sk) (sv := sv) (tK := tK) dC dI cI h0 rw pt ou r_3 hm a0 11 4  r_5 g_6) (cwV 3 hts (aw_V aw_431 aw_433 aw_p21 aw_2 aw_434) rfl rfl rfl (by decide +kernel) ⟨Nat.le_of_ble_eq_true rfl, Nat.le_of_ble_eq_true rfl⟩) ⟨wBlind, va_recv hK hP (ci := 1) (q0 := 0) rfl rfl, fun U hU hW => ⟨rfl, by rw [hU]; exact hP, va_K.moved hW.alike hK, hD, hT.at hS hU hW (fun _ z => z)⟩⟩ rfl rfl hl.1 rfl (lv_room (Nat.le_of_ble_eq_true rfl)) d_M_layJump_21 ⟨Nat.le_refl _, Nat.le_refl _⟩) hS (fun _ _ h => h) (fun _ h => h) (fun u t H1 locs ht1 hvm hw hB hz1 hk1 hS => ?_)
  obtain ⟨hw, hm⟩ := hw
  rw [hw] at hB hm
  rw [ht1] at hB
  have hP : va_P (dC, dI) cls2 (wM cI h0 rw pt ou 0 (gg r_5) (fun _ => 0) (fun _ => 0) 0 0) H1 := hB
  have hD : va_D (aM h0 rw pt ou) (wM cI h0 rw pt ou 0 (gg r_5) (fun _ => 0) (fun _ => 0) 0 0) := dD hD0 rfl
  refine lv_aload_n hx hb d_M_layJump_24 rfl (lv_at hl 0 rfl) ?_
  refine lv_iload_n hx hb d_M_layJump_25 rfl (lv_at hl 1 rfl) ?_
  refine lv_bipush (v := 10) hx hb d_M_layJump_26 (by decide) ?_
  refine lv_bipush (v := 9) hx hb d_M_layJump_28 (by decide) ?_
  refine lv_sipush (v := 400) hx hb d_M_layJump_30 (by decide) ?_
  refine lv_bipush (v := 9) hx hb d_M_layJump_33 (by decide) ?_
  obtain ⟨r_7, g_8, hf⟩ := Option.bind_eq_some_iff.mp hf
  refine va_callv (va_runV (As := [.int (a0), .int (10), .int (9), .int (400), .int (9)]) (rest := []) ⟨hx, hb, hml, hown, hts⟩ (c_M_lay l (ad := ad) (sk := sk) (sv := sv) (tK := tK) dC dI cI h0 rw pt ou r_5 hm a0 10 9 400 9  r_7 g_8) (cwV 5 hts (aw_V aw_404 aw_406 aw_p18 aw_2 aw_407) rfl rfl rfl (by decide +kernel) ⟨Nat.le_of_ble_eq_true rfl, Nat.le_of_ble_eq_true rfl⟩) ⟨wBlind, va_recv hK hP (ci := 1) (q0 := 0) rfl rfl, fun U hU hW => ⟨rfl, by rw [hU]; exact hP, va_K.moved hW.alike hK, hD, hT.at hS hU hW (fun _ z => z)⟩⟩ rfl rfl hl.1 rfl (lv_room (Nat.le_of_ble_eq_true rfl)) d_M_layJump_35 ⟨Nat.le_refl _, Nat.le_refl _⟩) hS (fun _ _ h => h) (fun _ h => h) (fun u t H1 locs ht1 hvm hw hB hz1 hk1 hS => ?_)
  obtain ⟨hw, hm⟩ := hw
  rw [hw] at hB hm
  rw [ht1] at hB
  have hP : va_P (dC, dI) cls2 (wM cI h0 rw pt ou 0 (gg r_7) (fun _ => 0) (fun _ => 0) 0 0) H1 := hB
  have hD : va_D (aM h0 rw pt ou) (wM cI h0 rw pt ou 0 (gg r_7) (fun _ => 0) (fun _ => 0) 0 0) := dD hD0 rfl
  refine lv_aload_n hx hb d_M_layJump_38 rfl (lv_at hl 0 rfl) ?_
  refine lv_iload_n hx hb d_M_layJump_39 rfl (lv_at hl 1 rfl) ?_
  refine lv_bipush (v := 8) hx hb d_M_layJump_40 (by decide) ?_
  refine lv_bipush (v := 10) hx hb d_M_layJump_42 (by decide) ?_
  obtain ⟨r_9, g_10, hf⟩ := Option.bind_eq_some_iff.mp hf
  refine va_callv (va_runV (As := [.int (a0), .int (8), .int (10)]) (rest := []) ⟨hx, hb, hml, hown, hts⟩ (c_M_one l (ad := ad) (sk := sk) (sv := sv) (tK := tK) dC dI cI h0 rw pt ou r_7 hm a0 8 10  r_9 g_10) (cwV 3 hts (aw_V aw_431 aw_433 aw_p21 aw_2 aw_434) rfl rfl rfl (by decide +kernel) ⟨Nat.le_of_ble_eq_true rfl, Nat.le_of_ble_eq_true rfl⟩) ⟨wBlind, va_recv hK hP (ci := 1) (q0 := 0) rfl rfl, fun U hU hW => ⟨rfl, by rw [hU]; exact hP, va_K.moved hW.alike hK, hD, hT.at hS hU hW (fun _ z => z)⟩⟩ rfl rfl hl.1 rfl (lv_room (Nat.le_of_ble_eq_true rfl)) d_M_layJump_44 ⟨Nat.le_refl _, Nat.le_refl _⟩) hS (fun _ _ h => h) (fun _ h => h) (fun u t H1 locs ht1 hvm hw hB hz1 hk1 hS => ?_)
  obtain ⟨hw, hm⟩ := hw
  rw [hw] at hB hm
  rw [ht1] at hB
  have hP : va_P (dC, dI) cls2 (wM cI h0 rw pt ou 0 (gg r_9) (fun _ => 0) (fun _ => 0) 0 0) H1 := hB
  have hD : va_D (aM h0 rw pt ou) (wM cI h0 rw pt ou 0 (gg r_9) (fun _ => 0) (fun _ => 0) 0 0) := dD hD0 rfl
  refine lv_aload_n hx hb d_M_layJump_47 rfl (lv_at hl 0 rfl) ?_
  refine lv_iload_n hx hb d_M_layJump_48 rfl (lv_at hl 1 rfl) ?_
  refine lv_bipush (v := 7) hx hb d_M_layJump_49 (by decide) ?_
  refine lv_bipush (v := 6) hx hb d_M_layJump_51 (by decide) ?_
  obtain ⟨r_11, g_12, hf⟩ := Option.bind_eq_some_iff.mp hf
  refine va_callv (va_runV (As := [.int (a0), .int (7), .int (6)]) (rest := []) ⟨hx, hb, hml, hown, hts⟩ (c_M_one l (ad := ad) (sk := sk) (sv := sv) (tK := tK) dC dI cI h0 rw pt ou r_9 hm a0 7 6  r_11 g_12) (cwV 3 hts (aw_V aw_431 aw_433 aw_p21 aw_2 aw_434) rfl rfl rfl (by decide +kernel) ⟨Nat.le_of_ble_eq_true rfl, Nat.le_of_ble_eq_true rfl⟩) ⟨wBlind, va_recv hK hP (ci := 1) (q0 := 0) rfl rfl, fun U hU hW => ⟨rfl, by rw [hU]; exact hP, va_K.moved hW.alike hK, hD, hT.at hS hU hW (fun _ z => z)⟩⟩ rfl rfl hl.1 rfl (lv_room (Nat.le_of_ble_eq_true rfl)) d_M_layJump_53 ⟨Nat.le_refl _, Nat.le_refl _⟩) hS (fun _ _ h => h) (fun _ h => h) (fun u t H1 locs ht1 hvm hw hB hz1 hk1 hS => ?_)
  obtain ⟨hw, hm⟩ := hw
  rw [hw] at hB hm
  rw [ht1] at hB
  have hP : va_P (dC, dI) cls2 (wM cI h0 rw pt ou 0 (gg r_11) (fun _ => 0) (fun _ => 0) 0 0) H1 := hB
  have hD : va_D (aM h0 rw pt ou) (wM cI h0 rw pt ou 0 (gg r_11) (fun _ => 0) (fun _ => 0) 0 0) := dD hD0 rfl
  refine lv_aload_n hx hb d_M_layJump_56 rfl (lv_at hl 0 rfl) ?_
  refine lv_iload_n hx hb d_M_layJump_57 rfl (lv_at hl 1 rfl) ?_
  refine lv_bipush (v := 6) hx hb d_M_layJump_58 (by decide) ?_
  refine lv_bipush (v := 7) hx hb d_M_layJump_60 (by decide) ?_
  obtain ⟨r_13, g_14, hf⟩ := Option.bind_eq_some_iff.mp hf
  refine va_callv (va_runV (As := [.int (a0), .int (6), .int (7)]) (rest := []) ⟨hx, hb, hml, hown, hts⟩ (c_M_one l (ad := ad) (sk := sk) (sv := sv) (tK := tK) dC dI cI h0 rw pt ou r_11 hm a0 6 7  r_13 g_14) (cwV 3 hts (aw_V aw_431 aw_433 aw_p21 aw_2 aw_434) rfl rfl rfl (by decide +kernel) ⟨Nat.le_of_ble_eq_true rfl, Nat.le_of_ble_eq_true rfl⟩) ⟨wBlind, va_recv hK hP (ci := 1) (q0 := 0) rfl rfl, fun U hU hW => ⟨rfl, by rw [hU]; exact hP, va_K.moved hW.alike hK, hD, hT.at hS hU hW (fun _ z => z)⟩⟩ rfl rfl hl.1 rfl (lv_room (Nat.le_of_ble_eq_true rfl)) d_M_layJump_62 ⟨Nat.le_refl _, Nat.le_refl _⟩) hS (fun _ _ h => h) (fun _ h => h) (fun u t H1 locs ht1 hvm hw hB hz1 hk1 hS => ?_)
  obtain ⟨hw, hm⟩ := hw
  rw [hw] at hB hm
  rw [ht1] at hB
  have hP : va_P (dC, dI) cls2 (wM cI h0 rw pt ou 0 (gg r_13) (fun _ => 0) (fun _ => 0) 0 0) H1 := hB
  have hD : va_D (aM h0 rw pt ou) (wM cI h0 rw pt ou 0 (gg r_13) (fun _ => 0) (fun _ => 0) 0 0) := dD hD0 rfl
  refine lv_aload_n hx hb d_M_layJump_65 rfl (lv_at hl 0 rfl) ?_
  refine lv_iload_n hx hb d_M_layJump_66 rfl (lv_at hl 1 rfl) ?_
  refine lv_iconst (v := 5) hx hb d_M_layJump_67 (by decide) ?_
  refine lv_iconst (v := 3) hx hb d_M_layJump_68 (by decide) ?_
  refine lv_sipush (v := 400) hx hb d_M_layJump_69 (by decide) ?_
  refine lv_iconst (v := 3) hx hb d_M_layJump_72 (by decide) ?_
  obtain ⟨r_15, g_16, hf⟩ := Option.bind_eq_some_iff.mp hf
  refine va_callv (va_runV (As := [.int (a0), .int (5), .int (3), .int (400), .int (3)]) (rest := []) ⟨hx, hb, hml, hown, hts⟩ (c_M_lay l (ad := ad) (sk := sk) (sv := sv) (tK := tK) dC dI cI h0 rw pt ou r_13 hm a0 5 3 400 3  r_15 g_16) (cwV 5 hts (aw_V aw_404 aw_406 aw_p18 aw_2 aw_407) rfl rfl rfl (by decide +kernel) ⟨Nat.le_of_ble_eq_true rfl, Nat.le_of_ble_eq_true rfl⟩) ⟨wBlind, va_recv hK hP (ci := 1) (q0 := 0) rfl rfl, fun U hU hW => ⟨rfl, by rw [hU]; exact hP, va_K.moved hW.alike hK, hD, hT.at hS hU hW (fun _ z => z)⟩⟩ rfl rfl hl.1 rfl (lv_room (Nat.le_of_ble_eq_true rfl)) d_M_layJump_73 ⟨Nat.le_refl _, Nat.le_refl _⟩) hS (fun _ _ h => h) (fun _ h => h) (fun u t H1 locs ht1 hvm hw hB hz1 hk1 hS => ?_)
  obtain ⟨hw, hm⟩ := hw
  rw [hw] at hB hm
  rw [ht1] at hB
  have hP : va_P (dC, dI) cls2 (wM cI h0 rw pt ou 0 (gg r_15) (fun _ => 0) (fun _ => 0) 0 0) H1 := hB
  have hD : va_D (aM h0 rw pt ou) (wM cI h0 rw pt ou 0 (gg r_15) (fun _ => 0) (fun _ => 0) 0 0) := dD hD0 rfl
  refine lv_aload_n hx hb d_M_layJump_76 rfl (lv_at hl 0 rfl) ?_
  refine lv_iload_n hx hb d_M_layJump_77 rfl (lv_at hl 1 rfl) ?_
  refine lv_iconst (v := 2) hx hb d_M_layJump_78 (by decide) ?_
  refine lv_iconst (v := 5) hx hb d_M_layJump_79 (by decide) ?_
  obtain ⟨r_17, g_18, hf⟩ := Option.bind_eq_some_iff.mp hf
  refine va_callv (va_runV (As := [.int (a0), .int (2), .int (5)]) (rest := []) ⟨hx, hb, hml, hown, hts⟩ (c_M_one l (ad := ad) (sk := sk) (sv := sv) (tK := tK) dC dI cI h0 rw pt ou r_15 hm a0 2 5  r_17 g_18) (cwV 3 hts (aw_V aw_431 aw_433 aw_p21 aw_2 aw_434) rfl rfl rfl (by decide +kernel) ⟨Nat.le_of_ble_eq_true rfl, Nat.le_of_ble_eq_true rfl⟩) ⟨wBlind, va_recv hK hP (ci := 1) (q0 := 0) rfl rfl, fun U hU hW => ⟨rfl, by rw [hU]; exact hP, va_K.moved hW.alike hK, hD, hT.at hS hU hW (fun _ z => z)⟩⟩ rfl rfl hl.1 rfl (lv_room (Nat.le_of_ble_eq_true rfl)) d_M_layJump_80 ⟨Nat.le_refl _, Nat.le_refl _⟩) hS (fun _ _ h => h) (fun _ h => h) (fun u t H1 locs ht1 hvm hw hB hz1 hk1 hS => ?_)
  obtain ⟨hw, hm⟩ := hw
  rw [hw] at hB hm
  rw [ht1] at hB
  have hP : va_P (dC, dI) cls2 (wM cI h0 rw pt ou 0 (gg r_17) (fun _ => 0) (fun _ => 0) 0 0) H1 := hB
  have hD : va_D (aM h0 rw pt ou) (wM cI h0 rw pt ou 0 (gg r_17) (fun _ => 0) (fun _ => 0) 0 0) := dD hD0 rfl
  exact W.vret hx hb hr (fun t ht hW => ⟨⟨(r_17), rfl, ⟨Option.some.inj hf, hm⟩, by rw [← ht] at hP; exact hP⟩, hS.F ht⟩) hS.2.2 d_M_layJump_83

def f_M_layLong (w_mm : List (List Int32)) (a0 : Int32) : Option (List (List Int32)) :=
  if a0 < 48 then (if a0 ≤ 44 then ((f_M_opcodeOf a0).bind fun r_3 => (f_M_fix w_mm a0 0 7 r_3).bind fun r_5 => if 3 ≤ a0 then ((f_M_thirdOf a0).bind fun r_8 => (f_M_fix r_5 a0 12 3 r_8).bind fun r_10 => (f_M_lay r_10 a0 19 15 200 4).bind fun r_12 => (f_M_isBranch a0).bind fun r_14 => if (bI r_14) = 0 then ((f_M_isStore a0).bind fun r_17 => if (bI r_17) = 0 then ((f_M_lay r_12 a0 11 7 100 4).bind fun r_20 => if a0 ≤ 26 then ((f_M_isShift a0).bind fun r_23 => if (bI r_23) = 0 then ((f_M_lay r_20 a0 31 20 400 11).bind fun r_26 => some (r_26)) else ((f_M_lay r_20 a0 24 20 400 4).bind fun r_28 => (f_M_seventhOf a0).bind fun r_30 => (f_M_fix r_28 a0 25 7 r_30).bind fun r_32 => some (r_32))) else ((f_M_lay r_20 a0 24 20 300 4).bind fun r_34 => (f_M_seventhOf a0).bind fun r_36 => (f_M_fix r_34 a0 25 7 r_36).bind fun r_38 => some (r_38))) else ((f_M_lay r_12 a0 24 20 300 4).bind fun r_40 => (f_M_lay r_40 a0 31 25 400 11).bind fun r_42 => (f_M_lay r_42 a0 11 7 400 4).bind fun r_44 => some (r_44))) else ((f_M_lay r_12 a0 24 20 300 4).bind fun r_46 => (f_M_lay r_46 a0 31 31 400 12).bind fun r_48 => (f_M_lay r_48 a0 30 25 400 10).bind fun r_50 => (f_M_lay r_50 a0 11 8 400 4).bind fun r_52 => (f_M_lay r_52 a0 7 7 400 11).bind fun r_54 => some (r_54))) else ((f_M_lay r_5 a0 11 7 100 4).bind fun r_56 => if 2 ≤ a0 then ((f_M_lay r_56 a0 31 31 400 20).bind fun r_59 => (f_M_lay r_59 a0 30 21 400 10).bind fun r_61 => (f_M_lay r_61 a0 20 20 400 11).bind fun r_63 => (f_M_lay r_63 a0 19 12 400 19).bind fun r_65 => some (r_65)) else ((f_M_lay r_56 a0 31 12 400 19).bind fun r_67 => some (r_67)))) else (if a0 = 45 then ((f_M_fix w_mm a0 0 32 267386895).bind fun r_75 => some (r_75)) else (if a0 = 46 then ((f_M_fix w_mm a0 0 32 115).bind fun r_73 => some (r_73)) else ((f_M_fix w_mm a0 0 32 1048691).bind fun r_71 => some (r_71))))) else (some (w_mm))
set_option maxHeartbeats 1000000 in
set_option maxRecDepth 100000 in
theorem c_M_layLong (l : Launch) {ad sk sv : Nat → Nat} {tK : Nat} (dC : Nat → ClassId) (dI : Nat → Nat → Nat) (cI : ClassId) (h0 rw pt ou : Nat) (w_mm : List (List Int32)) (hm : gw w_mm) (a0 : Int32)  (r : List (List Int32)) (hf : f_M_layLong w_mm a0 = some r) : Met l y_M_layLong (Cond.code y_M_layLong b_M_layLong 2 (Option.none : Option FieldType) :: aw) ({ frames := 1, cells := 0, slots := 0, locals := 26 } : Room) (va_Pc [.ref (h0), .int (a0)] (fun U => va_P (dC, dI) cls2 (wM cI h0 rw pt ou 0 (gg w_mm) (fun _ => 0) (fun _ => 0) 0 0) U.heap ∧ va_K (dC, dI) cls2 [(cI, .int)] U ∧ va_D (aM h0 rw pt ou) (wM cI h0 rw pt ou 0 (gg w_mm) (fun _ => 0) (fun _ => 0) 0 0) ∧ tb ad sk sv tK (aM h0 rw pt ou) U U.heap)) (va_Qv (fun u => u = r ∧ gw u) (fun (u : List (List Int32)) t => va_P (dC, dI) cls2 (wM cI h0 rw pt ou 0 (gg u) (fun _ => 0) (fun _ => 0) 0 0) t.heap) (aM h0 rw pt ou)) 0 0 (aM h0 rw pt ou) := by
  refine Met.ofW (cc := b_M_layLong) (maxL := 2) (ret := (Option.none : Option FieldType)) (by decide) rfl ?_
  intro p e s m args below meth c s₁ B hml hv
  obtain ⟨rfl, hP, hK, hD, hT⟩ := hv
  have hD0 := hD
  have hx := B.exec
  have hb := B.bytes
  have hr := B.returns
  have hts := atoms_spec (ws := (Cond.code y_M_layLong b_M_layLong 2 (Option.none : Option FieldType) :: aw)) B.pre
  have ht : ∀ {w : Cond}, w ∈ aw → w.before ([.ref (h0), .int (a0)] : List Value).toArray s = true := fun h => hts _ (List.mem_cons_of_mem _ h)
  have hown : s.vm.findClass "CodeWordsModel" = some m.cls := findClass_of_methodNamed B.named
  have hlocks := B.notSynchronized
  have hS : va_S (aM h0 rw pt ou) s.heap s.heap [] := va_S.rf
  have hl := lv_entry ([.ref (h0), .int (a0)]) (n := 2) (Nat.le_of_ble_eq_true rfl)
  rw [lg_entry_eq]
  generalize (lg_sl ([.ref (h0), .int (a0)]) ++ List.replicate (2 - (lg_sl ([.ref (h0), .int (a0)])).length) Slot.unset).toArray = ls at hl ⊢
  have hl : lv_has ls 2 [(0, .ref (h0)), (1, .int (a0))] := hl
  rw [f_M_layLong] at hf
  refine lv_iload_n hx hb d_M_layLong_0 rfl (lv_at hl 1 rfl) ?_
  refine lv_bipush (v := 48) hx hb d_M_layLong_1 (by decide) ?_
  refine lv_icmp_lt (tgt := 7) hx hb d_M_layLong_3 (by decide) (fun c_1 => ?_) (fun c_1 => ?_)
  · replace hf := (if_pos c_1).symm.trans hf
    refine lv_iload_n hx hb d_M_layLong_7 rfl (lv_at hl 1 rfl) ?_
    refine lv_bipush (v := 44) hx hb d_M_layLong_8 (by decide) ?_
    refine lv_icmp_le (tgt := 46) hx hb d_M_layLong_10 (by decide) (fun c_2 => ?_) (fun c_2 => ?_)
    · replace hf := (if_pos c_2).symm.trans hf
      refine lv_aload_n hx hb d_M_layLong_46 rfl (lv_at hl 0 rfl) ?_
      refine lv_iload_n hx hb d_M_layLong_47 rfl (lv_at hl 1 rfl) ?_
      refine lv_iconst (v := 0) hx hb d_M_layLong_48 (by decide) ?_
      refine lv_bipush (v := 7) hx hb d_M_layLong_49 (by decide) ?_
      refine lv_iload_n hx hb d_M_layLong_51 rfl (lv_at hl 1 rfl) ?_
      obtain ⟨r_3, g_4, hf⟩ := Option.bind_eq_some_iff.mp hf
      refine ju_calli (W.runS (As := [.int (a0)]) (rest := [.int (7), .int (0), .int (a0), .ref (h0)]) ⟨hx, hb, hml, hown, hts⟩ (c_M_opcodeOf l (ad := ad) (sk := sk) (sv := sv) (tK := tK)  a0  r_3 g_4) (va_cwS 1 hts (aw_S aw_401 aw_402 aw_2 aw_403) rfl rfl rfl (by decide +kernel) ⟨Nat.le_of_ble_eq_true rfl, Nat.le_of_ble_eq_true rfl⟩) ⟨fun a U g mk q => ⟨q.1, q.2.call⟩, fun U hU hW => ⟨rfl, hT.at hS hU hW (fun _ z => z.elim)⟩⟩ rfl rfl hl.1 rfl (lv_room (Nat.le_of_ble_eq_true rfl)) d_M_layLong_52 ⟨Nat.le_refl _, Nat.le_refl _⟩) ?_
      obtain ⟨r_5, g_6, hf⟩ := Option.bind_eq_some_iff.mp hf
      refine va_callv (va_runV (As := [.int (a0), .int (0), .int (7), .int (r_3)]) (rest := []) ⟨hx, hb, hml, hown, hts⟩ (c_M_fix l (ad := ad) (sk := sk) (sv := sv) (tK := tK) dC dI cI h0 rw pt ou w_mm hm a0 0 7 r_3  r_5 g_6) (cwV 4 hts (aw_V aw_397 aw_399 aw_p17 aw_2 aw_400) rfl rfl rfl (by decide +kernel) ⟨Nat.le_of_ble_eq_true rfl, Nat.le_of_ble_eq_true rfl⟩) ⟨wBlind, va_recv hK hP (ci := 1) (q0 := 0) rfl rfl, fun U hU hW => ⟨rfl, by rw [hU]; exact hP, va_K.moved hW.alike hK, hD, hT.at hS hU hW (fun _ z => z)⟩⟩ rfl rfl hl.1 rfl (lv_room (Nat.le_of_ble_eq_true rfl)) d_M_layLong_55 ⟨Nat.le_refl _, Nat.le_refl _⟩) hS (fun _ _ h => h) (fun _ h => h) (fun u t H1 locs ht1 hvm hw hB hz1 hk1 hS => ?_)
      obtain ⟨hw, hm⟩ := hw
      rw [hw] at hB hm
      rw [ht1] at hB
      have hP : va_P (dC, dI) cls2 (wM cI h0 rw pt ou 0 (gg r_5) (fun _ => 0) (fun _ => 0) 0 0) H1 := hB
      have hD : va_D (aM h0 rw pt ou) (wM cI h0 rw pt ou 0 (gg r_5) (fun _ => 0) (fun _ => 0) 0 0) := dD hD0 rfl
      refine lv_iload_n hx hb d_M_layLong_58 rfl (lv_at hl 1 rfl) ?_
      refine lv_iconst (v := 3) hx hb d_M_layLong_59 (by decide) ?_
      refine lv_icmp_ge (tgt := 154) hx hb d_M_layLong_60 (by decide) (fun c_7 => ?_) (fun c_7 => ?_)
      · replace hf := (if_pos c_7).symm.trans hf
        refine lv_aload_n hx hb d_M_layLong_154 rfl (lv_at hl 0 rfl) ?_
        refine lv_iload_n hx hb d_M_layLong_155 rfl (lv_at hl 1 rfl) ?_
        refine lv_bipush (v := 12) hx hb d_M_layLong_156 (by decide) ?_
        refine lv_iconst (v := 3) hx hb d_M_layLong_158 (by decide) ?_
        refine lv_iload_n hx hb d_M_layLong_159 rfl (lv_at hl 1 rfl) ?_
        obtain ⟨r_8, g_9, hf⟩ := Option.bind_eq_some_iff.mp hf
        refine ju_calli (W.runS (As := [.int (a0)]) (rest := [.int (3), .int (12), .int (a0), .ref (h0)]) ⟨hx, hb, hml, hown, hts⟩ (c_M_thirdOf l (ad := ad) (sk := sk) (sv := sv) (tK := tK)  a0  r_8 g_9) (va_cwS 1 hts (aw_S aw_408 aw_409 aw_2 aw_410) rfl rfl rfl (by decide +kernel) ⟨Nat.le_of_ble_eq_true rfl, Nat.le_of_ble_eq_true rfl⟩) ⟨fun a U g mk q => ⟨q.1, q.2.call⟩, fun U hU hW => ⟨rfl, hT.at hS hU hW (fun _ z => z.elim)⟩⟩ rfl rfl hl.1 rfl (lv_room (Nat.le_of_ble_eq_true rfl)) d_M_layLong_160 ⟨Nat.le_refl _, Nat.le_refl _⟩) ?_
        obtain ⟨r_10, g_11, hf⟩ := Option.bind_eq_some_iff.mp hf
        refine va_callv (va_runV (As := [.int (a0), .int (12), .int (3), .int (r_8)]) (rest := []) ⟨hx, hb, hml, hown, hts⟩ (c_M_fix l (ad := ad) (sk := sk) (sv := sv) (tK := tK) dC dI cI h0 rw pt ou r_5 hm a0 12 3 r_8  r_10 g_11) (cwV 4 hts (aw_V aw_397 aw_399 aw_p17 aw_2 aw_400) rfl rfl rfl (by decide +kernel) ⟨Nat.le_of_ble_eq_true rfl, Nat.le_of_ble_eq_true rfl⟩) ⟨wBlind, va_recv hK hP (ci := 1) (q0 := 0) rfl rfl, fun U hU hW => ⟨rfl, by rw [hU]; exact hP, va_K.moved hW.alike hK, hD, hT.at hS hU hW (fun _ z => z)⟩⟩ rfl rfl hl.1 rfl (lv_room (Nat.le_of_ble_eq_true rfl)) d_M_layLong_163 ⟨Nat.le_refl _, Nat.le_refl _⟩) hS (fun _ _ h => h) (fun _ h => h) (fun u t H1 locs ht1 hvm hw hB hz1 hk1 hS => ?_)
        obtain ⟨hw, hm⟩ := hw
        rw [hw] at hB hm
        rw [ht1] at hB
        have hP : va_P (dC, dI) cls2 (wM cI h0 rw pt ou 0 (gg r_10) (fun _ => 0) (fun _ => 0) 0 0) H1 := hB
        have hD : va_D (aM h0 rw pt ou) (wM cI h0 rw pt ou 0 (gg r_10) (fun _ => 0) (fun _ => 0) 0 0) := dD hD0 rfl
        refine lv_aload_n hx hb d_M_layLong_166 rfl (lv_at hl 0 rfl) ?_
        refine lv_iload_n hx hb d_M_layLong_167 rfl (lv_at hl 1 rfl) ?_
        refine lv_bipush (v := 19) hx hb d_M_layLong_168 (by decide) ?_
        refine lv_bipush (v := 15) hx hb d_M_layLong_170 (by decide) ?_
        refine lv_sipush (v := 200) hx hb d_M_layLong_172 (by decide) ?_
        refine lv_iconst (v := 4) hx hb d_M_layLong_175 (by decide) ?_
        obtain ⟨r_12, g_13, hf⟩ := Option.bind_eq_some_iff.mp hf
        refine va_callv (va_runV (As := [.int (a0), .int (19), .int (15), .int (200), .int (4)]) (rest := []) ⟨hx, hb, hml, hown, hts⟩ (c_M_lay l (ad := ad) (sk := sk) (sv := sv) (tK := tK) dC dI cI h0 rw pt ou r_10 hm a0 19 15 200 4  r_12 g_13) (cwV 5 hts (aw_V aw_404 aw_406 aw_p18 aw_2 aw_407) rfl rfl rfl (by decide +kernel) ⟨Nat.le_of_ble_eq_true rfl, Nat.le_of_ble_eq_true rfl⟩) ⟨wBlind, va_recv hK hP (ci := 1) (q0 := 0) rfl rfl, fun U hU hW => ⟨rfl, by rw [hU]; exact hP, va_K.moved hW.alike hK, hD, hT.at hS hU hW (fun _ z => z)⟩⟩ rfl rfl hl.1 rfl (lv_room (Nat.le_of_ble_eq_true rfl)) d_M_layLong_176 ⟨Nat.le_refl _, Nat.le_refl _⟩) hS (fun _ _ h => h) (fun _ h => h) (fun u t H1 locs ht1 hvm hw hB hz1 hk1 hS => ?_)
        obtain ⟨hw, hm⟩ := hw
        rw [hw] at hB hm
        rw [ht1] at hB
        have hP : va_P (dC, dI) cls2 (wM cI h0 rw pt ou 0 (gg r_12) (fun _ => 0) (fun _ => 0) 0 0) H1 := hB
        have hD : va_D (aM h0 rw pt ou) (wM cI h0 rw pt ou 0 (gg r_12) (fun _ => 0) (fun _ => 0) 0 0) := dD hD0 rfl
        refine lv_iload_n hx hb d_M_layLong_179 rfl (lv_at hl 1 rfl) ?_
        obtain ⟨r_14, g_15, hf⟩ := Option.bind_eq_some_iff.mp hf
        refine ju_calli (W.runS (As := [.int (a0)]) (rest := []) ⟨hx, hb, hml, hown, hts⟩ (c_M_isBranch l (ad := ad) (sk := sk) (sv := sv) (tK := tK)  a0  r_14 g_15) (va_cwS 1 hts (aw_S aw_411 aw_412 aw_2 aw_413) rfl rfl rfl (by decide +kernel) ⟨Nat.le_of_ble_eq_true rfl, Nat.le_of_ble_eq_true rfl⟩) ⟨fun a U g mk q => ⟨q.1, q.2.call⟩, fun U hU hW => ⟨rfl, hT.at hS hU hW (fun _ z => z.elim)⟩⟩ rfl rfl hl.1 rfl (lv_room (Nat.le_of_ble_eq_true rfl)) d_M_layLong_180 ⟨Nat.le_refl _, Nat.le_refl _⟩) ?_
        refine lv_if_eq (tgt := 257) hx hb d_M_layLong_183 (by decide) (fun c_16 => ?_) (fun c_16 => ?_)
        · replace hf := (if_pos c_16).symm.trans hf
          refine lv_iload_n hx hb d_M_layLong_257 rfl (lv_at hl 1 rfl) ?_
          obtain ⟨r_17, g_18, hf⟩ := Option.bind_eq_some_iff.mp hf
          refine ju_calli (W.runS (As := [.int (a0)]) (rest := []) ⟨hx, hb, hml, hown, hts⟩ (c_M_isStore l (ad := ad) (sk := sk) (sv := sv) (tK := tK)  a0  r_17 g_18) (va_cwS 1 hts (aw_S aw_414 aw_415 aw_2 aw_416) rfl rfl rfl (by decide +kernel) ⟨Nat.le_of_ble_eq_true rfl, Nat.le_of_ble_eq_true rfl⟩) ⟨fun a U g mk q => ⟨q.1, q.2.call⟩, fun U hU hW => ⟨rfl, hT.at hS hU hW (fun _ z => z.elim)⟩⟩ rfl rfl hl.1 rfl (lv_room (Nat.le_of_ble_eq_true rfl)) d_M_layLong_258 ⟨Nat.le_refl _, Nat.le_refl _⟩) ?_
          refine lv_if_eq (tgt := 307) hx hb d_M_layLong_261 (by decide) (fun c_19 => ?_) (fun c_19 => ?_)
          · replace hf := (if_pos c_19).symm.trans hf
            refine lv_aload_n hx hb d_M_layLong_307 rfl (lv_at hl 0 rfl) ?_
            refine lv_iload_n hx hb d_M_layLong_308 rfl (lv_at hl 1 rfl) ?_
            refine lv_bipush (v := 11) hx hb d_M_layLong_309 (by decide) ?_
            refine lv_bipush (v := 7) hx hb d_M_layLong_311 (by decide) ?_
            refine lv_bipush (v := 100) hx hb d_M_layLong_313 (by decide) ?_
            refine lv_iconst (v := 4) hx hb d_M_layLong_315 (by decide) ?_
            obtain ⟨r_20, g_21, hf⟩ := Option.bind_eq_some_iff.mp hf
            refine va_callv (va_runV (As := [.int (a0), .int (11), .int (7), .int (100), .int (4)]) (rest := []) ⟨hx, hb, hml, hown, hts⟩ (c_M_lay l (ad := ad) (sk := sk) (sv := sv) (tK := tK) dC dI cI h0 rw pt ou r_12 hm a0 11 7 100 4  r_20 g_21) (cwV 5 hts (aw_V aw_404 aw_406 aw_p18 aw_2 aw_407) rfl rfl rfl (by decide +kernel) ⟨Nat.le_of_ble_eq_true rfl, Nat.le_of_ble_eq_true rfl⟩) ⟨wBlind, va_recv hK hP (ci := 1) (q0 := 0) rfl rfl, fun U hU hW => ⟨rfl, by rw [hU]; exact hP, va_K.moved hW.alike hK, hD, hT.at hS hU hW (fun _ z => z)⟩⟩ rfl rfl hl.1 rfl (lv_room (Nat.le_of_ble_eq_true rfl)) d_M_layLong_316 ⟨Nat.le_refl _, Nat.le_refl _⟩) hS (fun _ _ h => h) (fun _ h => h) (fun u t H1 locs ht1 hvm hw hB hz1 hk1 hS => ?_)
            obtain ⟨hw, hm⟩ := hw
            rw [hw] at hB hm
            rw [ht1] at hB
            have hP : va_P (dC, dI) cls2 (wM cI h0 rw pt ou 0 (gg r_20) (fun _ => 0) (fun _ => 0) 0 0) H1 := hB
            have hD : va_D (aM h0 rw pt ou) (wM cI h0 rw pt ou 0 (gg r_20) (fun _ => 0) (fun _ => 0) 0 0) := dD hD0 rfl
            refine lv_iload_n hx hb d_M_layLong_319 rfl (lv_at hl 1 rfl) ?_
            refine lv_bipush (v := 26) hx hb d_M_layLong_320 (by decide) ?_
            refine lv_icmp_le (tgt := 354) hx hb d_M_layLong_322 (by decide) (fun c_22 => ?_) (fun c_22 => ?_)
            · replace hf := (if_pos c_22).symm.trans hf
              refine lv_iload_n hx hb d_M_layLong_354 rfl (lv_at hl 1 rfl) ?_
              obtain ⟨r_23, g_24, hf⟩ := Option.bind_eq_some_iff.mp hf
              refine ju_calli (W.runS (As := [.int (a0)]) (rest := []) ⟨hx, hb, hml, hown, hts⟩ (c_M_isShift l (ad := ad) (sk := sk) (sv := sv) (tK := tK)  a0  r_23 g_24) (va_cwS 1 hts (aw_S aw_420 aw_421 aw_2 aw_422) rfl rfl rfl (by decide +kernel) ⟨Nat.le_of_ble_eq_true rfl, Nat.le_of_ble_eq_true rfl⟩) ⟨fun a U g mk q => ⟨q.1, q.2.call⟩, fun U hU hW => ⟨rfl, hT.at hS hU hW (fun _ z => z.elim)⟩⟩ rfl rfl hl.1 rfl (lv_room (Nat.le_of_ble_eq_true rfl)) d_M_layLong_355 ⟨Nat.le_refl _, Nat.le_refl _⟩) ?_
              refine lv_if_eq (tgt := 390) hx hb d_M_layLong_358 (by decide) (fun c_25 => ?_) (fun c_25 => ?_)
              · replace hf := (if_pos c_25).symm.trans hf
                refine lv_aload_n hx hb d_M_layLong_390 rfl (lv_at hl 0 rfl) ?_
                refine lv_iload_n hx hb d_M_layLong_391 rfl (lv_at hl 1 rfl) ?_
                refine lv_bipush (v := 31) hx hb d_M_layLong_392 (by decide) ?_
                refine lv_bipush (v := 20) hx hb d_M_layLong_394 (by decide) ?_
                refine lv_sipush (v := 400) hx hb d_M_layLong_396 (by decide) ?_
                refine lv_bipush (v := 11) hx hb d_M_layLong_399 (by decide) ?_
                obtain ⟨r_26, g_27, hf⟩ := Option.bind_eq_some_iff.mp hf
                refine va_callv (va_runV (As := [.int (a0), .int (31), .int (20), .int (400), .int (11)]) (rest := []) ⟨hx, hb, hml, hown, hts⟩ (c_M_lay l (ad := ad) (sk := sk) (sv := sv) (tK := tK) dC dI cI h0 rw pt ou r_20 hm a0 31 20 400 11  r_26 g_27) (cwV 5 hts (aw_V aw_404 aw_406 aw_p18 aw_2 aw_407) rfl rfl rfl (by decide +kernel) ⟨Nat.le_of_ble_eq_true rfl, Nat.le_of_ble_eq_true rfl⟩) ⟨wBlind, va_recv hK hP (ci := 1) (q0 := 0) rfl rfl, fun U hU hW => ⟨rfl, by rw [hU]; exact hP, va_K.moved hW.alike hK, hD, hT.at hS hU hW (fun _ z => z)⟩⟩ rfl rfl hl.1 rfl (lv_room (Nat.le_of_ble_eq_true rfl)) d_M_layLong_401 ⟨Nat.le_refl _, Nat.le_refl _⟩) hS (fun _ _ h => h) (fun _ h => h) (fun u t H1 locs ht1 hvm hw hB hz1 hk1 hS => ?_)
                obtain ⟨hw, hm⟩ := hw
                rw [hw] at hB hm
                rw [ht1] at hB
                have hP : va_P (dC, dI) cls2 (wM cI h0 rw pt ou 0 (gg r_26) (fun _ => 0) (fun _ => 0) 0 0) H1 := hB
                have hD : va_D (aM h0 rw pt ou) (wM cI h0 rw pt ou 0 (gg r_26) (fun _ => 0) (fun _ => 0) 0 0) := dD hD0 rfl
                exact W.vret hx hb hr (fun t ht hW => ⟨⟨(r_26), rfl, ⟨Option.some.inj hf, hm⟩, by rw [← ht] at hP; exact hP⟩, hS.F ht⟩) hS.2.2 d_M_layLong_404
              · replace hf := (if_neg c_25).symm.trans hf
                refine lv_aload_n hx hb d_M_layLong_361 rfl (lv_at hl 0 rfl) ?_
                refine lv_iload_n hx hb d_M_layLong_362 rfl (lv_at hl 1 rfl) ?_
                refine lv_bipush (v := 24) hx hb d_M_layLong_363 (by decide) ?_
                refine lv_bipush (v := 20) hx hb d_M_layLong_365 (by decide) ?_
                refine lv_sipush (v := 400) hx hb d_M_layLong_367 (by decide) ?_
                refine lv_iconst (v := 4) hx hb d_M_layLong_370 (by decide) ?_
                obtain ⟨r_28, g_29, hf⟩ := Option.bind_eq_some_iff.mp hf
                refine va_callv (va_runV (As := [.int (a0), .int (24), .int (20), .int (400), .int (4)]) (rest := []) ⟨hx, hb, hml, hown, hts⟩ (c_M_lay l (ad := ad) (sk := sk) (sv := sv) (tK := tK) dC dI cI h0 rw pt ou r_20 hm a0 24 20 400 4  r_28 g_29) (cwV 5 hts (aw_V aw_404 aw_406 aw_p18 aw_2 aw_407) rfl rfl rfl (by decide +kernel) ⟨Nat.le_of_ble_eq_true rfl, Nat.le_of_ble_eq_true rfl⟩) ⟨wBlind, va_recv hK hP (ci := 1) (q0 := 0) rfl rfl, fun U hU hW => ⟨rfl, by rw [hU]; exact hP, va_K.moved hW.alike hK, hD, hT.at hS hU hW (fun _ z => z)⟩⟩ rfl rfl hl.1 rfl (lv_room (Nat.le_of_ble_eq_true rfl)) d_M_layLong_371 ⟨Nat.le_refl _, Nat.le_refl _⟩) hS (fun _ _ h => h) (fun _ h => h) (fun u t H1 locs ht1 hvm hw hB hz1 hk1 hS => ?_)
                obtain ⟨hw, hm⟩ := hw
                rw [hw] at hB hm
                rw [ht1] at hB
                have hP : va_P (dC, dI) cls2 (wM cI h0 rw pt ou 0 (gg r_28) (fun _ => 0) (fun _ => 0) 0 0) H1 := hB
                have hD : va_D (aM h0 rw pt ou) (wM cI h0 rw pt ou 0 (gg r_28) (fun _ => 0) (fun _ => 0) 0 0) := dD hD0 rfl
                refine lv_aload_n hx hb d_M_layLong_374 rfl (lv_at hl 0 rfl) ?_
                refine lv_iload_n hx hb d_M_layLong_375 rfl (lv_at hl 1 rfl) ?_
                refine lv_bipush (v := 25) hx hb d_M_layLong_376 (by decide) ?_
                refine lv_bipush (v := 7) hx hb d_M_layLong_378 (by decide) ?_
                refine lv_iload_n hx hb d_M_layLong_380 rfl (lv_at hl 1 rfl) ?_
                obtain ⟨r_30, g_31, hf⟩ := Option.bind_eq_some_iff.mp hf
                refine ju_calli (W.runS (As := [.int (a0)]) (rest := [.int (7), .int (25), .int (a0), .ref (h0)]) ⟨hx, hb, hml, hown, hts⟩ (c_M_seventhOf l (ad := ad) (sk := sk) (sv := sv) (tK := tK)  a0  r_30 g_31) (va_cwS 1 hts (aw_S aw_417 aw_418 aw_2 aw_419) rfl rfl rfl (by decide +kernel) ⟨Nat.le_of_ble_eq_true rfl, Nat.le_of_ble_eq_true rfl⟩) ⟨fun a U g mk q => ⟨q.1, q.2.call⟩, fun U hU hW => ⟨rfl, hT.at hS hU hW (fun _ z => z.elim)⟩⟩ rfl rfl hl.1 rfl (lv_room (Nat.le_of_ble_eq_true rfl)) d_M_layLong_381 ⟨Nat.le_refl _, Nat.le_refl _⟩) ?_
                obtain ⟨r_32, g_33, hf⟩ := Option.bind_eq_some_iff.mp hf
                refine va_callv (va_runV (As := [.int (a0), .int (25), .int (7), .int (r_30)]) (rest := []) ⟨hx, hb, hml, hown, hts⟩ (c_M_fix l (ad := ad) (sk := sk) (sv := sv) (tK := tK) dC dI cI h0 rw pt ou r_28 hm a0 25 7 r_30  r_32 g_33) (cwV 4 hts (aw_V aw_397 aw_399 aw_p17 aw_2 aw_400) rfl rfl rfl (by decide +kernel) ⟨Nat.le_of_ble_eq_true rfl, Nat.le_of_ble_eq_true rfl⟩) ⟨wBlind, va_recv hK hP (ci := 1) (q0 := 0) rfl rfl, fun U hU hW => ⟨rfl, by rw [hU]; exact hP, va_K.moved hW.alike hK, hD, hT.at hS hU hW (fun _ z => z)⟩⟩ rfl rfl hl.1 rfl (lv_room (Nat.le_of_ble_eq_true rfl)) d_M_layLong_384 ⟨Nat.le_refl _, Nat.le_refl _⟩) hS (fun _ _ h => h) (fun _ h => h) (fun u t H1 locs ht1 hvm hw hB hz1 hk1 hS => ?_)
                obtain ⟨hw, hm⟩ := hw
                rw [hw] at hB hm
                rw [ht1] at hB
                have hP : va_P (dC, dI) cls2 (wM cI h0 rw pt ou 0 (gg r_32) (fun _ => 0) (fun _ => 0) 0 0) H1 := hB
                have hD : va_D (aM h0 rw pt ou) (wM cI h0 rw pt ou 0 (gg r_32) (fun _ => 0) (fun _ => 0) 0 0) := dD hD0 rfl
                refine lv_goto (tgt := 404) hx hb d_M_layLong_387 (by decide) ?_
                exact W.vret hx hb hr (fun t ht hW => ⟨⟨(r_32), rfl, ⟨Option.some.inj hf, hm⟩, by rw [← ht] at hP; exact hP⟩, hS.F ht⟩) hS.2.2 d_M_layLong_404
            · replace hf := (if_neg c_22).symm.trans hf
              refine lv_aload_n hx hb d_M_layLong_325 rfl (lv_at hl 0 rfl) ?_
              refine lv_iload_n hx hb d_M_layLong_326 rfl (lv_at hl 1 rfl) ?_
              refine lv_bipush (v := 24) hx hb d_M_layLong_327 (by decide) ?_
              refine lv_bipush (v := 20) hx hb d_M_layLong_329 (by decide) ?_
              refine lv_sipush (v := 300) hx hb d_M_layLong_331 (by decide) ?_
              refine lv_iconst (v := 4) hx hb d_M_layLong_334 (by decide) ?_
              obtain ⟨r_34, g_35, hf⟩ := Option.bind_eq_some_iff.mp hf
              refine va_callv (va_runV (As := [.int (a0), .int (24), .int (20), .int (300), .int (4)]) (rest := []) ⟨hx, hb, hml, hown, hts⟩ (c_M_lay l (ad := ad) (sk := sk) (sv := sv) (tK := tK) dC dI cI h0 rw pt ou r_20 hm a0 24 20 300 4  r_34 g_35) (cwV 5 hts (aw_V aw_404 aw_406 aw_p18 aw_2 aw_407) rfl rfl rfl (by decide +kernel) ⟨Nat.le_of_ble_eq_true rfl, Nat.le_of_ble_eq_true rfl⟩) ⟨wBlind, va_recv hK hP (ci := 1) (q0 := 0) rfl rfl, fun U hU hW => ⟨rfl, by rw [hU]; exact hP, va_K.moved hW.alike hK, hD, hT.at hS hU hW (fun _ z => z)⟩⟩ rfl rfl hl.1 rfl (lv_room (Nat.le_of_ble_eq_true rfl)) d_M_layLong_335 ⟨Nat.le_refl _, Nat.le_refl _⟩) hS (fun _ _ h => h) (fun _ h => h) (fun u t H1 locs ht1 hvm hw hB hz1 hk1 hS => ?_)
              obtain ⟨hw, hm⟩ := hw
              rw [hw] at hB hm
              rw [ht1] at hB
              have hP : va_P (dC, dI) cls2 (wM cI h0 rw pt ou 0 (gg r_34) (fun _ => 0) (fun _ => 0) 0 0) H1 := hB
              have hD : va_D (aM h0 rw pt ou) (wM cI h0 rw pt ou 0 (gg r_34) (fun _ => 0) (fun _ => 0) 0 0) := dD hD0 rfl
              refine lv_aload_n hx hb d_M_layLong_338 rfl (lv_at hl 0 rfl) ?_
              refine lv_iload_n hx hb d_M_layLong_339 rfl (lv_at hl 1 rfl) ?_
              refine lv_bipush (v := 25) hx hb d_M_layLong_340 (by decide) ?_
              refine lv_bipush (v := 7) hx hb d_M_layLong_342 (by decide) ?_
              refine lv_iload_n hx hb d_M_layLong_344 rfl (lv_at hl 1 rfl) ?_
              obtain ⟨r_36, g_37, hf⟩ := Option.bind_eq_some_iff.mp hf
              refine ju_calli (W.runS (As := [.int (a0)]) (rest := [.int (7), .int (25), .int (a0), .ref (h0)]) ⟨hx, hb, hml, hown, hts⟩ (c_M_seventhOf l (ad := ad) (sk := sk) (sv := sv) (tK := tK)  a0  r_36 g_37) (va_cwS 1 hts (aw_S aw_417 aw_418 aw_2 aw_419) rfl rfl rfl (by decide +kernel) ⟨Nat.le_of_ble_eq_true rfl, Nat.le_of_ble_eq_true rfl⟩) ⟨fun a U g mk q => ⟨q.1, q.2.call⟩, fun U hU hW => ⟨rfl, hT.at hS hU hW (fun _ z => z.elim)⟩⟩ rfl rfl hl.1 rfl (lv_room (Nat.le_of_ble_eq_true rfl)) d_M_layLong_345 ⟨Nat.le_refl _, Nat.le_refl _⟩) ?_
              obtain ⟨r_38, g_39, hf⟩ := Option.bind_eq_some_iff.mp hf
              refine va_callv (va_runV (As := [.int (a0), .int (25), .int (7), .int (r_36)]) (rest := []) ⟨hx, hb, hml, hown, hts⟩ (c_M_fix l (ad := ad) (sk := sk) (sv := sv) (tK := tK) dC dI cI h0 rw pt ou r_34 hm a0 25 7 r_36  r_38 g_39) (cwV 4 hts (aw_V aw_397 aw_399 aw_p17 aw_2 aw_400) rfl rfl rfl (by decide +kernel) ⟨Nat.le_of_ble_eq_true rfl, Nat.le_of_ble_eq_true rfl⟩) ⟨wBlind, va_recv hK hP (ci := 1) (q0 := 0) rfl rfl, fun U hU hW => ⟨rfl, by rw [hU]; exact hP, va_K.moved hW.alike hK, hD, hT.at hS hU hW (fun _ z => z)⟩⟩ rfl rfl hl.1 rfl (lv_room (Nat.le_of_ble_eq_true rfl)) d_M_layLong_348 ⟨Nat.le_refl _, Nat.le_refl _⟩) hS (fun _ _ h => h) (fun _ h => h) (fun u t H1 locs ht1 hvm hw hB hz1 hk1 hS => ?_)
              obtain ⟨hw, hm⟩ := hw
              rw [hw] at hB hm
              rw [ht1] at hB
              have hP : va_P (dC, dI) cls2 (wM cI h0 rw pt ou 0 (gg r_38) (fun _ => 0) (fun _ => 0) 0 0) H1 := hB
              have hD : va_D (aM h0 rw pt ou) (wM cI h0 rw pt ou 0 (gg r_38) (fun _ => 0) (fun _ => 0) 0 0) := dD hD0 rfl
              refine lv_goto (tgt := 404) hx hb d_M_layLong_351 (by decide) ?_
              exact W.vret hx hb hr (fun t ht hW => ⟨⟨(r_38), rfl, ⟨Option.some.inj hf, hm⟩, by rw [← ht] at hP; exact hP⟩, hS.F ht⟩) hS.2.2 d_M_layLong_404
          · replace hf := (if_neg c_19).symm.trans hf
            refine lv_aload_n hx hb d_M_layLong_264 rfl (lv_at hl 0 rfl) ?_
            refine lv_iload_n hx hb d_M_layLong_265 rfl (lv_at hl 1 rfl) ?_
            refine lv_bipush (v := 24) hx hb d_M_layLong_266 (by decide) ?_
            refine lv_bipush (v := 20) hx hb d_M_layLong_268 (by decide) ?_
            refine lv_sipush (v := 300) hx hb d_M_layLong_270 (by decide) ?_
            refine lv_iconst (v := 4) hx hb d_M_layLong_273 (by decide) ?_
            obtain ⟨r_40, g_41, hf⟩ := Option.bind_eq_some_iff.mp hf
            refine va_callv (va_runV (As := [.int (a0), .int (24), .int (20), .int (300), .int (4)]) (rest := []) ⟨hx, hb, hml, hown, hts⟩ (c_M_lay l (ad := ad) (sk := sk) (sv := sv) (tK := tK) dC dI cI h0 rw pt ou r_12 hm a0 24 20 300 4  r_40 g_41) (cwV 5 hts (aw_V aw_404 aw_406 aw_p18 aw_2 aw_407) rfl rfl rfl (by decide +kernel) ⟨Nat.le_of_ble_eq_true rfl, Nat.le_of_ble_eq_true rfl⟩) ⟨wBlind, va_recv hK hP (ci := 1) (q0 := 0) rfl rfl, fun U hU hW => ⟨rfl, by rw [hU]; exact hP, va_K.moved hW.alike hK, hD, hT.at hS hU hW (fun _ z => z)⟩⟩ rfl rfl hl.1 rfl (lv_room (Nat.le_of_ble_eq_true rfl)) d_M_layLong_274 ⟨Nat.le_refl _, Nat.le_refl _⟩) hS (fun _ _ h => h) (fun _ h => h) (fun u t H1 locs ht1 hvm hw hB hz1 hk1 hS => ?_)
            obtain ⟨hw, hm⟩ := hw
            rw [hw] at hB hm
            rw [ht1] at hB
            have hP : va_P (dC, dI) cls2 (wM cI h0 rw pt ou 0 (gg r_40) (fun _ => 0) (fun _ => 0) 0 0) H1 := hB
            have hD : va_D (aM h0 rw pt ou) (wM cI h0 rw pt ou 0 (gg r_40) (fun _ => 0) (fun _ => 0) 0 0) := dD hD0 rfl
            refine lv_aload_n hx hb d_M_layLong_277 rfl (lv_at hl 0 rfl) ?_
            refine lv_iload_n hx hb d_M_layLong_278 rfl (lv_at hl 1 rfl) ?_
            refine lv_bipush (v := 31) hx hb d_M_layLong_279 (by decide) ?_
            refine lv_bipush (v := 25) hx hb d_M_layLong_281 (by decide) ?_
            refine lv_sipush (v := 400) hx hb d_M_layLong_283 (by decide) ?_
            refine lv_bipush (v := 11) hx hb d_M_layLong_286 (by decide) ?_
            obtain ⟨r_42, g_43, hf⟩ := Option.bind_eq_some_iff.mp hf
            refine va_callv (va_runV (As := [.int (a0), .int (31), .int (25), .int (400), .int (11)]) (rest := []) ⟨hx, hb, hml, hown, hts⟩ (c_M_lay l (ad := ad) (sk := sk) (sv := sv) (tK := tK) dC dI cI h0 rw pt ou r_40 hm a0 31 25 400 11  r_42 g_43) (cwV 5 hts (aw_V aw_404 aw_406 aw_p18 aw_2 aw_407) rfl rfl rfl (by decide +kernel) ⟨Nat.le_of_ble_eq_true rfl, Nat.le_of_ble_eq_true rfl⟩) ⟨wBlind, va_recv hK hP (ci := 1) (q0 := 0) rfl rfl, fun U hU hW => ⟨rfl, by rw [hU]; exact hP, va_K.moved hW.alike hK, hD, hT.at hS hU hW (fun _ z => z)⟩⟩ rfl rfl hl.1 rfl (lv_room (Nat.le_of_ble_eq_true rfl)) d_M_layLong_288 ⟨Nat.le_refl _, Nat.le_refl _⟩) hS (fun _ _ h => h) (fun _ h => h) (fun u t H1 locs ht1 hvm hw hB hz1 hk1 hS => ?_)
            obtain ⟨hw, hm⟩ := hw
            rw [hw] at hB hm
            rw [ht1] at hB
            have hP : va_P (dC, dI) cls2 (wM cI h0 rw pt ou 0 (gg r_42) (fun _ => 0) (fun _ => 0) 0 0) H1 := hB
            have hD : va_D (aM h0 rw pt ou) (wM cI h0 rw pt ou 0 (gg r_42) (fun _ => 0) (fun _ => 0) 0 0) := dD hD0 rfl
            refine lv_aload_n hx hb d_M_layLong_291 rfl (lv_at hl 0 rfl) ?_
            refine lv_iload_n hx hb d_M_layLong_292 rfl (lv_at hl 1 rfl) ?_
            refine lv_bipush (v := 11) hx hb d_M_layLong_293 (by decide) ?_
            refine lv_bipush (v := 7) hx hb d_M_layLong_295 (by decide) ?_
            refine lv_sipush (v := 400) hx hb d_M_layLong_297 (by decide) ?_
            refine lv_iconst (v := 4) hx hb d_M_layLong_300 (by decide) ?_
            obtain ⟨r_44, g_45, hf⟩ := Option.bind_eq_some_iff.mp hf
            refine va_callv (va_runV (As := [.int (a0), .int (11), .int (7), .int (400), .int (4)]) (rest := []) ⟨hx, hb, hml, hown, hts⟩ (c_M_lay l (ad := ad) (sk := sk) (sv := sv) (tK := tK) dC dI cI h0 rw pt ou r_42 hm a0 11 7 400 4  r_44 g_45) (cwV 5 hts (aw_V aw_404 aw_406 aw_p18 aw_2 aw_407) rfl rfl rfl (by decide +kernel) ⟨Nat.le_of_ble_eq_true rfl, Nat.le_of_ble_eq_true rfl⟩) ⟨wBlind, va_recv hK hP (ci := 1) (q0 := 0) rfl rfl, fun U hU hW => ⟨rfl, by rw [hU]; exact hP, va_K.moved hW.alike hK, hD, hT.at hS hU hW (fun _ z => z)⟩⟩ rfl rfl hl.1 rfl (lv_room (Nat.le_of_ble_eq_true rfl)) d_M_layLong_301 ⟨Nat.le_refl _, Nat.le_refl _⟩) hS (fun _ _ h => h) (fun _ h => h) (fun u t H1 locs ht1 hvm hw hB hz1 hk1 hS => ?_)
            obtain ⟨hw, hm⟩ := hw
            rw [hw] at hB hm
            rw [ht1] at hB
            have hP : va_P (dC, dI) cls2 (wM cI h0 rw pt ou 0 (gg r_44) (fun _ => 0) (fun _ => 0) 0 0) H1 := hB
            have hD : va_D (aM h0 rw pt ou) (wM cI h0 rw pt ou 0 (gg r_44) (fun _ => 0) (fun _ => 0) 0 0) := dD hD0 rfl
            refine lv_goto (tgt := 404) hx hb d_M_layLong_304 (by decide) ?_
            exact W.vret hx hb hr (fun t ht hW => ⟨⟨(r_44), rfl, ⟨Option.some.inj hf, hm⟩, by rw [← ht] at hP; exact hP⟩, hS.F ht⟩) hS.2.2 d_M_layLong_404
        · replace hf := (if_neg c_16).symm.trans hf
          refine lv_aload_n hx hb d_M_layLong_186 rfl (lv_at hl 0 rfl) ?_
          refine lv_iload_n hx hb d_M_layLong_187 rfl (lv_at hl 1 rfl) ?_
          refine lv_bipush (v := 24) hx hb d_M_layLong_188 (by decide) ?_
          refine lv_bipush (v := 20) hx hb d_M_layLong_190 (by decide) ?_
          refine lv_sipush (v := 300) hx hb d_M_layLong_192 (by decide) ?_
          refine lv_iconst (v := 4) hx hb d_M_layLong_195 (by decide) ?_
          obtain ⟨r_46, g_47, hf⟩ := Option.bind_eq_some_iff.mp hf
          refine va_callv (va_runV (As := [.int (a0), .int (24), .int (20), .int (300), .int (4)]) (rest := []) ⟨hx, hb, hml, hown, hts⟩ (c_M_lay l (ad := ad) (sk := sk) (sv := sv) (tK := tK) dC dI cI h0 rw pt ou r_12 hm a0 24 20 300 4  r_46 g_47) (cwV 5 hts (aw_V aw_404 aw_406 aw_p18 aw_2 aw_407) rfl rfl rfl (by decide +kernel) ⟨Nat.le_of_ble_eq_true rfl, Nat.le_of_ble_eq_true rfl⟩) ⟨wBlind, va_recv hK hP (ci := 1) (q0 := 0) rfl rfl, fun U hU hW => ⟨rfl, by rw [hU]; exact hP, va_K.moved hW.alike hK, hD, hT.at hS hU hW (fun _ z => z)⟩⟩ rfl rfl hl.1 rfl (lv_room (Nat.le_of_ble_eq_true rfl)) d_M_layLong_196 ⟨Nat.le_refl _, Nat.le_refl _⟩) hS (fun _ _ h => h) (fun _ h => h) (fun u t H1 locs ht1 hvm hw hB hz1 hk1 hS => ?_)
          obtain ⟨hw, hm⟩ := hw
          rw [hw] at hB hm
          rw [ht1] at hB
          have hP : va_P (dC, dI) cls2 (wM cI h0 rw pt ou 0 (gg r_46) (fun _ => 0) (fun _ => 0) 0 0) H1 := hB
          have hD : va_D (aM h0 rw pt ou) (wM cI h0 rw pt ou 0 (gg r_46) (fun _ => 0) (fun _ => 0) 0 0) := dD hD0 rfl
          refine lv_aload_n hx hb d_M_layLong_199 rfl (lv_at hl 0 rfl) ?_
          refine lv_iload_n hx hb d_M_layLong_200 rfl (lv_at hl 1 rfl) ?_
          refine lv_bipush (v := 31) hx hb d_M_layLong_201 (by decide) ?_
          refine lv_bipush (v := 31) hx hb d_M_layLong_203 (by decide) ?_
          refine lv_sipush (v := 400) hx hb d_M_layLong_205 (by decide) ?_
          refine lv_bipush (v := 12) hx hb d_M_layLong_208 (by decide) ?_
          obtain ⟨r_48, g_49, hf⟩ := Option.bind_eq_some_iff.mp hf
          refine va_callv (va_runV (As := [.int (a0), .int (31), .int (31), .int (400), .int (12)]) (rest := []) ⟨hx, hb, hml, hown, hts⟩ (c_M_lay l (ad := ad) (sk := sk) (sv := sv) (tK := tK) dC dI cI h0 rw pt ou r_46 hm a0 31 31 400 12  r_48 g_49) (cwV 5 hts (aw_V aw_404 aw_406 aw_p18 aw_2 aw_407) rfl rfl rfl (by decide +kernel) ⟨Nat.le_of_ble_eq_true rfl, Nat.le_of_ble_eq_true rfl⟩) ⟨wBlind, va_recv hK hP (ci := 1) (q0 := 0) rfl rfl, fun U hU hW => ⟨rfl, by rw [hU]; exact hP, va_K.moved hW.alike hK, hD, hT.at hS hU hW (fun _ z => z)⟩⟩ rfl rfl hl.1 rfl (lv_room (Nat.le_of_ble_eq_true rfl)) d_M_layLong_210 ⟨Nat.le_refl _, Nat.le_refl _⟩) hS (fun _ _ h => h) (fun _ h => h) (fun u t H1 locs ht1 hvm hw hB hz1 hk1 hS => ?_)
          obtain ⟨hw, hm⟩ := hw
          rw [hw] at hB hm
          rw [ht1] at hB
          have hP : va_P (dC, dI) cls2 (wM cI h0 rw pt ou 0 (gg r_48) (fun _ => 0) (fun _ => 0) 0 0) H1 := hB
          have hD : va_D (aM h0 rw pt ou) (wM cI h0 rw pt ou 0 (gg r_48) (fun _ => 0) (fun _ => 0) 0 0) := dD hD0 rfl
          refine lv_aload_n hx hb d_M_layLong_213 rfl (lv_at hl 0 rfl) ?_
          refine lv_iload_n hx hb d_M_layLong_214 rfl (lv_at hl 1 rfl) ?_
          refine lv_bipush (v := 30) hx hb d_M_layLong_215 (by decide) ?_
          refine lv_bipush (v := 25) hx hb d_M_layLong_217 (by decide) ?_
          refine lv_sipush (v := 400) hx hb d_M_layLong_219 (by decide) ?_
          refine lv_bipush (v := 10) hx hb d_M_layLong_222 (by decide) ?_
          obtain ⟨r_50, g_51, hf⟩ := Option.bind_eq_some_iff.mp hf
          refine va_callv (va_runV (As := [.int (a0), .int (30), .int (25), .int (400), .int (10)]) (rest := []) ⟨hx, hb, hml, hown, hts⟩ (c_M_lay l (ad := ad) (sk := sk) (sv := sv) (tK := tK) dC dI cI h0 rw pt ou r_48 hm a0 30 25 400 10  r_50 g_51) (cwV 5 hts (aw_V aw_404 aw_406 aw_p18 aw_2 aw_407) rfl rfl rfl (by decide +kernel) ⟨Nat.le_of_ble_eq_true rfl, Nat.le_of_ble_eq_true rfl⟩) ⟨wBlind, va_recv hK hP (ci := 1) (q0 := 0) rfl rfl, fun U hU hW => ⟨rfl, by rw [hU]; exact hP, va_K.moved hW.alike hK, hD, hT.at hS hU hW (fun _ z => z)⟩⟩ rfl rfl hl.1 rfl (lv_room (Nat.le_of_ble_eq_true rfl)) d_M_layLong_224 ⟨Nat.le_refl _, Nat.le_refl _⟩) hS (fun _ _ h => h) (fun _ h => h) (fun u t H1 locs ht1 hvm hw hB hz1 hk1 hS => ?_)
          obtain ⟨hw, hm⟩ := hw
          rw [hw] at hB hm
          rw [ht1] at hB
          have hP : va_P (dC, dI) cls2 (wM cI h0 rw pt ou 0 (gg r_50) (fun _ => 0) (fun _ => 0) 0 0) H1 := hB
          have hD : va_D (aM h0 rw pt ou) (wM cI h0 rw pt ou 0 (gg r_50) (fun _ => 0) (fun _ => 0) 0 0) := dD hD0 rfl
          refine lv_aload_n hx hb d_M_layLong_227 rfl (lv_at hl 0 rfl) ?_
          refine lv_iload_n hx hb d_M_layLong_228 rfl (lv_at hl 1 rfl) ?_
          refine lv_bipush (v := 11) hx hb d_M_layLong_229 (by decide) ?_
          refine lv_bipush (v := 8) hx hb d_M_layLong_231 (by decide) ?_
          refine lv_sipush (v := 400) hx hb d_M_layLong_233 (by decide) ?_
          refine lv_iconst (v := 4) hx hb d_M_layLong_236 (by decide) ?_
          obtain ⟨r_52, g_53, hf⟩ := Option.bind_eq_some_iff.mp hf
          refine va_callv (va_runV (As := [.int (a0), .int (11), .int (8), .int (400), .int (4)]) (rest := []) ⟨hx, hb, hml, hown, hts⟩ (c_M_lay l (ad := ad) (sk := sk) (sv := sv) (tK := tK) dC dI cI h0 rw pt ou r_50 hm a0 11 8 400 4  r_52 g_53) (cwV 5 hts (aw_V aw_404 aw_406 aw_p18 aw_2 aw_407) rfl rfl rfl (by decide +kernel) ⟨Nat.le_of_ble_eq_true rfl, Nat.le_of_ble_eq_true rfl⟩) ⟨wBlind, va_recv hK hP (ci := 1) (q0 := 0) rfl rfl, fun U hU hW => ⟨rfl, by rw [hU]; exact hP, va_K.moved hW.alike hK, hD, hT.at hS hU hW (fun _ z => z)⟩⟩ rfl rfl hl.1 rfl (lv_room (Nat.le_of_ble_eq_true rfl)) d_M_layLong_237 ⟨Nat.le_refl _, Nat.le_refl _⟩) hS (fun _ _ h => h) (fun _ h => h) (fun u t H1 locs ht1 hvm hw hB hz1 hk1 hS => ?_)
          obtain ⟨hw, hm⟩ := hw
          rw [hw] at hB hm
          rw [ht1] at hB
          have hP : va_P (dC, dI) cls2 (wM cI h0 rw pt ou 0 (gg r_52) (fun _ => 0) (fun _ => 0) 0 0) H1 := hB
          have hD : va_D (aM h0 rw pt ou) (wM cI h0 rw pt ou 0 (gg r_52) (fun _ => 0) (fun _ => 0) 0 0) := dD hD0 rfl
          refine lv_aload_n hx hb d_M_layLong_240 rfl (lv_at hl 0 rfl) ?_
          refine lv_iload_n hx hb d_M_layLong_241 rfl (lv_at hl 1 rfl) ?_
          refine lv_bipush (v := 7) hx hb d_M_layLong_242 (by decide) ?_
          refine lv_bipush (v := 7) hx hb d_M_layLong_244 (by decide) ?_
          refine lv_sipush (v := 400) hx hb d_M_layLong_246 (by decide) ?_
          refine lv_bipush (v := 11) hx hb d_M_layLong_249 (by decide) ?_
          obtain ⟨r_54, g_55, hf⟩ := Option.bind_eq_some_iff.mp hf
          refine va_callv (va_runV (As := [.int (a0), .int (7), .int (7), .int (400), .int (11)]) (rest := []) ⟨hx, hb, hml, hown, hts⟩ (c_M_lay l (ad := ad) (sk := sk) (sv := sv) (tK := tK) dC dI cI h0 rw pt ou r_52 hm a0 7 7 400 11  r_54 g_55) (cwV 5 hts (aw_V aw_404 aw_406 aw_p18 aw_2 aw_407) rfl rfl rfl (by decide +kernel) ⟨Nat.le_of_ble_eq_true rfl, Nat.le_of_ble_eq_true rfl⟩) ⟨wBlind, va_recv hK hP (ci := 1) (q0 := 0) rfl rfl, fun U hU hW => ⟨rfl, by rw [hU]; exact hP, va_K.moved hW.alike hK, hD, hT.at hS hU hW (fun _ z => z)⟩⟩ rfl rfl hl.1 rfl (lv_room (Nat.le_of_ble_eq_true rfl)) d_M_layLong_251 ⟨Nat.le_refl _, Nat.le_refl _⟩) hS (fun _ _ h => h) (fun _ h => h) (fun u t H1 locs ht1 hvm hw hB hz1 hk1 hS => ?_)
          obtain ⟨hw, hm⟩ := hw
          rw [hw] at hB hm
          rw [ht1] at hB
          have hP : va_P (dC, dI) cls2 (wM cI h0 rw pt ou 0 (gg r_54) (fun _ => 0) (fun _ => 0) 0 0) H1 := hB
          have hD : va_D (aM h0 rw pt ou) (wM cI h0 rw pt ou 0 (gg r_54) (fun _ => 0) (fun _ => 0) 0 0) := dD hD0 rfl
          refine lv_goto (tgt := 404) hx hb d_M_layLong_254 (by decide) ?_
          exact W.vret hx hb hr (fun t ht hW => ⟨⟨(r_54), rfl, ⟨Option.some.inj hf, hm⟩, by rw [← ht] at hP; exact hP⟩, hS.F ht⟩) hS.2.2 d_M_layLong_404
      · replace hf := (if_neg c_7).symm.trans hf
        refine lv_aload_n hx hb d_M_layLong_63 rfl (lv_at hl 0 rfl) ?_
        refine lv_iload_n hx hb d_M_layLong_64 rfl (lv_at hl 1 rfl) ?_
        refine lv_bipush (v := 11) hx hb d_M_layLong_65 (by decide) ?_
        refine lv_bipush (v := 7) hx hb d_M_layLong_67 (by decide) ?_
        refine lv_bipush (v := 100) hx hb d_M_layLong_69 (by decide) ?_
        refine lv_iconst (v := 4) hx hb d_M_layLong_71 (by decide) ?_
        obtain ⟨r_56, g_57, hf⟩ := Option.bind_eq_some_iff.mp hf
        refine va_callv (va_runV (As := [.int (a0), .int (11), .int (7), .int (100), .int (4)]) (rest := []) ⟨hx, hb, hml, hown, hts⟩ (c_M_lay l (ad := ad) (sk := sk) (sv := sv) (tK := tK) dC dI cI h0 rw pt ou r_5 hm a0 11 7 100 4  r_56 g_57) (cwV 5 hts (aw_V aw_404 aw_406 aw_p18 aw_2 aw_407) rfl rfl rfl (by decide +kernel) ⟨Nat.le_of_ble_eq_true rfl, Nat.le_of_ble_eq_true rfl⟩) ⟨wBlind, va_recv hK hP (ci := 1) (q0 := 0) rfl rfl, fun U hU hW => ⟨rfl, by rw [hU]; exact hP, va_K.moved hW.alike hK, hD, hT.at hS hU hW (fun _ z => z)⟩⟩ rfl rfl hl.1 rfl (lv_room (Nat.le_of_ble_eq_true rfl)) d_M_layLong_72 ⟨Nat.le_refl _, Nat.le_refl _⟩) hS (fun _ _ h => h) (fun _ h => h) (fun u t H1 locs ht1 hvm hw hB hz1 hk1 hS => ?_)
        obtain ⟨hw, hm⟩ := hw
        rw [hw] at hB hm
        rw [ht1] at hB
        have hP : va_P (dC, dI) cls2 (wM cI h0 rw pt ou 0 (gg r_56) (fun _ => 0) (fun _ => 0) 0 0) H1 := hB
        have hD : va_D (aM h0 rw pt ou) (wM cI h0 rw pt ou 0 (gg r_56) (fun _ => 0) (fun _ => 0) 0 0) := dD hD0 rfl
        refine lv_iload_n hx hb d_M_layLong_75 rfl (lv_at hl 1 rfl) ?_
        refine lv_iconst (v := 2) hx hb d_M_layLong_76 (by decide) ?_
        refine lv_icmp_ge (tgt := 97) hx hb d_M_layLong_77 (by decide) (fun c_58 => ?_) (fun c_58 => ?_)
        · replace hf := (if_pos c_58).symm.trans hf
          refine lv_aload_n hx hb d_M_layLong_97 rfl (lv_at hl 0 rfl) ?_
          refine lv_iload_n hx hb d_M_layLong_98 rfl (lv_at hl 1 rfl) ?_
          refine lv_bipush (v := 31) hx hb d_M_layLong_99 (by decide) ?_
          refine lv_bipush (v := 31) hx hb d_M_layLong_101 (by decide) ?_
          refine lv_sipush (v := 400) hx hb d_M_layLong_103 (by decide) ?_
          refine lv_bipush (v := 20) hx hb d_M_layLong_106 (by decide) ?_
          obtain ⟨r_59, g_60, hf⟩ := Option.bind_eq_some_iff.mp hf
          refine va_callv (va_runV (As := [.int (a0), .int (31), .int (31), .int (400), .int (20)]) (rest := []) ⟨hx, hb, hml, hown, hts⟩ (c_M_lay l (ad := ad) (sk := sk) (sv := sv) (tK := tK) dC dI cI h0 rw pt ou r_56 hm a0 31 31 400 20  r_59 g_60) (cwV 5 hts (aw_V aw_404 aw_406 aw_p18 aw_2 aw_407) rfl rfl rfl (by decide +kernel) ⟨Nat.le_of_ble_eq_true rfl, Nat.le_of_ble_eq_true rfl⟩) ⟨wBlind, va_recv hK hP (ci := 1) (q0 := 0) rfl rfl, fun U hU hW => ⟨rfl, by rw [hU]; exact hP, va_K.moved hW.alike hK, hD, hT.at hS hU hW (fun _ z => z)⟩⟩ rfl rfl hl.1 rfl (lv_room (Nat.le_of_ble_eq_true rfl)) d_M_layLong_108 ⟨Nat.le_refl _, Nat.le_refl _⟩) hS (fun _ _ h => h) (fun _ h => h) (fun u t H1 locs ht1 hvm hw hB hz1 hk1 hS => ?_)
          obtain ⟨hw, hm⟩ := hw
          rw [hw] at hB hm
          rw [ht1] at hB
          have hP : va_P (dC, dI) cls2 (wM cI h0 rw pt ou 0 (gg r_59) (fun _ => 0) (fun _ => 0) 0 0) H1 := hB
          have hD : va_D (aM h0 rw pt ou) (wM cI h0 rw pt ou 0 (gg r_59) (fun _ => 0) (fun _ => 0) 0 0) := dD hD0 rfl
          refine lv_aload_n hx hb d_M_layLong_111 rfl (lv_at hl 0 rfl) ?_
          refine lv_iload_n hx hb d_M_layLong_112 rfl (lv_at hl 1 rfl) ?_
          refine lv_bipush (v := 30) hx hb d_M_layLong_113 (by decide) ?_
          refine lv_bipush (v := 21) hx hb d_M_layLong_115 (by decide) ?_
          refine lv_sipush (v := 400) hx hb d_M_layLong_117 (by decide) ?_
          refine lv_bipush (v := 10) hx hb d_M_layLong_120 (by decide) ?_
          obtain ⟨r_61, g_62, hf⟩ := Option.bind_eq_some_iff.mp hf
          refine va_callv (va_runV (As := [.int (a0), .int (30), .int (21), .int (400), .int (10)]) (rest := []) ⟨hx, hb, hml, hown, hts⟩ (c_M_lay l (ad := ad) (sk := sk) (sv := sv) (tK := tK) dC dI cI h0 rw pt ou r_59 hm a0 30 21 400 10  r_61 g_62) (cwV 5 hts (aw_V aw_404 aw_406 aw_p18 aw_2 aw_407) rfl rfl rfl (by decide +kernel) ⟨Nat.le_of_ble_eq_true rfl, Nat.le_of_ble_eq_true rfl⟩) ⟨wBlind, va_recv hK hP (ci := 1) (q0 := 0) rfl rfl, fun U hU hW => ⟨rfl, by rw [hU]; exact hP, va_K.moved hW.alike hK, hD, hT.at hS hU hW (fun _ z => z)⟩⟩ rfl rfl hl.1 rfl (lv_room (Nat.le_of_ble_eq_true rfl)) d_M_layLong_122 ⟨Nat.le_refl _, Nat.le_refl _⟩) hS (fun _ _ h => h) (fun _ h => h) (fun u t H1 locs ht1 hvm hw hB hz1 hk1 hS => ?_)
          obtain ⟨hw, hm⟩ := hw
          rw [hw] at hB hm
          rw [ht1] at hB
          have hP : va_P (dC, dI) cls2 (wM cI h0 rw pt ou 0 (gg r_61) (fun _ => 0) (fun _ => 0) 0 0) H1 := hB
          have hD : va_D (aM h0 rw pt ou) (wM cI h0 rw pt ou 0 (gg r_61) (fun _ => 0) (fun _ => 0) 0 0) := dD hD0 rfl
          refine lv_aload_n hx hb d_M_layLong_125 rfl (lv_at hl 0 rfl) ?_
          refine lv_iload_n hx hb d_M_layLong_126 rfl (lv_at hl 1 rfl) ?_
          refine lv_bipush (v := 20) hx hb d_M_layLong_127 (by decide) ?_
          refine lv_bipush (v := 20) hx hb d_M_layLong_129 (by decide) ?_
          refine lv_sipush (v := 400) hx hb d_M_layLong_131 (by decide) ?_
          refine lv_bipush (v := 11) hx hb d_M_layLong_134 (by decide) ?_
          obtain ⟨r_63, g_64, hf⟩ := Option.bind_eq_some_iff.mp hf
          refine va_callv (va_runV (As := [.int (a0), .int (20), .int (20), .int (400), .int (11)]) (rest := []) ⟨hx, hb, hml, hown, hts⟩ (c_M_lay l (ad := ad) (sk := sk) (sv := sv) (tK := tK) dC dI cI h0 rw pt ou r_61 hm a0 20 20 400 11  r_63 g_64) (cwV 5 hts (aw_V aw_404 aw_406 aw_p18 aw_2 aw_407) rfl rfl rfl (by decide +kernel) ⟨Nat.le_of_ble_eq_true rfl, Nat.le_of_ble_eq_true rfl⟩) ⟨wBlind, va_recv hK hP (ci := 1) (q0 := 0) rfl rfl, fun U hU hW => ⟨rfl, by rw [hU]; exact hP, va_K.moved hW.alike hK, hD, hT.at hS hU hW (fun _ z => z)⟩⟩ rfl rfl hl.1 rfl (lv_room (Nat.le_of_ble_eq_true rfl)) d_M_layLong_136 ⟨Nat.le_refl _, Nat.le_refl _⟩) hS (fun _ _ h => h) (fun _ h => h) (fun u t H1 locs ht1 hvm hw hB hz1 hk1 hS => ?_)
          obtain ⟨hw, hm⟩ := hw
          rw [hw] at hB hm
          rw [ht1] at hB
          have hP : va_P (dC, dI) cls2 (wM cI h0 rw pt ou 0 (gg r_63) (fun _ => 0) (fun _ => 0) 0 0) H1 := hB
          have hD : va_D (aM h0 rw pt ou) (wM cI h0 rw pt ou 0 (gg r_63) (fun _ => 0) (fun _ => 0) 0 0) := dD hD0 rfl
          refine lv_aload_n hx hb d_M_layLong_139 rfl (lv_at hl 0 rfl) ?_
          refine lv_iload_n hx hb d_M_layLong_140 rfl (lv_at hl 1 rfl) ?_
          refine lv_bipush (v := 19) hx hb d_M_layLong_141 (by decide) ?_
          refine lv_bipush (v := 12) hx hb d_M_layLong_143 (by decide) ?_
          refine lv_sipush (v := 400) hx hb d_M_layLong_145 (by decide) ?_
          refine lv_bipush (v := 19) hx hb d_M_layLong_148 (by decide) ?_
          obtain ⟨r_65, g_66, hf⟩ := Option.bind_eq_some_iff.mp hf
          refine va_callv (va_runV (As := [.int (a0), .int (19), .int (12), .int (400), .int (19)]) (rest := []) ⟨hx, hb, hml, hown, hts⟩ (c_M_lay l (ad := ad) (sk := sk) (sv := sv) (tK := tK) dC dI cI h0 rw pt ou r_63 hm a0 19 12 400 19  r_65 g_66) (cwV 5 hts (aw_V aw_404 aw_406 aw_p18 aw_2 aw_407) rfl rfl rfl (by decide +kernel) ⟨Nat.le_of_ble_eq_true rfl, Nat.le_of_ble_eq_true rfl⟩) ⟨wBlind, va_recv hK hP (ci := 1) (q0 := 0) rfl rfl, fun U hU hW => ⟨rfl, by rw [hU]; exact hP, va_K.moved hW.alike hK, hD, hT.at hS hU hW (fun _ z => z)⟩⟩ rfl rfl hl.1 rfl (lv_room (Nat.le_of_ble_eq_true rfl)) d_M_layLong_150 ⟨Nat.le_refl _, Nat.le_refl _⟩) hS (fun _ _ h => h) (fun _ h => h) (fun u t H1 locs ht1 hvm hw hB hz1 hk1 hS => ?_)
          obtain ⟨hw, hm⟩ := hw
          rw [hw] at hB hm
          rw [ht1] at hB
          have hP : va_P (dC, dI) cls2 (wM cI h0 rw pt ou 0 (gg r_65) (fun _ => 0) (fun _ => 0) 0 0) H1 := hB
          have hD : va_D (aM h0 rw pt ou) (wM cI h0 rw pt ou 0 (gg r_65) (fun _ => 0) (fun _ => 0) 0 0) := dD hD0 rfl
          exact W.vret hx hb hr (fun t ht hW => ⟨⟨(r_65), rfl, ⟨Option.some.inj hf, hm⟩, by rw [← ht] at hP; exact hP⟩, hS.F ht⟩) hS.2.2 d_M_layLong_153
        · replace hf := (if_neg c_58).symm.trans hf
          refine lv_aload_n hx hb d_M_layLong_80 rfl (lv_at hl 0 rfl) ?_
          refine lv_iload_n hx hb d_M_layLong_81 rfl (lv_at hl 1 rfl) ?_
          refine lv_bipush (v := 31) hx hb d_M_layLong_82 (by decide) ?_
          refine lv_bipush (v := 12) hx hb d_M_layLong_84 (by decide) ?_
          refine lv_sipush (v := 400) hx hb d_M_layLong_86 (by decide) ?_
          refine lv_bipush (v := 19) hx hb d_M_layLong_89 (by decide) ?_
          obtain ⟨r_67, g_68, hf⟩ := Option.bind_eq_some_iff.mp hf
          refine va_callv (va_runV (As := [.int (a0), .int (31), .int (12), .int (400), .int (19)]) (rest := []) ⟨hx, hb, hml, hown, hts⟩ (c_M_lay l (ad := ad) (sk := sk) (sv := sv) (tK := tK) dC dI cI h0 rw pt ou r_56 hm a0 31 12 400 19  r_67 g_68) (cwV 5 hts (aw_V aw_404 aw_406 aw_p18 aw_2 aw_407) rfl rfl rfl (by decide +kernel) ⟨Nat.le_of_ble_eq_true rfl, Nat.le_of_ble_eq_true rfl⟩) ⟨wBlind, va_recv hK hP (ci := 1) (q0 := 0) rfl rfl, fun U hU hW => ⟨rfl, by rw [hU]; exact hP, va_K.moved hW.alike hK, hD, hT.at hS hU hW (fun _ z => z)⟩⟩ rfl rfl hl.1 rfl (lv_room (Nat.le_of_ble_eq_true rfl)) d_M_layLong_91 ⟨Nat.le_refl _, Nat.le_refl _⟩) hS (fun _ _ h => h) (fun _ h => h) (fun u t H1 locs ht1 hvm hw hB hz1 hk1 hS => ?_)
          obtain ⟨hw, hm⟩ := hw
          rw [hw] at hB hm
          rw [ht1] at hB
          have hP : va_P (dC, dI) cls2 (wM cI h0 rw pt ou 0 (gg r_67) (fun _ => 0) (fun _ => 0) 0 0) H1 := hB
          have hD : va_D (aM h0 rw pt ou) (wM cI h0 rw pt ou 0 (gg r_67) (fun _ => 0) (fun _ => 0) 0 0) := dD hD0 rfl
          refine lv_goto (tgt := 153) hx hb d_M_layLong_94 (by decide) ?_
          exact W.vret hx hb hr (fun t ht hW => ⟨⟨(r_67), rfl, ⟨Option.some.inj hf, hm⟩, by rw [← ht] at hP; exact hP⟩, hS.F ht⟩) hS.2.2 d_M_layLong_153
    · replace hf := (if_neg c_2).symm.trans hf
      refine lv_aload_n hx hb d_M_layLong_13 rfl (lv_at hl 0 rfl) ?_
      refine lv_iload_n hx hb d_M_layLong_14 rfl (lv_at hl 1 rfl) ?_
      refine lv_iconst (v := 0) hx hb d_M_layLong_15 (by decide) ?_
      refine lv_bipush (v := 32) hx hb d_M_layLong_16 (by decide) ?_
      refine lv_iload_n hx hb d_M_layLong_18 rfl (lv_at hl 1 rfl) ?_
      refine lv_bipush (v := 45) hx hb d_M_layLong_19 (by decide) ?_
      refine lv_icmp_ne (tgt := 29) hx hb d_M_layLong_21 (by decide) (fun c_69 => ?_) (fun c_69 => ?_)
      · replace hf := (if_neg c_69).symm.trans hf
        refine lv_iload_n hx hb d_M_layLong_29 rfl (lv_at hl 1 rfl) ?_
        refine lv_bipush (v := 46) hx hb d_M_layLong_30 (by decide) ?_
        refine lv_icmp_ne (tgt := 40) hx hb d_M_layLong_32 (by decide) (fun c_70 => ?_) (fun c_70 => ?_)
        · replace hf := (if_neg c_70).symm.trans hf
          refine lv_ldc (v := 1048691) hx hb hown (ht aw_396) d_M_layLong_40 ?_
          obtain ⟨r_71, g_72, hf⟩ := Option.bind_eq_some_iff.mp hf
          refine va_callv (va_runV (As := [.int (a0), .int (0), .int (32), .int (1048691)]) (rest := []) ⟨hx, hb, hml, hown, hts⟩ (c_M_fix l (ad := ad) (sk := sk) (sv := sv) (tK := tK) dC dI cI h0 rw pt ou w_mm hm a0 0 32 1048691  r_71 g_72) (cwV 4 hts (aw_V aw_397 aw_399 aw_p17 aw_2 aw_400) rfl rfl rfl (by decide +kernel) ⟨Nat.le_of_ble_eq_true rfl, Nat.le_of_ble_eq_true rfl⟩) ⟨wBlind, va_recv hK hP (ci := 1) (q0 := 0) rfl rfl, fun U hU hW => ⟨rfl, by rw [hU]; exact hP, va_K.moved hW.alike hK, hD, hT.at hS hU hW (fun _ z => z)⟩⟩ rfl rfl hl.1 rfl (lv_room (Nat.le_of_ble_eq_true rfl)) d_M_layLong_42 ⟨Nat.le_refl _, Nat.le_refl _⟩) hS (fun _ _ h => h) (fun _ h => h) (fun u t H1 locs ht1 hvm hw hB hz1 hk1 hS => ?_)
          obtain ⟨hw, hm⟩ := hw
          rw [hw] at hB hm
          rw [ht1] at hB
          have hP : va_P (dC, dI) cls2 (wM cI h0 rw pt ou 0 (gg r_71) (fun _ => 0) (fun _ => 0) 0 0) H1 := hB
          have hD : va_D (aM h0 rw pt ou) (wM cI h0 rw pt ou 0 (gg r_71) (fun _ => 0) (fun _ => 0) 0 0) := dD hD0 rfl
          exact W.vret hx hb hr (fun t ht hW => ⟨⟨(r_71), rfl, ⟨Option.some.inj hf, hm⟩, by rw [← ht] at hP; exact hP⟩, hS.F ht⟩) hS.2.2 d_M_layLong_45
        · replace hf := (if_pos c_70).symm.trans hf
          refine lv_bipush (v := 115) hx hb d_M_layLong_35 (by decide) ?_
          refine lv_goto (tgt := 42) hx hb d_M_layLong_37 (by decide) ?_
          obtain ⟨r_73, g_74, hf⟩ := Option.bind_eq_some_iff.mp hf
          refine va_callv (va_runV (As := [.int (a0), .int (0), .int (32), .int (115)]) (rest := []) ⟨hx, hb, hml, hown, hts⟩ (c_M_fix l (ad := ad) (sk := sk) (sv := sv) (tK := tK) dC dI cI h0 rw pt ou w_mm hm a0 0 32 115  r_73 g_74) (cwV 4 hts (aw_V aw_397 aw_399 aw_p17 aw_2 aw_400) rfl rfl rfl (by decide +kernel) ⟨Nat.le_of_ble_eq_true rfl, Nat.le_of_ble_eq_true rfl⟩) ⟨wBlind, va_recv hK hP (ci := 1) (q0 := 0) rfl rfl, fun U hU hW => ⟨rfl, by rw [hU]; exact hP, va_K.moved hW.alike hK, hD, hT.at hS hU hW (fun _ z => z)⟩⟩ rfl rfl hl.1 rfl (lv_room (Nat.le_of_ble_eq_true rfl)) d_M_layLong_42 ⟨Nat.le_refl _, Nat.le_refl _⟩) hS (fun _ _ h => h) (fun _ h => h) (fun u t H1 locs ht1 hvm hw hB hz1 hk1 hS => ?_)
          obtain ⟨hw, hm⟩ := hw
          rw [hw] at hB hm
          rw [ht1] at hB
          have hP : va_P (dC, dI) cls2 (wM cI h0 rw pt ou 0 (gg r_73) (fun _ => 0) (fun _ => 0) 0 0) H1 := hB
          have hD : va_D (aM h0 rw pt ou) (wM cI h0 rw pt ou 0 (gg r_73) (fun _ => 0) (fun _ => 0) 0 0) := dD hD0 rfl
          exact W.vret hx hb hr (fun t ht hW => ⟨⟨(r_73), rfl, ⟨Option.some.inj hf, hm⟩, by rw [← ht] at hP; exact hP⟩, hS.F ht⟩) hS.2.2 d_M_layLong_45
      · replace hf := (if_pos c_69).symm.trans hf
        refine lv_ldc (v := 267386895) hx hb hown (ht aw_395) d_M_layLong_24 ?_
        refine lv_goto (tgt := 42) hx hb d_M_layLong_26 (by decide) ?_
        obtain ⟨r_75, g_76, hf⟩ := Option.bind_eq_some_iff.mp hf
        refine va_callv (va_runV (As := [.int (a0), .int (0), .int (32), .int (267386895)]) (rest := []) ⟨hx, hb, hml, hown, hts⟩ (c_M_fix l (ad := ad) (sk := sk) (sv := sv) (tK := tK) dC dI cI h0 rw pt ou w_mm hm a0 0 32 267386895  r_75 g_76) (cwV 4 hts (aw_V aw_397 aw_399 aw_p17 aw_2 aw_400) rfl rfl rfl (by decide +kernel) ⟨Nat.le_of_ble_eq_true rfl, Nat.le_of_ble_eq_true rfl⟩) ⟨wBlind, va_recv hK hP (ci := 1) (q0 := 0) rfl rfl, fun U hU hW => ⟨rfl, by rw [hU]; exact hP, va_K.moved hW.alike hK, hD, hT.at hS hU hW (fun _ z => z)⟩⟩ rfl rfl hl.1 rfl (lv_room (Nat.le_of_ble_eq_true rfl)) d_M_layLong_42 ⟨Nat.le_refl _, Nat.le_refl _⟩) hS (fun _ _ h => h) (fun _ h => h) (fun u t H1 locs ht1 hvm hw hB hz1 hk1 hS => ?_)
        obtain ⟨hw, hm⟩ := hw
        rw [hw] at hB hm
        rw [ht1] at hB
        have hP : va_P (dC, dI) cls2 (wM cI h0 rw pt ou 0 (gg r_75) (fun _ => 0) (fun _ => 0) 0 0) H1 := hB
        have hD : va_D (aM h0 rw pt ou) (wM cI h0 rw pt ou 0 (gg r_75) (fun _ => 0) (fun _ => 0) 0 0) := dD hD0 rfl
        exact W.vret hx hb hr (fun t ht hW => ⟨⟨(r_75), rfl, ⟨Option.some.inj hf, hm⟩, by rw [← ht] at hP; exact hP⟩, hS.F ht⟩) hS.2.2 d_M_layLong_45
  · replace hf := (if_neg c_1).symm.trans hf
    exact W.vret hx hb hr (fun t ht hW => ⟨⟨(w_mm), rfl, ⟨Option.some.inj hf, hm⟩, by rw [← ht] at hP; exact hP⟩, hS.F ht⟩) hS.2.2 d_M_layLong_6

def f_M_layShort_L769 (w_mm : List (List Int32)) (k676 : Int32 → List (List Int32) → Option (List (List Int32))) (x1 : Int32) (y_mm : List (List Int32)) : Option (List (List Int32)) :=
  (f_M_lay y_mm x1 6 2 300 4).bind fun r_75 => k676 (x1 + 1) r_75
def f_M_layShort_L757 (w_mm : List (List Int32)) (k676 : Int32 → List (List Int32) → Option (List (List Int32))) (x1 : Int32) (y_mm : List (List Int32)) : Option (List (List Int32)) :=
  if x1 = 70 then (f_M_layShort_L769 w_mm k676 x1 y_mm) else (if x1 = 73 then (f_M_layShort_L769 w_mm k676 x1 y_mm) else (k676 (x1 + 1) y_mm))
def f_M_layShort_L745 (w_mm : List (List Int32)) (k676 : Int32 → List (List Int32) → Option (List (List Int32))) (x1 : Int32) (y_mm : List (List Int32)) : Option (List (List Int32)) :=
  (f_M_lay y_mm x1 11 7 100 4).bind fun r_72 => f_M_layShort_L757 w_mm k676 x1 r_72
def f_M_layShort_L733 (w_mm : List (List Int32)) (k676 : Int32 → List (List Int32) → Option (List (List Int32))) (x1 : Int32) (y_mm : List (List Int32)) : Option (List (List Int32)) :=
  if x1 = 70 then (f_M_layShort_L745 w_mm k676 x1 y_mm) else (if x1 = 73 then (f_M_layShort_L745 w_mm k676 x1 y_mm) else (f_M_layShort_L757 w_mm k676 x1 y_mm))
def f_M_layShort_L720 (w_mm : List (List Int32)) (k676 : Int32 → List (List Int32) → Option (List (List Int32))) (x1 : Int32) (y_mm : List (List Int32)) : Option (List (List Int32)) :=
  (f_M_lay y_mm x1 11 7 200 4).bind fun r_69 => f_M_layShort_L733 w_mm k676 x1 r_69
def f_M_layShort_L705 (w_mm : List (List Int32)) (k676 : Int32 → List (List Int32) → Option (List (List Int32))) (x1 : Int32) (t0 : Int32) (t1 : Int32) (t2 : Int32) (t3 : Int32) (y_mm : List (List Int32)) : Option (List (List Int32)) :=
  (f_M_fix y_mm t3 t2 t1 t0).bind fun r_66 => if x1 = 69 then (f_M_layShort_L720 w_mm k676 x1 r_66) else (if x1 = 72 then (f_M_layShort_L720 w_mm k676 x1 r_66) else (f_M_layShort_L733 w_mm k676 x1 r_66))
def f_M_layShort_L676 (w_mm : List (List Int32))  : Nat → Int32 → List (List Int32) → Option (List (List Int32))
  | 0, _, _ => none
  | n + 1, x1, y_mm =>
    if 74 ≤ x1 then ((f_M_ends y_mm 74 6 2).bind fun r_55 => (f_M_lay r_55 74 12 9 400 5).bind fun r_57 => (f_M_lay r_57 74 8 7 400 7).bind fun r_59 => (f_M_lay r_59 74 6 2 300 4).bind fun r_61 => some (r_61)) else ((f_M_ends y_mm x1 4 2).bind fun r_63 => if x1 ≤ 70 then (f_M_layShort_L705 w_mm (fun y0 y1 => f_M_layShort_L676 w_mm  n y0 y1) x1 0 1 12 x1 r_63) else (f_M_layShort_L705 w_mm (fun y0 y1 => f_M_layShort_L676 w_mm  n y0 y1) x1 1 1 12 x1 r_63))
def f_M_layShort_L507 (w_mm : List (List Int32)) (k486 : Int32 → List (List Int32) → Option (List (List Int32))) (x1 : Int32) (t0 : Int32) (t1 : Int32) (y_mm : List (List Int32)) : Option (List (List Int32)) :=
  (f_M_ends y_mm t1 t0 1).bind fun r_81 => (f_M_one r_81 x1 12 8).bind fun r_83 => (f_M_lay r_83 x1 11 10 400 4).bind fun r_85 => (f_M_lay r_85 x1 9 7 600 2).bind fun r_87 => (f_M_lay r_87 x1 6 5 400 7).bind fun r_89 => (f_M_lay r_89 x1 4 3 400 2).bind fun r_91 => (f_M_one r_91 x1 2 5).bind fun r_93 => k486 (x1 + 1) r_93
def f_M_layShort_L486 (w_mm : List (List Int32))  : Nat → Int32 → List (List Int32) → Option (List (List Int32))
  | 0, _, _ => none
  | n + 1, x1, y_mm =>
    if 67 ≤ x1 then ((f_M_ends y_mm 67 0 2).bind fun r_38 => (f_M_lay r_38 67 11 7 100 4).bind fun r_40 => (f_M_lay r_40 67 6 2 400 4).bind fun r_42 => (f_M_ends r_42 68 2 2).bind fun r_44 => (f_M_one r_44 68 12 5).bind fun r_46 => (f_M_lay r_46 68 11 7 100 4).bind fun r_48 => (f_M_lay r_48 68 6 4 400 4).bind fun r_50 => (f_M_lay r_50 68 3 2 400 7).bind fun r_52 => f_M_layShort_L676 w_mm  80 69 r_52) else (if x1 = 65 then (f_M_layShort_L507 w_mm (fun y0 y1 => f_M_layShort_L486 w_mm  n y0 y1) x1 6 x1 y_mm) else (f_M_layShort_L507 w_mm (fun y0 y1 => f_M_layShort_L486 w_mm  n y0 y1) x1 7 x1 y_mm))
def f_M_layShort_L420 (w_mm : List (List Int32))  : Nat → Int32 → List (List Int32) → Option (List (List Int32))
  | 0, _, _ => none
  | n + 1, x1, y_mm =>
    if 64 ≤ x1 then (f_M_layShort_L486 w_mm  80 65 y_mm) else ((f_M_ends y_mm x1 4 1).bind fun r_95 => (f_M_fix r_95 x1 10 3 3).bind fun r_97 => (f_M_lay r_97 x1 9 7 500 2).bind fun r_99 => (f_M_fix r_99 x1 5 2 (x1 - 60)).bind fun r_101 => (f_M_lay r_101 x1 4 2 700 2).bind fun r_103 => f_M_layShort_L420 w_mm  n (x1 + 1) r_103)
def f_M_layShort_L386 (w_mm : List (List Int32)) (k347 : Int32 → List (List Int32) → Option (List (List Int32))) (x1 : Int32) (y_mm : List (List Int32)) : Option (List (List Int32)) :=
  (f_M_lay y_mm x1 9 7 500 2).bind fun r_110 => (f_M_lay r_110 x1 6 2 400 4).bind fun r_112 => k347 (x1 + 1) r_112
def f_M_layShort_L347 (w_mm : List (List Int32))  : Nat → Int32 → List (List Int32) → Option (List (List Int32))
  | 0, _, _ => none
  | n + 1, x1, y_mm =>
    if 60 ≤ x1 then (f_M_layShort_L420 w_mm  80 60 y_mm) else ((f_M_ends y_mm x1 4 1).bind fun r_105 => (f_M_fix r_105 x1 10 3 (x1 - 57)).bind fun r_107 => if x1 = 59 then ((f_M_one r_107 x1 12 5).bind fun r_114 => f_M_layShort_L386 w_mm (fun y0 y1 => f_M_layShort_L347 w_mm  n y0 y1) x1 r_114) else (f_M_layShort_L386 w_mm (fun y0 y1 => f_M_layShort_L347 w_mm  n y0 y1) x1 r_107))
def f_M_layShort_L221 (w_mm : List (List Int32)) (k177 : Int32 → List (List Int32) → Option (List (List Int32))) (x1 : Int32) (t0 : Int32) (t1 : Int32) (y_mm : List (List Int32)) : Option (List (List Int32)) :=
  (f_M_ends y_mm t1 t0 1).bind fun r_120 => (f_M_one r_120 x1 12 5).bind fun r_122 => (f_M_lay r_122 x1 11 7 100 4).bind fun r_124 => (f_M_lay r_124 x1 6 2 400 4).bind fun r_126 => k177 (x1 + 1) r_126
def f_M_layShort_L177 (w_mm : List (List Int32))  : Nat → Int32 → List (List Int32) → Option (List (List Int32))
  | 0, _, _ => none
  | n + 1, x1, y_mm =>
    if 57 ≤ x1 then ((f_M_layJump y_mm 53 1).bind fun r_17 => (f_M_layJump r_17 64 5).bind fun r_19 => (f_M_ends r_19 55 3 1).bind fun r_21 => (f_M_one r_21 55 12 9).bind fun r_23 => (f_M_fix r_23 55 7 5 2).bind fun r_25 => (f_M_one r_25 55 6 4).bind fun r_27 => (f_M_one r_27 55 5 6).bind fun r_29 => (f_M_lay r_29 55 4 3 400 8).bind fun r_31 => (f_M_one r_31 55 2 5).bind fun r_33 => f_M_layShort_L347 w_mm  80 57 r_33) else (if x1 = 53 then (f_M_layShort_L177 w_mm  n (x1 + 1) y_mm) else (if x1 = 55 then (f_M_layShort_L177 w_mm  n (x1 + 1) y_mm) else (if x1 = 52 then (f_M_layShort_L221 w_mm (fun y0 y1 => f_M_layShort_L177 w_mm  n y0 y1) x1 0 x1 y_mm) else (if x1 = 54 then (f_M_layShort_L221 w_mm (fun y0 y1 => f_M_layShort_L177 w_mm  n y0 y1) x1 2 x1 y_mm) else (f_M_layShort_L221 w_mm (fun y0 y1 => f_M_layShort_L177 w_mm  n y0 y1) x1 3 x1 y_mm)))))
def f_M_layShort_L89 (w_mm : List (List Int32)) (k69 : Int32 → List (List Int32) → Option (List (List Int32))) (x1 : Int32) (t0 : Int32) (t1 : Int32) (y_mm : List (List Int32)) : Option (List (List Int32)) :=
  (f_M_ends y_mm t1 t0 0).bind fun r_129 => (f_M_lay r_129 x1 12 10 400 5).bind fun r_131 => (f_M_lay r_131 x1 9 7 600 2).bind fun r_133 => (f_M_one r_133 x1 6 2).bind fun r_135 => (f_M_one r_135 x1 5 6).bind fun r_137 => if x1 = 49 then ((f_M_lay r_137 x1 4 2 500 2).bind fun r_142 => k69 (x1 + 1) r_142) else ((f_M_lay r_137 x1 4 2 700 2).bind fun r_140 => k69 (x1 + 1) r_140)
def f_M_layShort_L69 (w_mm : List (List Int32))  : Nat → Int32 → List (List Int32) → Option (List (List Int32))
  | 0, _, _ => none
  | n + 1, x1, y_mm =>
    if 51 ≤ x1 then ((f_M_fix y_mm 51 0 16 1).bind fun r_14 => f_M_layShort_L177 w_mm  80 52 r_14) else (if x1 = 49 then (f_M_layShort_L89 w_mm (fun y0 y1 => f_M_layShort_L69 w_mm  n y0 y1) x1 2 x1 y_mm) else (f_M_layShort_L89 w_mm (fun y0 y1 => f_M_layShort_L69 w_mm  n y0 y1) x1 6 x1 y_mm))
def f_M_layShort (w_mm : List (List Int32)) : Option (List (List Int32)) :=
  (f_M_ends w_mm 48 0 0).bind fun r_1 => (f_M_lay r_1 48 12 11 400 5).bind fun r_3 => (f_M_lay r_3 48 10 7 400 9).bind fun r_5 => (f_M_one r_5 48 6 2).bind fun r_7 => (f_M_one r_7 48 5 3).bind fun r_9 => (f_M_lay r_9 48 4 2 500 2).bind fun r_11 => f_M_layShort_L69 w_mm  80 49 r_11
set_option maxHeartbeats 1000000 in
set_option maxRecDepth 100000 in
theorem c_M_layShort (l : Launch) {ad sk sv : Nat → Nat} {tK : Nat} (dC : Nat → ClassId) (dI : Nat → Nat → Nat) (cI : ClassId) (h0 rw pt ou : Nat) (w_mm : List (List Int32)) (hm : gw w_mm)   (r : List (List Int32)) (hf : f_M_layShort w_mm = some r) : Met l y_M_layShort (Cond.code y_M_layShort b_M_layShort 2 (Option.none : Option FieldType) :: aw) ({ frames := 3, cells := 0, slots := 0, locals := 70 } : Room) (va_Pc [.ref (h0)] (fun U => va_P (dC, dI) cls2 (wM cI h0 rw pt ou 0 (gg w_mm) (fun _ => 0) (fun _ => 0) 0 0) U.heap ∧ va_K (dC, dI) cls2 [(cI, .int)] U ∧ va_D (aM h0 rw pt ou) (wM cI h0 rw pt ou 0 (gg w_mm) (fun _ => 0) (fun _ => 0) 0 0) ∧ tb ad sk sv tK (aM h0 rw pt ou) U U.heap)) (va_Qv (fun u => u = r ∧ gw u) (fun (u : List (List Int32)) t => va_P (dC, dI) cls2 (wM cI h0 rw pt ou 0 (gg u) (fun _ => 0) (fun _ => 0) 0 0) t.heap) (aM h0 rw pt ou)) 0 0 (aM h0 rw pt ou) := by
  refine Met.ofW (cc := b_M_layShort) (maxL := 2) (ret := (Option.none : Option FieldType)) (by decide) rfl ?_
  intro p e s m args below meth c s₁ B hml hv
  obtain ⟨rfl, hP, hK, hD, hT⟩ := hv
  have hD0 := hD
  have hx := B.exec
  have hb := B.bytes
  have hr := B.returns
  have hts := atoms_spec (ws := (Cond.code y_M_layShort b_M_layShort 2 (Option.none : Option FieldType) :: aw)) B.pre
  have ht : ∀ {w : Cond}, w ∈ aw → w.before ([.ref (h0)] : List Value).toArray s = true := fun h => hts _ (List.mem_cons_of_mem _ h)
  have hown : s.vm.findClass "CodeWordsModel" = some m.cls := findClass_of_methodNamed B.named
  have hlocks := B.notSynchronized
  have hS : va_S (aM h0 rw pt ou) s.heap s.heap [] := va_S.rf
  have hl := lv_entry ([.ref (h0)]) (n := 2) (Nat.le_of_ble_eq_true rfl)
  rw [lg_entry_eq]
  generalize (lg_sl ([.ref (h0)]) ++ List.replicate (2 - (lg_sl ([.ref (h0)])).length) Slot.unset).toArray = ls at hl ⊢
  have hl : lv_has ls 2 [(0, .ref (h0))] := hl
  have J676 : ∀ (n676 : Nat) (x1 : Int32) (y_mm : List (List Int32)) (H : Heap) (locs : List Loc) (ls : Array Slot), gw y_mm → va_P (dC, dI) cls2 (wM cI h0 rw pt ou 0 (gg y_mm) (fun _ => 0) (fun _ => 0) 0 0) H → va_S (aM h0 rw pt ou) s.heap H locs → lv_has ls 2 [(0, .ref (h0)), (1, .int (x1))] → f_M_layShort_L676 w_mm  n676 x1 y_mm = some r → wW p l e (headSpec (Cond.code y_M_layShort b_M_layShort 2 (Option.none : Option FieldType) :: aw) ({ frames := 3, cells := 0, slots := 0, locals := 70 } : Room)).room s m ([.ref (h0)] : List Value).toArray below meth c (va_Qv (fun u => u = r ∧ gw u) (fun (u : List (List Int32)) t => va_P (dC, dI) cls2 (wM cI h0 rw pt ou 0 (gg u) (fun _ => 0) (fun _ => 0) 0 0) t.heap) (aM h0 rw pt ou)) (aM h0 rw pt ou) H locs (F0 m 676 ls []) := by
    intro n676
    induction n676 with
    | zero =>
      intro x1 y_mm H locs ls hm hP hS hl hf
      rw [f_M_layShort_L676] at hf
      cases hf
    | succ n676 ih676 =>
      intro x1 y_mm H locs ls hm hP hS hl hf
      rw [f_M_layShort_L676] at hf
      have hD : va_D (aM h0 rw pt ou) (wM cI h0 rw pt ou 0 (gg y_mm) (fun _ => 0) (fun _ => 0) 0 0) := dD hD0 rfl
      have J769 : ∀ (x1 : Int32) (y_mm : List (List Int32)) (H : Heap) (locs : List Loc) (ls : Array Slot), gw y_mm → va_P (dC, dI) cls2 (wM cI h0 rw pt ou 0 (gg y_mm) (fun _ => 0) (fun _ => 0) 0 0) H → va_S (aM h0 rw pt ou) s.heap H locs → lv_has ls 2 [(0, .ref (h0)), (1, .int (x1))] → f_M_layShort_L769 w_mm (fun y0 y1 => f_M_layShort_L676 w_mm  n676 y0 y1) x1 y_mm = some r → wW p l e (headSpec (Cond.code y_M_layShort b_M_layShort 2 (Option.none : Option FieldType) :: aw) ({ frames := 3, cells := 0, slots := 0, locals := 70 } : Room)).room s m ([.ref (h0)] : List Value).toArray below meth c (va_Qv (fun u => u = r ∧ gw u) (fun (u : List (List Int32)) t => va_P (dC, dI) cls2 (wM cI h0 rw pt ou 0 (gg u) (fun _ => 0) (fun _ => 0) 0 0) t.heap) (aM h0 rw pt ou)) (aM h0 rw pt ou) H locs (F0 m 769 ls []) := by
        intro x1 y_mm H locs ls hm hP hS hl hf
        rw [f_M_layShort_L769] at hf
        have hD : va_D (aM h0 rw pt ou) (wM cI h0 rw pt ou 0 (gg y_mm) (fun _ => 0) (fun _ => 0) 0 0) := dD hD0 rfl
        refine lv_aload_n hx hb d_M_layShort_769 rfl (lv_at hl 0 rfl) ?_
        refine lv_iload_n hx hb d_M_layShort_770 rfl (lv_at hl 1 rfl) ?_
        refine lv_bipush (v := 6) hx hb d_M_layShort_771 (by decide) ?_
        refine lv_iconst (v := 2) hx hb d_M_layShort_773 (by decide) ?_
        refine lv_sipush (v := 300) hx hb d_M_layShort_774 (by decide) ?_
        refine lv_iconst (v := 4) hx hb d_M_layShort_777 (by decide) ?_
        obtain ⟨r_75, g_76, hf⟩ := Option.bind_eq_some_iff.mp hf
        refine va_callv (va_runV (As := [.int (x1), .int (6), .int (2), .int (300), .int (4)]) (rest := []) ⟨hx, hb, hml, hown, hts⟩ (c_M_lay l (ad := ad) (sk := sk) (sv := sv) (tK := tK) dC dI cI h0 rw pt ou y_mm hm x1 6 2 300 4  r_75 g_76) (cwV 5 hts (aw_V aw_404 aw_406 aw_p18 aw_2 aw_407) rfl rfl rfl (by decide +kernel) ⟨Nat.le_of_ble_eq_true rfl, Nat.le_of_ble_eq_true rfl⟩) ⟨wBlind, va_recv hK hP (ci := 1) (q0 := 0) rfl rfl, fun U hU hW => ⟨rfl, by rw [hU]; exact hP, va_K.moved hW.alike hK, hD, hT.at hS hU hW (fun _ z => z)⟩⟩ rfl rfl hl.1 rfl (lv_room (Nat.le_of_ble_eq_true rfl)) d_M_layShort_778 ⟨Nat.le_refl _, Nat.le_refl _⟩) hS (fun _ _ h => h) (fun _ h => h) (fun u t H1 locs ht1 hvm hw hB hz1 hk1 hS => ?_)
        obtain ⟨hw, hm⟩ := hw
        rw [hw] at hB hm
        rw [ht1] at hB
        have hP : va_P (dC, dI) cls2 (wM cI h0 rw pt ou 0 (gg r_75) (fun _ => 0) (fun _ => 0) 0 0) H1 := hB
        have hD : va_D (aM h0 rw pt ou) (wM cI h0 rw pt ou 0 (gg r_75) (fun _ => 0) (fun _ => 0) 0 0) := dD hD0 rfl
        refine lv_iinc (v := x1 + 1) (lv' := [(1, .int (x1 + 1)), (0, .ref (h0))]) hx hb d_M_layShort_781 hl (k := 1) rfl rfl (by decide) rfl (fun ls hl => ?_)
        refine lv_goto (tgt := 676) hx hb d_M_layShort_784 (by decide) ?_
        exact ih676 (x1 + 1) r_75 _ _ _ hm hP hS (lv_sub hl [1, 0] rfl) hf
      have J757 : ∀ (x1 : Int32) (y_mm : List (List Int32)) (H : Heap) (locs : List Loc) (ls : Array Slot), gw y_mm → va_P (dC, dI) cls2 (wM cI h0 rw pt ou 0 (gg y_mm) (fun _ => 0) (fun _ => 0) 0 0) H → va_S (aM h0 rw pt ou) s.heap H locs → lv_has ls 2 [(0, .ref (h0)), (1, .int (x1))] → f_M_layShort_L757 w_mm (fun y0 y1 => f_M_layShort_L676 w_mm  n676 y0 y1) x1 y_mm = some r → wW p l e (headSpec (Cond.code y_M_layShort b_M_layShort 2 (Option.none : Option FieldType) :: aw) ({ frames := 3, cells := 0, slots := 0, locals := 70 } : Room)).room s m ([.ref (h0)] : List Value).toArray below meth c (va_Qv (fun u => u = r ∧ gw u) (fun (u : List (List Int32)) t => va_P (dC, dI) cls2 (wM cI h0 rw pt ou 0 (gg u) (fun _ => 0) (fun _ => 0) 0 0) t.heap) (aM h0 rw pt ou)) (aM h0 rw pt ou) H locs (F0 m 757 ls []) := by
        intro x1 y_mm H locs ls hm hP hS hl hf
        rw [f_M_layShort_L757] at hf
        have hD : va_D (aM h0 rw pt ou) (wM cI h0 rw pt ou 0 (gg y_mm) (fun _ => 0) (fun _ => 0) 0 0) := dD hD0 rfl
        refine lv_iload_n hx hb d_M_layShort_757 rfl (lv_at hl 1 rfl) ?_
        refine lv_bipush (v := 70) hx hb d_M_layShort_758 (by decide) ?_
        refine lv_icmp_eq (tgt := 769) hx hb d_M_layShort_760 (by decide) (fun c_74 => ?_) (fun c_74 => ?_)
        · replace hf := (if_pos c_74).symm.trans hf
          exact J769 x1 y_mm _ _ _ hm hP hS (lv_sub hl [0, 1] rfl) hf
        · replace hf := (if_neg c_74).symm.trans hf
          refine lv_iload_n hx hb d_M_layShort_763 rfl (lv_at hl 1 rfl) ?_
          refine lv_bipush (v := 73) hx hb d_M_layShort_764 (by decide) ?_
          refine lv_icmp_ne (tgt := 781) hx hb d_M_layShort_766 (by decide) (fun c_77 => ?_) (fun c_77 => ?_)
          · replace hf := (if_neg c_77).symm.trans hf
            refine lv_iinc (v := x1 + 1) (lv' := [(1, .int (x1 + 1)), (0, .ref (h0))]) hx hb d_M_layShort_781 hl (k := 1) rfl rfl (by decide) rfl (fun ls hl => ?_)
            refine lv_goto (tgt := 676) hx hb d_M_layShort_784 (by decide) ?_
            exact ih676 (x1 + 1) y_mm _ _ _ hm hP hS (lv_sub hl [1, 0] rfl) hf
          · replace hf := (if_pos c_77).symm.trans hf
            exact J769 x1 y_mm _ _ _ hm hP hS (lv_sub hl [0, 1] rfl) hf
      have J745 : ∀ (x1 : Int32) (y_mm : List (List Int32)) (H : Heap) (locs : List Loc) (ls : Array Slot), gw y_mm → va_P (dC, dI) cls2 (wM cI h0 rw pt ou 0 (gg y_mm) (fun _ => 0) (fun _ => 0) 0 0) H → va_S (aM h0 rw pt ou) s.heap H locs → lv_has ls 2 [(0, .ref (h0)), (1, .int (x1))] → f_M_layShort_L745 w_mm (fun y0 y1 => f_M_layShort_L676 w_mm  n676 y0 y1) x1 y_mm = some r → wW p l e (headSpec (Cond.code y_M_layShort b_M_layShort 2 (Option.none : Option FieldType) :: aw) ({ frames := 3, cells := 0, slots := 0, locals := 70 } : Room)).room s m ([.ref (h0)] : List Value).toArray below meth c (va_Qv (fun u => u = r ∧ gw u) (fun (u : List (List Int32)) t => va_P (dC, dI) cls2 (wM cI h0 rw pt ou 0 (gg u) (fun _ => 0) (fun _ => 0) 0 0) t.heap) (aM h0 rw pt ou)) (aM h0 rw pt ou) H locs (F0 m 745 ls []) := by
        intro x1 y_mm H locs ls hm hP hS hl hf
        rw [f_M_layShort_L745] at hf
        have hD : va_D (aM h0 rw pt ou) (wM cI h0 rw pt ou 0 (gg y_mm) (fun _ => 0) (fun _ => 0) 0 0) := dD hD0 rfl
        refine lv_aload_n hx hb d_M_layShort_745 rfl (lv_at hl 0 rfl) ?_
        refine lv_iload_n hx hb d_M_layShort_746 rfl (lv_at hl 1 rfl) ?_
        refine lv_bipush (v := 11) hx hb d_M_layShort_747 (by decide) ?_
        refine lv_bipush (v := 7) hx hb d_M_layShort_749 (by decide) ?_
        refine lv_bipush (v := 100) hx hb d_M_layShort_751 (by decide) ?_
        refine lv_iconst (v := 4) hx hb d_M_layShort_753 (by decide) ?_
        obtain ⟨r_72, g_73, hf⟩ := Option.bind_eq_some_iff.mp hf
        refine va_callv (va_runV (As := [.int (x1), .int (11), .int (7), .int (100), .int (4)]) (rest := []) ⟨hx, hb, hml, hown, hts⟩ (c_M_lay l (ad := ad) (sk := sk) (sv := sv) (tK := tK) dC dI cI h0 rw pt ou y_mm hm x1 11 7 100 4  r_72 g_73) (cwV 5 hts (aw_V aw_404 aw_406 aw_p18 aw_2 aw_407) rfl rfl rfl (by decide +kernel) ⟨Nat.le_of_ble_eq_true rfl, Nat.le_of_ble_eq_true rfl⟩) ⟨wBlind, va_recv hK hP (ci := 1) (q0 := 0) rfl rfl, fun U hU hW => ⟨rfl, by rw [hU]; exact hP, va_K.moved hW.alike hK, hD, hT.at hS hU hW (fun _ z => z)⟩⟩ rfl rfl hl.1 rfl (lv_room (Nat.le_of_ble_eq_true rfl)) d_M_layShort_754 ⟨Nat.le_refl _, Nat.le_refl _⟩) hS (fun _ _ h => h) (fun _ h => h) (fun u t H1 locs ht1 hvm hw hB hz1 hk1 hS => ?_)
        obtain ⟨hw, hm⟩ := hw
        rw [hw] at hB hm
        rw [ht1] at hB
        have hP : va_P (dC, dI) cls2 (wM cI h0 rw pt ou 0 (gg r_72) (fun _ => 0) (fun _ => 0) 0 0) H1 := hB
        have hD : va_D (aM h0 rw pt ou) (wM cI h0 rw pt ou 0 (gg r_72) (fun _ => 0) (fun _ => 0) 0 0) := dD hD0 rfl
        exact J757 x1 r_72 _ _ _ hm hP hS (lv_sub hl [0, 1] rfl) hf
      have J733 : ∀ (x1 : Int32) (y_mm : List (List Int32)) (H : Heap) (locs : List Loc) (ls : Array Slot), gw y_mm → va_P (dC, dI) cls2 (wM cI h0 rw pt ou 0 (gg y_mm) (fun _ => 0) (fun _ => 0) 0 0) H → va_S (aM h0 rw pt ou) s.heap H locs → lv_has ls 2 [(0, .ref (h0)), (1, .int (x1))] → f_M_layShort_L733 w_mm (fun y0 y1 => f_M_layShort_L676 w_mm  n676 y0 y1) x1 y_mm = some r → wW p l e (headSpec (Cond.code y_M_layShort b_M_layShort 2 (Option.none : Option FieldType) :: aw) ({ frames := 3, cells := 0, slots := 0, locals := 70 } : Room)).room s m ([.ref (h0)] : List Value).toArray below meth c (va_Qv (fun u => u = r ∧ gw u) (fun (u : List (List Int32)) t => va_P (dC, dI) cls2 (wM cI h0 rw pt ou 0 (gg u) (fun _ => 0) (fun _ => 0) 0 0) t.heap) (aM h0 rw pt ou)) (aM h0 rw pt ou) H locs (F0 m 733 ls []) := by
        intro x1 y_mm H locs ls hm hP hS hl hf
        rw [f_M_layShort_L733] at hf
        have hD : va_D (aM h0 rw pt ou) (wM cI h0 rw pt ou 0 (gg y_mm) (fun _ => 0) (fun _ => 0) 0 0) := dD hD0 rfl
        refine lv_iload_n hx hb d_M_layShort_733 rfl (lv_at hl 1 rfl) ?_
        refine lv_bipush (v := 70) hx hb d_M_layShort_734 (by decide) ?_
        refine lv_icmp_eq (tgt := 745) hx hb d_M_layShort_736 (by decide) (fun c_71 => ?_) (fun c_71 => ?_)
        · replace hf := (if_pos c_71).symm.trans hf
          exact J745 x1 y_mm _ _ _ hm hP hS (lv_sub hl [0, 1] rfl) hf
        · replace hf := (if_neg c_71).symm.trans hf
          refine lv_iload_n hx hb d_M_layShort_739 rfl (lv_at hl 1 rfl) ?_
          refine lv_bipush (v := 73) hx hb d_M_layShort_740 (by decide) ?_
          refine lv_icmp_ne (tgt := 757) hx hb d_M_layShort_742 (by decide) (fun c_78 => ?_) (fun c_78 => ?_)
          · replace hf := (if_neg c_78).symm.trans hf
            exact J757 x1 y_mm _ _ _ hm hP hS (lv_sub hl [0, 1] rfl) hf
          · replace hf := (if_pos c_78).symm.trans hf
            exact J745 x1 y_mm _ _ _ hm hP hS (lv_sub hl [0, 1] rfl) hf
      have J720 : ∀ (x1 : Int32) (y_mm : List (List Int32)) (H : Heap) (locs : List Loc) (ls : Array Slot), gw y_mm → va_P (dC, dI) cls2 (wM cI h0 rw pt ou 0 (gg y_mm) (fun _ => 0) (fun _ => 0) 0 0) H → va_S (aM h0 rw pt ou) s.heap H locs → lv_has ls 2 [(0, .ref (h0)), (1, .int (x1))] → f_M_layShort_L720 w_mm (fun y0 y1 => f_M_layShort_L676 w_mm  n676 y0 y1) x1 y_mm = some r → wW p l e (headSpec (Cond.code y_M_layShort b_M_layShort 2 (Option.none : Option FieldType) :: aw) ({ frames := 3, cells := 0, slots := 0, locals := 70 } : Room)).room s m ([.ref (h0)] : List Value).toArray below meth c (va_Qv (fun u => u = r ∧ gw u) (fun (u : List (List Int32)) t => va_P (dC, dI) cls2 (wM cI h0 rw pt ou 0 (gg u) (fun _ => 0) (fun _ => 0) 0 0) t.heap) (aM h0 rw pt ou)) (aM h0 rw pt ou) H locs (F0 m 720 ls []) := by
        intro x1 y_mm H locs ls hm hP hS hl hf
        rw [f_M_layShort_L720] at hf
        have hD : va_D (aM h0 rw pt ou) (wM cI h0 rw pt ou 0 (gg y_mm) (fun _ => 0) (fun _ => 0) 0 0) := dD hD0 rfl
        refine lv_aload_n hx hb d_M_layShort_720 rfl (lv_at hl 0 rfl) ?_
        refine lv_iload_n hx hb d_M_layShort_721 rfl (lv_at hl 1 rfl) ?_
        refine lv_bipush (v := 11) hx hb d_M_layShort_722 (by decide) ?_
        refine lv_bipush (v := 7) hx hb d_M_layShort_724 (by decide) ?_
        refine lv_sipush (v := 200) hx hb d_M_layShort_726 (by decide) ?_
        refine lv_iconst (v := 4) hx hb d_M_layShort_729 (by decide) ?_
        obtain ⟨r_69, g_70, hf⟩ := Option.bind_eq_some_iff.mp hf
        refine va_callv (va_runV (As := [.int (x1), .int (11), .int (7), .int (200), .int (4)]) (rest := []) ⟨hx, hb, hml, hown, hts⟩ (c_M_lay l (ad := ad) (sk := sk) (sv := sv) (tK := tK) dC dI cI h0 rw pt ou y_mm hm x1 11 7 200 4  r_69 g_70) (cwV 5 hts (aw_V aw_404 aw_406 aw_p18 aw_2 aw_407) rfl rfl rfl (by decide +kernel) ⟨Nat.le_of_ble_eq_true rfl, Nat.le_of_ble_eq_true rfl⟩) ⟨wBlind, va_recv hK hP (ci := 1) (q0 := 0) rfl rfl, fun U hU hW => ⟨rfl, by rw [hU]; exact hP, va_K.moved hW.alike hK, hD, hT.at hS hU hW (fun _ z => z)⟩⟩ rfl rfl hl.1 rfl (lv_room (Nat.le_of_ble_eq_true rfl)) d_M_layShort_730 ⟨Nat.le_refl _, Nat.le_refl _⟩) hS (fun _ _ h => h) (fun _ h => h) (fun u t H1 locs ht1 hvm hw hB hz1 hk1 hS => ?_)
        obtain ⟨hw, hm⟩ := hw
        rw [hw] at hB hm
        rw [ht1] at hB
        have hP : va_P (dC, dI) cls2 (wM cI h0 rw pt ou 0 (gg r_69) (fun _ => 0) (fun _ => 0) 0 0) H1 := hB
        have hD : va_D (aM h0 rw pt ou) (wM cI h0 rw pt ou 0 (gg r_69) (fun _ => 0) (fun _ => 0) 0 0) := dD hD0 rfl
        exact J733 x1 r_69 _ _ _ hm hP hS (lv_sub hl [0, 1] rfl) hf
      have J705 : ∀ (x1 : Int32) (t0 : Int32) (t1 : Int32) (t2 : Int32) (t3 : Int32) (y_mm : List (List Int32)) (H : Heap) (locs : List Loc) (ls : Array Slot), gw y_mm → va_P (dC, dI) cls2 (wM cI h0 rw pt ou 0 (gg y_mm) (fun _ => 0) (fun _ => 0) 0 0) H → va_S (aM h0 rw pt ou) s.heap H locs → lv_has ls 2 [(0, .ref (h0)), (1, .int (x1))] → f_M_layShort_L705 w_mm (fun y0 y1 => f_M_layShort_L676 w_mm  n676 y0 y1) x1 t0 t1 t2 t3 y_mm = some r → wW p l e (headSpec (Cond.code y_M_layShort b_M_layShort 2 (Option.none : Option FieldType) :: aw) ({ frames := 3, cells := 0, slots := 0, locals := 70 } : Room)).room s m ([.ref (h0)] : List Value).toArray below meth c (va_Qv (fun u => u = r ∧ gw u) (fun (u : List (List Int32)) t => va_P (dC, dI) cls2 (wM cI h0 rw pt ou 0 (gg u) (fun _ => 0) (fun _ => 0) 0 0) t.heap) (aM h0 rw pt ou)) (aM h0 rw pt ou) H locs (F0 m 705 ls [.int (t0), .int (t1), .int (t2), .int (t3), .ref (h0)]) := by
        intro x1 t0 t1 t2 t3 y_mm H locs ls hm hP hS hl hf
        rw [f_M_layShort_L705] at hf
        have hD : va_D (aM h0 rw pt ou) (wM cI h0 rw pt ou 0 (gg y_mm) (fun _ => 0) (fun _ => 0) 0 0) := dD hD0 rfl
        obtain ⟨r_66, g_67, hf⟩ := Option.bind_eq_some_iff.mp hf
        refine va_callv (va_runV (As := [.int (t3), .int (t2), .int (t1), .int (t0)]) (rest := []) ⟨hx, hb, hml, hown, hts⟩ (c_M_fix l (ad := ad) (sk := sk) (sv := sv) (tK := tK) dC dI cI h0 rw pt ou y_mm hm t3 t2 t1 t0  r_66 g_67) (cwV 4 hts (aw_V aw_397 aw_399 aw_p17 aw_2 aw_400) rfl rfl rfl (by decide +kernel) ⟨Nat.le_of_ble_eq_true rfl, Nat.le_of_ble_eq_true rfl⟩) ⟨wBlind, va_recv hK hP (ci := 1) (q0 := 0) rfl rfl, fun U hU hW => ⟨rfl, by rw [hU]; exact hP, va_K.moved hW.alike hK, hD, hT.at hS hU hW (fun _ z => z)⟩⟩ rfl rfl hl.1 rfl (lv_room (Nat.le_of_ble_eq_true rfl)) d_M_layShort_705 ⟨Nat.le_refl _, Nat.le_refl _⟩) hS (fun _ _ h => h) (fun _ h => h) (fun u t H1 locs ht1 hvm hw hB hz1 hk1 hS => ?_)
        obtain ⟨hw, hm⟩ := hw
        rw [hw] at hB hm
        rw [ht1] at hB
        have hP : va_P (dC, dI) cls2 (wM cI h0 rw pt ou 0 (gg r_66) (fun _ => 0) (fun _ => 0) 0 0) H1 := hB
        have hD : va_D (aM h0 rw pt ou) (wM cI h0 rw pt ou 0 (gg r_66) (fun _ => 0) (fun _ => 0) 0 0) := dD hD0 rfl
        refine lv_iload_n hx hb d_M_layShort_708 rfl (lv_at hl 1 rfl) ?_
        refine lv_bipush (v := 69) hx hb d_M_layShort_709 (by decide) ?_
        refine lv_icmp_eq (tgt := 720) hx hb d_M_layShort_711 (by decide) (fun c_68 => ?_) (fun c_68 => ?_)
        · replace hf := (if_pos c_68).symm.trans hf
          exact J720 x1 r_66 _ _ _ hm hP hS (lv_sub hl [0, 1] rfl) hf
        · replace hf := (if_neg c_68).symm.trans hf
          refine lv_iload_n hx hb d_M_layShort_714 rfl (lv_at hl 1 rfl) ?_
          refine lv_bipush (v := 72) hx hb d_M_layShort_715 (by decide) ?_
          refine lv_icmp_ne (tgt := 733) hx hb d_M_layShort_717 (by decide) (fun c_79 => ?_) (fun c_79 => ?_)
          · replace hf := (if_neg c_79).symm.trans hf
            exact J733 x1 r_66 _ _ _ hm hP hS (lv_sub hl [0, 1] rfl) hf
          · replace hf := (if_pos c_79).symm.trans hf
            exact J720 x1 r_66 _ _ _ hm hP hS (lv_sub hl [0, 1] rfl) hf
      refine lv_iload_n hx hb d_M_layShort_676 rfl (lv_at hl 1 rfl) ?_
      refine lv_bipush (v := 74) hx hb d_M_layShort_677 (by decide) ?_
      refine lv_icmp_ge (tgt := 787) hx hb d_M_layShort_679 (by decide) (fun c_54 => ?_) (fun c_54 => ?_)
      · replace hf := (if_pos c_54).symm.trans hf
        refine lv_aload_n hx hb d_M_layShort_787 rfl (lv_at hl 0 rfl) ?_
        refine lv_bipush (v := 74) hx hb d_M_layShort_788 (by decide) ?_
        refine lv_bipush (v := 6) hx hb d_M_layShort_790 (by decide) ?_
        refine lv_iconst (v := 2) hx hb d_M_layShort_792 (by decide) ?_
        obtain ⟨r_55, g_56, hf⟩ := Option.bind_eq_some_iff.mp hf
        refine va_callv (va_runV (As := [.int (74), .int (6), .int (2)]) (rest := []) ⟨hx, hb, hml, hown, hts⟩ (c_M_ends l (ad := ad) (sk := sk) (sv := sv) (tK := tK) dC dI cI h0 rw pt ou y_mm hm 74 6 2  r_55 g_56) (cwV 3 hts (aw_V aw_427 aw_429 aw_p20 aw_2 aw_430) rfl rfl rfl (by decide +kernel) ⟨Nat.le_of_ble_eq_true rfl, Nat.le_of_ble_eq_true rfl⟩) ⟨wBlind, va_recv hK hP (ci := 1) (q0 := 0) rfl rfl, fun U hU hW => ⟨rfl, by rw [hU]; exact hP, va_K.moved hW.alike hK, hD, hT.at hS hU hW (fun _ z => z)⟩⟩ rfl rfl hl.1 rfl (lv_room (Nat.le_of_ble_eq_true rfl)) d_M_layShort_793 ⟨Nat.le_refl _, Nat.le_refl _⟩) hS (fun _ _ h => h) (fun _ h => h) (fun u t H1 locs ht1 hvm hw hB hz1 hk1 hS => ?_)
        obtain ⟨hw, hm⟩ := hw
        rw [hw] at hB hm
        rw [ht1] at hB
        have hP : va_P (dC, dI) cls2 (wM cI h0 rw pt ou 0 (gg r_55) (fun _ => 0) (fun _ => 0) 0 0) H1 := hB
        have hD : va_D (aM h0 rw pt ou) (wM cI h0 rw pt ou 0 (gg r_55) (fun _ => 0) (fun _ => 0) 0 0) := dD hD0 rfl
        refine lv_aload_n hx hb d_M_layShort_796 rfl (lv_at hl 0 rfl) ?_
        refine lv_bipush (v := 74) hx hb d_M_layShort_797 (by decide) ?_
        refine lv_bipush (v := 12) hx hb d_M_layShort_799 (by decide) ?_
        refine lv_bipush (v := 9) hx hb d_M_layShort_801 (by decide) ?_
        refine lv_sipush (v := 400) hx hb d_M_layShort_803 (by decide) ?_
        refine lv_iconst (v := 5) hx hb d_M_layShort_806 (by decide) ?_
        obtain ⟨r_57, g_58, hf⟩ := Option.bind_eq_some_iff.mp hf
        refine va_callv (va_runV (As := [.int (74), .int (12), .int (9), .int (400), .int (5)]) (rest := []) ⟨hx, hb, hml, hown, hts⟩ (c_M_lay l (ad := ad) (sk := sk) (sv := sv) (tK := tK) dC dI cI h0 rw pt ou r_55 hm 74 12 9 400 5  r_57 g_58) (cwV 5 hts (aw_V aw_404 aw_406 aw_p18 aw_2 aw_407) rfl rfl rfl (by decide +kernel) ⟨Nat.le_of_ble_eq_true rfl, Nat.le_of_ble_eq_true rfl⟩) ⟨wBlind, va_recv hK hP (ci := 1) (q0 := 0) rfl rfl, fun U hU hW => ⟨rfl, by rw [hU]; exact hP, va_K.moved hW.alike hK, hD, hT.at hS hU hW (fun _ z => z)⟩⟩ rfl rfl hl.1 rfl (lv_room (Nat.le_of_ble_eq_true rfl)) d_M_layShort_807 ⟨Nat.le_refl _, Nat.le_refl _⟩) hS (fun _ _ h => h) (fun _ h => h) (fun u t H1 locs ht1 hvm hw hB hz1 hk1 hS => ?_)
        obtain ⟨hw, hm⟩ := hw
        rw [hw] at hB hm
        rw [ht1] at hB
        have hP : va_P (dC, dI) cls2 (wM cI h0 rw pt ou 0 (gg r_57) (fun _ => 0) (fun _ => 0) 0 0) H1 := hB
        have hD : va_D (aM h0 rw pt ou) (wM cI h0 rw pt ou 0 (gg r_57) (fun _ => 0) (fun _ => 0) 0 0) := dD hD0 rfl
        refine lv_aload_n hx hb d_M_layShort_810 rfl (lv_at hl 0 rfl) ?_
        refine lv_bipush (v := 74) hx hb d_M_layShort_811 (by decide) ?_
        refine lv_bipush (v := 8) hx hb d_M_layShort_813 (by decide) ?_
        refine lv_bipush (v := 7) hx hb d_M_layShort_815 (by decide) ?_
        refine lv_sipush (v := 400) hx hb d_M_layShort_817 (by decide) ?_
        refine lv_bipush (v := 7) hx hb d_M_layShort_820 (by decide) ?_
        obtain ⟨r_59, g_60, hf⟩ := Option.bind_eq_some_iff.mp hf
        refine va_callv (va_runV (As := [.int (74), .int (8), .int (7), .int (400), .int (7)]) (rest := []) ⟨hx, hb, hml, hown, hts⟩ (c_M_lay l (ad := ad) (sk := sk) (sv := sv) (tK := tK) dC dI cI h0 rw pt ou r_57 hm 74 8 7 400 7  r_59 g_60) (cwV 5 hts (aw_V aw_404 aw_406 aw_p18 aw_2 aw_407) rfl rfl rfl (by decide +kernel) ⟨Nat.le_of_ble_eq_true rfl, Nat.le_of_ble_eq_true rfl⟩) ⟨wBlind, va_recv hK hP (ci := 1) (q0 := 0) rfl rfl, fun U hU hW => ⟨rfl, by rw [hU]; exact hP, va_K.moved hW.alike hK, hD, hT.at hS hU hW (fun _ z => z)⟩⟩ rfl rfl hl.1 rfl (lv_room (Nat.le_of_ble_eq_true rfl)) d_M_layShort_822 ⟨Nat.le_refl _, Nat.le_refl _⟩) hS (fun _ _ h => h) (fun _ h => h) (fun u t H1 locs ht1 hvm hw hB hz1 hk1 hS => ?_)
        obtain ⟨hw, hm⟩ := hw
        rw [hw] at hB hm
        rw [ht1] at hB
        have hP : va_P (dC, dI) cls2 (wM cI h0 rw pt ou 0 (gg r_59) (fun _ => 0) (fun _ => 0) 0 0) H1 := hB
        have hD : va_D (aM h0 rw pt ou) (wM cI h0 rw pt ou 0 (gg r_59) (fun _ => 0) (fun _ => 0) 0 0) := dD hD0 rfl
        refine lv_aload_n hx hb d_M_layShort_825 rfl (lv_at hl 0 rfl) ?_
        refine lv_bipush (v := 74) hx hb d_M_layShort_826 (by decide) ?_
        refine lv_bipush (v := 6) hx hb d_M_layShort_828 (by decide) ?_
        refine lv_iconst (v := 2) hx hb d_M_layShort_830 (by decide) ?_
        refine lv_sipush (v := 300) hx hb d_M_layShort_831 (by decide) ?_
        refine lv_iconst (v := 4) hx hb d_M_layShort_834 (by decide) ?_
        obtain ⟨r_61, g_62, hf⟩ := Option.bind_eq_some_iff.mp hf
        refine va_callv (va_runV (As := [.int (74), .int (6), .int (2), .int (300), .int (4)]) (rest := []) ⟨hx, hb, hml, hown, hts⟩ (c_M_lay l (ad := ad) (sk := sk) (sv := sv) (tK := tK) dC dI cI h0 rw pt ou r_59 hm 74 6 2 300 4  r_61 g_62) (cwV 5 hts (aw_V aw_404 aw_406 aw_p18 aw_2 aw_407) rfl rfl rfl (by decide +kernel) ⟨Nat.le_of_ble_eq_true rfl, Nat.le_of_ble_eq_true rfl⟩) ⟨wBlind, va_recv hK hP (ci := 1) (q0 := 0) rfl rfl, fun U hU hW => ⟨rfl, by rw [hU]; exact hP, va_K.moved hW.alike hK, hD, hT.at hS hU hW (fun _ z => z)⟩⟩ rfl rfl hl.1 rfl (lv_room (Nat.le_of_ble_eq_true rfl)) d_M_layShort_835 ⟨Nat.le_refl _, Nat.le_refl _⟩) hS (fun _ _ h => h) (fun _ h => h) (fun u t H1 locs ht1 hvm hw hB hz1 hk1 hS => ?_)
        obtain ⟨hw, hm⟩ := hw
        rw [hw] at hB hm
        rw [ht1] at hB
        have hP : va_P (dC, dI) cls2 (wM cI h0 rw pt ou 0 (gg r_61) (fun _ => 0) (fun _ => 0) 0 0) H1 := hB
        have hD : va_D (aM h0 rw pt ou) (wM cI h0 rw pt ou 0 (gg r_61) (fun _ => 0) (fun _ => 0) 0 0) := dD hD0 rfl
        exact W.vret hx hb hr (fun t ht hW => ⟨⟨(r_61), rfl, ⟨Option.some.inj hf, hm⟩, by rw [← ht] at hP; exact hP⟩, hS.F ht⟩) hS.2.2 d_M_layShort_838
      · replace hf := (if_neg c_54).symm.trans hf
        refine lv_aload_n hx hb d_M_layShort_682 rfl (lv_at hl 0 rfl) ?_
        refine lv_iload_n hx hb d_M_layShort_683 rfl (lv_at hl 1 rfl) ?_
        refine lv_iconst (v := 4) hx hb d_M_layShort_684 (by decide) ?_
        refine lv_iconst (v := 2) hx hb d_M_layShort_685 (by decide) ?_
        obtain ⟨r_63, g_64, hf⟩ := Option.bind_eq_some_iff.mp hf
        refine va_callv (va_runV (As := [.int (x1), .int (4), .int (2)]) (rest := []) ⟨hx, hb, hml, hown, hts⟩ (c_M_ends l (ad := ad) (sk := sk) (sv := sv) (tK := tK) dC dI cI h0 rw pt ou y_mm hm x1 4 2  r_63 g_64) (cwV 3 hts (aw_V aw_427 aw_429 aw_p20 aw_2 aw_430) rfl rfl rfl (by decide +kernel) ⟨Nat.le_of_ble_eq_true rfl, Nat.le_of_ble_eq_true rfl⟩) ⟨wBlind, va_recv hK hP (ci := 1) (q0 := 0) rfl rfl, fun U hU hW => ⟨rfl, by rw [hU]; exact hP, va_K.moved hW.alike hK, hD, hT.at hS hU hW (fun _ z => z)⟩⟩ rfl rfl hl.1 rfl (lv_room (Nat.le_of_ble_eq_true rfl)) d_M_layShort_686 ⟨Nat.le_refl _, Nat.le_refl _⟩) hS (fun _ _ h => h) (fun _ h => h) (fun u t H1 locs ht1 hvm hw hB hz1 hk1 hS => ?_)
        obtain ⟨hw, hm⟩ := hw
        rw [hw] at hB hm
        rw [ht1] at hB
        have hP : va_P (dC, dI) cls2 (wM cI h0 rw pt ou 0 (gg r_63) (fun _ => 0) (fun _ => 0) 0 0) H1 := hB
        have hD : va_D (aM h0 rw pt ou) (wM cI h0 rw pt ou 0 (gg r_63) (fun _ => 0) (fun _ => 0) 0 0) := dD hD0 rfl
        refine lv_aload_n hx hb d_M_layShort_689 rfl (lv_at hl 0 rfl) ?_
        refine lv_iload_n hx hb d_M_layShort_690 rfl (lv_at hl 1 rfl) ?_
        refine lv_bipush (v := 12) hx hb d_M_layShort_691 (by decide) ?_
        refine lv_iconst (v := 1) hx hb d_M_layShort_693 (by decide) ?_
        refine lv_iload_n hx hb d_M_layShort_694 rfl (lv_at hl 1 rfl) ?_
        refine lv_bipush (v := 70) hx hb d_M_layShort_695 (by decide) ?_
        refine lv_icmp_le (tgt := 704) hx hb d_M_layShort_697 (by decide) (fun c_65 => ?_) (fun c_65 => ?_)
        · replace hf := (if_pos c_65).symm.trans hf
          refine lv_iconst (v := 0) hx hb d_M_layShort_704 (by decide) ?_
          exact J705 x1 0 1 12 x1 r_63 _ _ _ hm hP hS (lv_sub hl [0, 1] rfl) hf
        · replace hf := (if_neg c_65).symm.trans hf
          refine lv_iconst (v := 1) hx hb d_M_layShort_700 (by decide) ?_
          refine lv_goto (tgt := 705) hx hb d_M_layShort_701 (by decide) ?_
          exact J705 x1 1 1 12 x1 r_63 _ _ _ hm hP hS (lv_sub hl [0, 1] rfl) hf
  have J486 : ∀ (n486 : Nat) (x1 : Int32) (y_mm : List (List Int32)) (H : Heap) (locs : List Loc) (ls : Array Slot), gw y_mm → va_P (dC, dI) cls2 (wM cI h0 rw pt ou 0 (gg y_mm) (fun _ => 0) (fun _ => 0) 0 0) H → va_S (aM h0 rw pt ou) s.heap H locs → lv_has ls 2 [(0, .ref (h0)), (1, .int (x1))] → f_M_layShort_L486 w_mm  n486 x1 y_mm = some r → wW p l e (headSpec (Cond.code y_M_layShort b_M_layShort 2 (Option.none : Option FieldType) :: aw) ({ frames := 3, cells := 0, slots := 0, locals := 70 } : Room)).room s m ([.ref (h0)] : List Value).toArray below meth c (va_Qv (fun u => u = r ∧ gw u) (fun (u : List (List Int32)) t => va_P (dC, dI) cls2 (wM cI h0 rw pt ou 0 (gg u) (fun _ => 0) (fun _ => 0) 0 0) t.heap) (aM h0 rw pt ou)) (aM h0 rw pt ou) H locs (F0 m 486 ls []) := by
    intro n486
    induction n486 with
    | zero =>
      intro x1 y_mm H locs ls hm hP hS hl hf
      rw [f_M_layShort_L486] at hf
      cases hf
    | succ n486 ih486 =>
      intro x1 y_mm H locs ls hm hP hS hl hf
      rw [f_M_layShort_L486] at hf
      have hD : va_D (aM h0 rw pt ou) (wM cI h0 rw pt ou 0 (gg y_mm) (fun _ => 0) (fun _ => 0) 0 0) := dD hD0 rfl
      have J507 : ∀ (x1 : Int32) (t0 : Int32) (t1 : Int32) (y_mm : List (List Int32)) (H : Heap) (locs : List Loc) (ls : Array Slot), gw y_mm → va_P (dC, dI) cls2 (wM cI h0 rw pt ou 0 (gg y_mm) (fun _ => 0) (fun _ => 0) 0 0) H → va_S (aM h0 rw pt ou) s.heap H locs → lv_has ls 2 [(0, .ref (h0)), (1, .int (x1))] → f_M_layShort_L507 w_mm (fun y0 y1 => f_M_layShort_L486 w_mm  n486 y0 y1) x1 t0 t1 y_mm = some r → wW p l e (headSpec (Cond.code y_M_layShort b_M_layShort 2 (Option.none : Option FieldType) :: aw) ({ frames := 3, cells := 0, slots := 0, locals := 70 } : Room)).room s m ([.ref (h0)] : List Value).toArray below meth c (va_Qv (fun u => u = r ∧ gw u) (fun (u : List (List Int32)) t => va_P (dC, dI) cls2 (wM cI h0 rw pt ou 0 (gg u) (fun _ => 0) (fun _ => 0) 0 0) t.heap) (aM h0 rw pt ou)) (aM h0 rw pt ou) H locs (F0 m 507 ls [.int (t0), .int (t1), .ref (h0)]) := by
        intro x1 t0 t1 y_mm H locs ls hm hP hS hl hf
        rw [f_M_layShort_L507] at hf
        have hD : va_D (aM h0 rw pt ou) (wM cI h0 rw pt ou 0 (gg y_mm) (fun _ => 0) (fun _ => 0) 0 0) := dD hD0 rfl
        refine lv_iconst (v := 1) hx hb d_M_layShort_507 (by decide) ?_
        obtain ⟨r_81, g_82, hf⟩ := Option.bind_eq_some_iff.mp hf
        refine va_callv (va_runV (As := [.int (t1), .int (t0), .int (1)]) (rest := []) ⟨hx, hb, hml, hown, hts⟩ (c_M_ends l (ad := ad) (sk := sk) (sv := sv) (tK := tK) dC dI cI h0 rw pt ou y_mm hm t1 t0 1  r_81 g_82) (cwV 3 hts (aw_V aw_427 aw_429 aw_p20 aw_2 aw_430) rfl rfl rfl (by decide +kernel) ⟨Nat.le_of_ble_eq_true rfl, Nat.le_of_ble_eq_true rfl⟩) ⟨wBlind, va_recv hK hP (ci := 1) (q0 := 0) rfl rfl, fun U hU hW => ⟨rfl, by rw [hU]; exact hP, va_K.moved hW.alike hK, hD, hT.at hS hU hW (fun _ z => z)⟩⟩ rfl rfl hl.1 rfl (lv_room (Nat.le_of_ble_eq_true rfl)) d_M_layShort_508 ⟨Nat.le_refl _, Nat.le_refl _⟩) hS (fun _ _ h => h) (fun _ h => h) (fun u t H1 locs ht1 hvm hw hB hz1 hk1 hS => ?_)
        obtain ⟨hw, hm⟩ := hw
        rw [hw] at hB hm
        rw [ht1] at hB
        have hP : va_P (dC, dI) cls2 (wM cI h0 rw pt ou 0 (gg r_81) (fun _ => 0) (fun _ => 0) 0 0) H1 := hB
        have hD : va_D (aM h0 rw pt ou) (wM cI h0 rw pt ou 0 (gg r_81) (fun _ => 0) (fun _ => 0) 0 0) := dD hD0 rfl
        refine lv_aload_n hx hb d_M_layShort_511 rfl (lv_at hl 0 rfl) ?_
        refine lv_iload_n hx hb d_M_layShort_512 rfl (lv_at hl 1 rfl) ?_
        refine lv_bipush (v := 12) hx hb d_M_layShort_513 (by decide) ?_
        refine lv_bipush (v := 8) hx hb d_M_layShort_515 (by decide) ?_
        obtain ⟨r_83, g_84, hf⟩ := Option.bind_eq_some_iff.mp hf
        refine va_callv (va_runV (As := [.int (x1), .int (12), .int (8)]) (rest := []) ⟨hx, hb, hml, hown, hts⟩ (c_M_one l (ad := ad) (sk := sk) (sv := sv) (tK := tK) dC dI cI h0 rw pt ou r_81 hm x1 12 8  r_83 g_84) (cwV 3 hts (aw_V aw_431 aw_433 aw_p21 aw_2 aw_434) rfl rfl rfl (by decide +kernel) ⟨Nat.le_of_ble_eq_true rfl, Nat.le_of_ble_eq_true rfl⟩) ⟨wBlind, va_recv hK hP (ci := 1) (q0 := 0) rfl rfl, fun U hU hW => ⟨rfl, by rw [hU]; exact hP, va_K.moved hW.alike hK, hD, hT.at hS hU hW (fun _ z => z)⟩⟩ rfl rfl hl.1 rfl (lv_room (Nat.le_of_ble_eq_true rfl)) d_M_layShort_517 ⟨Nat.le_refl _, Nat.le_refl _⟩) hS (fun _ _ h => h) (fun _ h => h) (fun u t H1 locs ht1 hvm hw hB hz1 hk1 hS => ?_)
        obtain ⟨hw, hm⟩ := hw
        rw [hw] at hB hm
        rw [ht1] at hB
        have hP : va_P (dC, dI) cls2 (wM cI h0 rw pt ou 0 (gg r_83) (fun _ => 0) (fun _ => 0) 0 0) H1 := hB
        have hD : va_D (aM h0 rw pt ou) (wM cI h0 rw pt ou 0 (gg r_83) (fun _ => 0) (fun _ => 0) 0 0) := dD hD0 rfl
        refine lv_aload_n hx hb d_M_layShort_520 rfl (lv_at hl 0 rfl) ?_
        refine lv_iload_n hx hb d_M_layShort_521 rfl (lv_at hl 1 rfl) ?_
        refine lv_bipush (v := 11) hx hb d_M_layShort_522 (by decide) ?_
        refine lv_bipush (v := 10) hx hb d_M_layShort_524 (by decide) ?_
        refine lv_sipush (v := 400) hx hb d_M_layShort_526 (by decide) ?_
        refine lv_iconst (v := 4) hx hb d_M_layShort_529 (by decide) ?_
        obtain ⟨r_85, g_86, hf⟩ := Option.bind_eq_some_iff.mp hf
        refine va_callv (va_runV (As := [.int (x1), .int (11), .int (10), .int (400), .int (4)]) (rest := []) ⟨hx, hb, hml, hown, hts⟩ (c_M_lay l (ad := ad) (sk := sk) (sv := sv) (tK := tK) dC dI cI h0 rw pt ou r_83 hm x1 11 10 400 4  r_85 g_86) (cwV 5 hts (aw_V aw_404 aw_406 aw_p18 aw_2 aw_407) rfl rfl rfl (by decide +kernel) ⟨Nat.le_of_ble_eq_true rfl, Nat.le_of_ble_eq_true rfl⟩) ⟨wBlind, va_recv hK hP (ci := 1) (q0 := 0) rfl rfl, fun U hU hW => ⟨rfl, by rw [hU]; exact hP, va_K.moved hW.alike hK, hD, hT.at hS hU hW (fun _ z => z)⟩⟩ rfl rfl hl.1 rfl (lv_room (Nat.le_of_ble_eq_true rfl)) d_M_layShort_530 ⟨Nat.le_refl _, Nat.le_refl _⟩) hS (fun _ _ h => h) (fun _ h => h) (fun u t H1 locs ht1 hvm hw hB hz1 hk1 hS => ?_)
        obtain ⟨hw, hm⟩ := hw
        rw [hw] at hB hm
        rw [ht1] at hB
        have hP : va_P (dC, dI) cls2 (wM cI h0 rw pt ou 0 (gg r_85) (fun _ => 0) (fun _ => 0) 0 0) H1 := hB
        have hD : va_D (aM h0 rw pt ou) (wM cI h0 rw pt ou 0 (gg r_85) (fun _ => 0) (fun _ => 0) 0 0) := dD hD0 rfl
        refine lv_aload_n hx hb d_M_layShort_533 rfl (lv_at hl 0 rfl) ?_
        refine lv_iload_n hx hb d_M_layShort_534 rfl (lv_at hl 1 rfl) ?_
        refine lv_bipush (v := 9) hx hb d_M_layShort_535 (by decide) ?_
        refine lv_bipush (v := 7) hx hb d_M_layShort_537 (by decide) ?_
        refine lv_sipush (v := 600) hx hb d_M_layShort_539 (by decide) ?_
        refine lv_iconst (v := 2) hx hb d_M_layShort_542 (by decide) ?_
        obtain ⟨r_87, g_88, hf⟩ := Option.bind_eq_some_iff.mp hf
        refine va_callv (va_runV (As := [.int (x1), .int (9), .int (7), .int (600), .int (2)]) (rest := []) ⟨hx, hb, hml, hown, hts⟩ (c_M_lay l (ad := ad) (sk := sk) (sv := sv) (tK := tK) dC dI cI h0 rw pt ou r_85 hm x1 9 7 600 2  r_87 g_88) (cwV 5 hts (aw_V aw_404 aw_406 aw_p18 aw_2 aw_407) rfl rfl rfl (by decide +kernel) ⟨Nat.le_of_ble_eq_true rfl, Nat.le_of_ble_eq_true rfl⟩) ⟨wBlind, va_recv hK hP (ci := 1) (q0 := 0) rfl rfl, fun U hU hW => ⟨rfl, by rw [hU]; exact hP, va_K.moved hW.alike hK, hD, hT.at hS hU hW (fun _ z => z)⟩⟩ rfl rfl hl.1 rfl (lv_room (Nat.le_of_ble_eq_true rfl)) d_M_layShort_543 ⟨Nat.le_refl _, Nat.le_refl _⟩) hS (fun _ _ h => h) (fun _ h => h) (fun u t H1 locs ht1 hvm hw hB hz1 hk1 hS => ?_)
        obtain ⟨hw, hm⟩ := hw
        rw [hw] at hB hm
        rw [ht1] at hB
        have hP : va_P (dC, dI) cls2 (wM cI h0 rw pt ou 0 (gg r_87) (fun _ => 0) (fun _ => 0) 0 0) H1 := hB
        have hD : va_D (aM h0 rw pt ou) (wM cI h0 rw pt ou 0 (gg r_87) (fun _ => 0) (fun _ => 0) 0 0) := dD hD0 rfl
        refine lv_aload_n hx hb d_M_layShort_546 rfl (lv_at hl 0 rfl) ?_
        refine lv_iload_n hx hb d_M_layShort_547 rfl (lv_at hl 1 rfl) ?_
        refine lv_bipush (v := 6) hx hb d_M_layShort_548 (by decide) ?_
        refine lv_iconst (v := 5) hx hb d_M_layShort_550 (by decide) ?_
        refine lv_sipush (v := 400) hx hb d_M_layShort_551 (by decide) ?_
        refine lv_bipush (v := 7) hx hb d_M_layShort_554 (by decide) ?_
        obtain ⟨r_89, g_90, hf⟩ := Option.bind_eq_some_iff.mp hf
        refine va_callv (va_runV (As := [.int (x1), .int (6), .int (5), .int (400), .int (7)]) (rest := []) ⟨hx, hb, hml, hown, hts⟩ (c_M_lay l (ad := ad) (sk := sk) (sv := sv) (tK := tK) dC dI cI h0 rw pt ou r_87 hm x1 6 5 400 7  r_89 g_90) (cwV 5 hts (aw_V aw_404 aw_406 aw_p18 aw_2 aw_407) rfl rfl rfl (by decide +kernel) ⟨Nat.le_of_ble_eq_true rfl, Nat.le_of_ble_eq_true rfl⟩) ⟨wBlind, va_recv hK hP (ci := 1) (q0 := 0) rfl rfl, fun U hU hW => ⟨rfl, by rw [hU]; exact hP, va_K.moved hW.alike hK, hD, hT.at hS hU hW (fun _ z => z)⟩⟩ rfl rfl hl.1 rfl (lv_room (Nat.le_of_ble_eq_true rfl)) d_M_layShort_556 ⟨Nat.le_refl _, Nat.le_refl _⟩) hS (fun _ _ h => h) (fun _ h => h) (fun u t H1 locs ht1 hvm hw hB hz1 hk1 hS => ?_)
        obtain ⟨hw, hm⟩ := hw
        rw [hw] at hB hm
        rw [ht1] at hB
        have hP : va_P (dC, dI) cls2 (wM cI h0 rw pt ou 0 (gg r_89) (fun _ => 0) (fun _ => 0) 0 0) H1 := hB
        have hD : va_D (aM h0 rw pt ou) (wM cI h0 rw pt ou 0 (gg r_89) (fun _ => 0) (fun _ => 0) 0 0) := dD hD0 rfl
        refine lv_aload_n hx hb d_M_layShort_559 rfl (lv_at hl 0 rfl) ?_
        refine lv_iload_n hx hb d_M_layShort_560 rfl (lv_at hl 1 rfl) ?_
        refine lv_iconst (v := 4) hx hb d_M_layShort_561 (by decide) ?_
        refine lv_iconst (v := 3) hx hb d_M_layShort_562 (by decide) ?_
        refine lv_sipush (v := 400) hx hb d_M_layShort_563 (by decide) ?_
        refine lv_iconst (v := 2) hx hb d_M_layShort_566 (by decide) ?_
        obtain ⟨r_91, g_92, hf⟩ := Option.bind_eq_some_iff.mp hf
        refine va_callv (va_runV (As := [.int (x1), .int (4), .int (3), .int (400), .int (2)]) (rest := []) ⟨hx, hb, hml, hown, hts⟩ (c_M_lay l (ad := ad) (sk := sk) (sv := sv) (tK := tK) dC dI cI h0 rw pt ou r_89 hm x1 4 3 400 2  r_91 g_92) (cwV 5 hts (aw_V aw_404 aw_406 aw_p18 aw_2 aw_407) rfl rfl rfl (by decide +kernel) ⟨Nat.le_of_ble_eq_true rfl, Nat.le_of_ble_eq_true rfl⟩) ⟨wBlind, va_recv hK hP (ci := 1) (q0 := 0) rfl rfl, fun U hU hW => ⟨rfl, by rw [hU]; exact hP, va_K.moved hW.alike hK, hD, hT.at hS hU hW (fun _ z => z)⟩⟩ rfl rfl hl.1 rfl (lv_room (Nat.le_of_ble_eq_true rfl)) d_M_layShort_567 ⟨Nat.le_refl _, Nat.le_refl _⟩) hS (fun _ _ h => h) (fun _ h => h) (fun u t H1 locs ht1 hvm hw hB hz1 hk1 hS => ?_)
        obtain ⟨hw, hm⟩ := hw
        rw [hw] at hB hm
        rw [ht1] at hB
        have hP : va_P (dC, dI) cls2 (wM cI h0 rw pt ou 0 (gg r_91) (fun _ => 0) (fun _ => 0) 0 0) H1 := hB
        have hD : va_D (aM h0 rw pt ou) (wM cI h0 rw pt ou 0 (gg r_91) (fun _ => 0) (fun _ => 0) 0 0) := dD hD0 rfl
        refine lv_aload_n hx hb d_M_layShort_570 rfl (lv_at hl 0 rfl) ?_
        refine lv_iload_n hx hb d_M_layShort_571 rfl (lv_at hl 1 rfl) ?_
        refine lv_iconst (v := 2) hx hb d_M_layShort_572 (by decide) ?_
        refine lv_iconst (v := 5) hx hb d_M_layShort_573 (by decide) ?_
        obtain ⟨r_93, g_94, hf⟩ := Option.bind_eq_some_iff.mp hf
        refine va_callv (va_runV (As := [.int (x1), .int (2), .int (5)]) (rest := []) ⟨hx, hb, hml, hown, hts⟩ (c_M_one l (ad := ad) (sk := sk) (sv := sv) (tK := tK) dC dI cI h0 rw pt ou r_91 hm x1 2 5  r_93 g_94) (cwV 3 hts (aw_V aw_431 aw_433 aw_p21 aw_2 aw_434) rfl rfl rfl (by decide +kernel) ⟨Nat.le_of_ble_eq_true rfl, Nat.le_of_ble_eq_true rfl⟩) ⟨wBlind, va_recv hK hP (ci := 1) (q0 := 0) rfl rfl, fun U hU hW => ⟨rfl, by rw [hU]; exact hP, va_K.moved hW.alike hK, hD, hT.at hS hU hW (fun _ z => z)⟩⟩ rfl rfl hl.1 rfl (lv_room (Nat.le_of_ble_eq_true rfl)) d_M_layShort_574 ⟨Nat.le_refl _, Nat.le_refl _⟩) hS (fun _ _ h => h) (fun _ h => h) (fun u t H1 locs ht1 hvm hw hB hz1 hk1 hS => ?_)
        obtain ⟨hw, hm⟩ := hw
        rw [hw] at hB hm
        rw [ht1] at hB
        have hP : va_P (dC, dI) cls2 (wM cI h0 rw pt ou 0 (gg r_93) (fun _ => 0) (fun _ => 0) 0 0) H1 := hB
        have hD : va_D (aM h0 rw pt ou) (wM cI h0 rw pt ou 0 (gg r_93) (fun _ => 0) (fun _ => 0) 0 0) := dD hD0 rfl
        refine lv_iinc (v := x1 + 1) (lv' := [(1, .int (x1 + 1)), (0, .ref (h0))]) hx hb d_M_layShort_577 hl (k := 1) rfl rfl (by decide) rfl (fun ls hl => ?_)
        refine lv_goto (tgt := 486) hx hb d_M_layShort_580 (by decide) ?_
        exact ih486 (x1 + 1) r_93 _ _ _ hm hP hS (lv_sub hl [1, 0] rfl) hf
      refine lv_iload_n hx hb d_M_layShort_486 rfl (lv_at hl 1 rfl) ?_
      refine lv_bipush (v := 67) hx hb d_M_layShort_487 (by decide) ?_
      refine lv_icmp_ge (tgt := 583) hx hb d_M_layShort_489 (by decide) (fun c_37 => ?_) (fun c_37 => ?_)
      · replace hf := (if_pos c_37).symm.trans hf
        refine lv_aload_n hx hb d_M_layShort_583 rfl (lv_at hl 0 rfl) ?_
        refine lv_bipush (v := 67) hx hb d_M_layShort_584 (by decide) ?_
        refine lv_iconst (v := 0) hx hb d_M_layShort_586 (by decide) ?_
        refine lv_iconst (v := 2) hx hb d_M_layShort_587 (by decide) ?_
        obtain ⟨r_38, g_39, hf⟩ := Option.bind_eq_some_iff.mp hf
        refine va_callv (va_runV (As := [.int (67), .int (0), .int (2)]) (rest := []) ⟨hx, hb, hml, hown, hts⟩ (c_M_ends l (ad := ad) (sk := sk) (sv := sv) (tK := tK) dC dI cI h0 rw pt ou y_mm hm 67 0 2  r_38 g_39) (cwV 3 hts (aw_V aw_427 aw_429 aw_p20 aw_2 aw_430) rfl rfl rfl (by decide +kernel) ⟨Nat.le_of_ble_eq_true rfl, Nat.le_of_ble_eq_true rfl⟩) ⟨wBlind, va_recv hK hP (ci := 1) (q0 := 0) rfl rfl, fun U hU hW => ⟨rfl, by rw [hU]; exact hP, va_K.moved hW.alike hK, hD, hT.at hS hU hW (fun _ z => z)⟩⟩ rfl rfl hl.1 rfl (lv_room (Nat.le_of_ble_eq_true rfl)) d_M_layShort_588 ⟨Nat.le_refl _, Nat.le_refl _⟩) hS (fun _ _ h => h) (fun _ h => h) (fun u t H1 locs ht1 hvm hw hB hz1 hk1 hS => ?_)
        obtain ⟨hw, hm⟩ := hw
        rw [hw] at hB hm
        rw [ht1] at hB
        have hP : va_P (dC, dI) cls2 (wM cI h0 rw pt ou 0 (gg r_38) (fun _ => 0) (fun _ => 0) 0 0) H1 := hB
        have hD : va_D (aM h0 rw pt ou) (wM cI h0 rw pt ou 0 (gg r_38) (fun _ => 0) (fun _ => 0) 0 0) := dD hD0 rfl
        refine lv_aload_n hx hb d_M_layShort_591 rfl (lv_at hl 0 rfl) ?_
        refine lv_bipush (v := 67) hx hb d_M_layShort_592 (by decide) ?_
        refine lv_bipush (v := 11) hx hb d_M_layShort_594 (by decide) ?_
        refine lv_bipush (v := 7) hx hb d_M_layShort_596 (by decide) ?_
        refine lv_bipush (v := 100) hx hb d_M_layShort_598 (by decide) ?_
        refine lv_iconst (v := 4) hx hb d_M_layShort_600 (by decide) ?_
        obtain ⟨r_40, g_41, hf⟩ := Option.bind_eq_some_iff.mp hf
        refine va_callv (va_runV (As := [.int (67), .int (11), .int (7), .int (100), .int (4)]) (rest := []) ⟨hx, hb, hml, hown, hts⟩ (c_M_lay l (ad := ad) (sk := sk) (sv := sv) (tK := tK) dC dI cI h0 rw pt ou r_38 hm 67 11 7 100 4  r_40 g_41) (cwV 5 hts (aw_V aw_404 aw_406 aw_p18 aw_2 aw_407) rfl rfl rfl (by decide +kernel) ⟨Nat.le_of_ble_eq_true rfl, Nat.le_of_ble_eq_true rfl⟩) ⟨wBlind, va_recv hK hP (ci := 1) (q0 := 0) rfl rfl, fun U hU hW => ⟨rfl, by rw [hU]; exact hP, va_K.moved hW.alike hK, hD, hT.at hS hU hW (fun _ z => z)⟩⟩ rfl rfl hl.1 rfl (lv_room (Nat.le_of_ble_eq_true rfl)) d_M_layShort_601 ⟨Nat.le_refl _, Nat.le_refl _⟩) hS (fun _ _ h => h) (fun _ h => h) (fun u t H1 locs ht1 hvm hw hB hz1 hk1 hS => ?_)
        obtain ⟨hw, hm⟩ := hw
        rw [hw] at hB hm
        rw [ht1] at hB
        have hP : va_P (dC, dI) cls2 (wM cI h0 rw pt ou 0 (gg r_40) (fun _ => 0) (fun _ => 0) 0 0) H1 := hB
        have hD : va_D (aM h0 rw pt ou) (wM cI h0 rw pt ou 0 (gg r_40) (fun _ => 0) (fun _ => 0) 0 0) := dD hD0 rfl
        refine lv_aload_n hx hb d_M_layShort_604 rfl (lv_at hl 0 rfl) ?_
        refine lv_bipush (v := 67) hx hb d_M_layShort_605 (by decide) ?_
        refine lv_bipush (v := 6) hx hb d_M_layShort_607 (by decide) ?_
        refine lv_iconst (v := 2) hx hb d_M_layShort_609 (by decide) ?_
        refine lv_sipush (v := 400) hx hb d_M_layShort_610 (by decide) ?_
        refine lv_iconst (v := 4) hx hb d_M_layShort_613 (by decide) ?_
        obtain ⟨r_42, g_43, hf⟩ := Option.bind_eq_some_iff.mp hf
        refine va_callv (va_runV (As := [.int (67), .int (6), .int (2), .int (400), .int (4)]) (rest := []) ⟨hx, hb, hml, hown, hts⟩ (c_M_lay l (ad := ad) (sk := sk) (sv := sv) (tK := tK) dC dI cI h0 rw pt ou r_40 hm 67 6 2 400 4  r_42 g_43) (cwV 5 hts (aw_V aw_404 aw_406 aw_p18 aw_2 aw_407) rfl rfl rfl (by decide +kernel) ⟨Nat.le_of_ble_eq_true rfl, Nat.le_of_ble_eq_true rfl⟩) ⟨wBlind, va_recv hK hP (ci := 1) (q0 := 0) rfl rfl, fun U hU hW => ⟨rfl, by rw [hU]; exact hP, va_K.moved hW.alike hK, hD, hT.at hS hU hW (fun _ z => z)⟩⟩ rfl rfl hl.1 rfl (lv_room (Nat.le_of_ble_eq_true rfl)) d_M_layShort_614 ⟨Nat.le_refl _, Nat.le_refl _⟩) hS (fun _ _ h => h) (fun _ h => h) (fun u t H1 locs ht1 hvm hw hB hz1 hk1 hS => ?_)
        obtain ⟨hw, hm⟩ := hw
        rw [hw] at hB hm
        rw [ht1] at hB
        have hP : va_P (dC, dI) cls2 (wM cI h0 rw pt ou 0 (gg r_42) (fun _ => 0) (fun _ => 0) 0 0) H1 := hB
        have hD : va_D (aM h0 rw pt ou) (wM cI h0 rw pt ou 0 (gg r_42) (fun _ => 0) (fun _ => 0) 0 0) := dD hD0 rfl
        refine lv_aload_n hx hb d_M_layShort_617 rfl (lv_at hl 0 rfl) ?_
        refine lv_bipush (v := 68) hx hb d_M_layShort_618 (by decide) ?_
        refine lv_iconst (v := 2) hx hb d_M_layShort_620 (by decide) ?_
        refine lv_iconst (v := 2) hx hb d_M_layShort_621 (by decide) ?_
        obtain ⟨r_44, g_45, hf⟩ := Option.bind_eq_some_iff.mp hf
        refine va_callv (va_runV (As := [.int (68), .int (2), .int (2)]) (rest := []) ⟨hx, hb, hml, hown, hts⟩ (c_M_ends l (ad := ad) (sk := sk) (sv := sv) (tK := tK) dC dI cI h0 rw pt ou r_42 hm 68 2 2  r_44 g_45) (cwV 3 hts (aw_V aw_427 aw_429 aw_p20 aw_2 aw_430) rfl rfl rfl (by decide +kernel) ⟨Nat.le_of_ble_eq_true rfl, Nat.le_of_ble_eq_true rfl⟩) ⟨wBlind, va_recv hK hP (ci := 1) (q0 := 0) rfl rfl, fun U hU hW => ⟨rfl, by rw [hU]; exact hP, va_K.moved hW.alike hK, hD, hT.at hS hU hW (fun _ z => z)⟩⟩ rfl rfl hl.1 rfl (lv_room (Nat.le_of_ble_eq_true rfl)) d_M_layShort_622 ⟨Nat.le_refl _, Nat.le_refl _⟩) hS (fun _ _ h => h) (fun _ h => h) (fun u t H1 locs ht1 hvm hw hB hz1 hk1 hS => ?_)
        obtain ⟨hw, hm⟩ := hw
        rw [hw] at hB hm
        rw [ht1] at hB
        have hP : va_P (dC, dI) cls2 (wM cI h0 rw pt ou 0 (gg r_44) (fun _ => 0) (fun _ => 0) 0 0) H1 := hB
        have hD : va_D (aM h0 rw pt ou) (wM cI h0 rw pt ou 0 (gg r_44) (fun _ => 0) (fun _ => 0) 0 0) := dD hD0 rfl
        refine lv_aload_n hx hb d_M_layShort_625 rfl (lv_at hl 0 rfl) ?_
        refine lv_bipush (v := 68) hx hb d_M_layShort_626 (by decide) ?_
        refine lv_bipush (v := 12) hx hb d_M_layShort_628 (by decide) ?_
        refine lv_iconst (v := 5) hx hb d_M_layShort_630 (by decide) ?_
        obtain ⟨r_46, g_47, hf⟩ := Option.bind_eq_some_iff.mp hf
        refine va_callv (va_runV (As := [.int (68), .int (12), .int (5)]) (rest := []) ⟨hx, hb, hml, hown, hts⟩ (c_M_one l (ad := ad) (sk := sk) (sv := sv) (tK := tK) dC dI cI h0 rw pt ou r_44 hm 68 12 5  r_46 g_47) (cwV 3 hts (aw_V aw_431 aw_433 aw_p21 aw_2 aw_434) rfl rfl rfl (by decide +kernel) ⟨Nat.le_of_ble_eq_true rfl, Nat.le_of_ble_eq_true rfl⟩) ⟨wBlind, va_recv hK hP (ci := 1) (q0 := 0) rfl rfl, fun U hU hW => ⟨rfl, by rw [hU]; exact hP, va_K.moved hW.alike hK, hD, hT.at hS hU hW (fun _ z => z)⟩⟩ rfl rfl hl.1 rfl (lv_room (Nat.le_of_ble_eq_true rfl)) d_M_layShort_631 ⟨Nat.le_refl _, Nat.le_refl _⟩) hS (fun _ _ h => h) (fun _ h => h) (fun u t H1 locs ht1 hvm hw hB hz1 hk1 hS => ?_)
        obtain ⟨hw, hm⟩ := hw
        rw [hw] at hB hm
        rw [ht1] at hB
        have hP : va_P (dC, dI) cls2 (wM cI h0 rw pt ou 0 (gg r_46) (fun _ => 0) (fun _ => 0) 0 0) H1 := hB
        have hD : va_D (aM h0 rw pt ou) (wM cI h0 rw pt ou 0 (gg r_46) (fun _ => 0) (fun _ => 0) 0 0) := dD hD0 rfl
        refine lv_aload_n hx hb d_M_layShort_634 rfl (lv_at hl 0 rfl) ?_
        refine lv_bipush (v := 68) hx hb d_M_layShort_635 (by decide) ?_
        refine lv_bipush (v := 11) hx hb d_M_layShort_637 (by decide) ?_
        refine lv_bipush (v := 7) hx hb d_M_layShort_639 (by decide) ?_
        refine lv_bipush (v := 100) hx hb d_M_layShort_641 (by decide) ?_
        refine lv_iconst (v := 4) hx hb d_M_layShort_643 (by decide) ?_
        obtain ⟨r_48, g_49, hf⟩ := Option.bind_eq_some_iff.mp hf
        refine va_callv (va_runV (As := [.int (68), .int (11), .int (7), .int (100), .int (4)]) (rest := []) ⟨hx, hb, hml, hown, hts⟩ (c_M_lay l (ad := ad) (sk := sk) (sv := sv) (tK := tK) dC dI cI h0 rw pt ou r_46 hm 68 11 7 100 4  r_48 g_49) (cwV 5 hts (aw_V aw_404 aw_406 aw_p18 aw_2 aw_407) rfl rfl rfl (by decide +kernel) ⟨Nat.le_of_ble_eq_true rfl, Nat.le_of_ble_eq_true rfl⟩) ⟨wBlind, va_recv hK hP (ci := 1) (q0 := 0) rfl rfl, fun U hU hW => ⟨rfl, by rw [hU]; exact hP, va_K.moved hW.alike hK, hD, hT.at hS hU hW (fun _ z => z)⟩⟩ rfl rfl hl.1 rfl (lv_room (Nat.le_of_ble_eq_true rfl)) d_M_layShort_644 ⟨Nat.le_refl _, Nat.le_refl _⟩) hS (fun _ _ h => h) (fun _ h => h) (fun u t H1 locs ht1 hvm hw hB hz1 hk1 hS => ?_)
        obtain ⟨hw, hm⟩ := hw
        rw [hw] at hB hm
        rw [ht1] at hB
        have hP : va_P (dC, dI) cls2 (wM cI h0 rw pt ou 0 (gg r_48) (fun _ => 0) (fun _ => 0) 0 0) H1 := hB
        have hD : va_D (aM h0 rw pt ou) (wM cI h0 rw pt ou 0 (gg r_48) (fun _ => 0) (fun _ => 0) 0 0) := dD hD0 rfl
        refine lv_aload_n hx hb d_M_layShort_647 rfl (lv_at hl 0 rfl) ?_
        refine lv_bipush (v := 68) hx hb d_M_layShort_648 (by decide) ?_
        refine lv_bipush (v := 6) hx hb d_M_layShort_650 (by decide) ?_
        refine lv_iconst (v := 4) hx hb d_M_layShort_652 (by decide) ?_
        refine lv_sipush (v := 400) hx hb d_M_layShort_653 (by decide) ?_
        refine lv_iconst (v := 4) hx hb d_M_layShort_656 (by decide) ?_
        obtain ⟨r_50, g_51, hf⟩ := Option.bind_eq_some_iff.mp hf
        refine va_callv (va_runV (As := [.int (68), .int (6), .int (4), .int (400), .int (4)]) (rest := []) ⟨hx, hb, hml, hown, hts⟩ (c_M_lay l (ad := ad) (sk := sk) (sv := sv) (tK := tK) dC dI cI h0 rw pt ou r_48 hm 68 6 4 400 4  r_50 g_51) (cwV 5 hts (aw_V aw_404 aw_406 aw_p18 aw_2 aw_407) rfl rfl rfl (by decide +kernel) ⟨Nat.le_of_ble_eq_true rfl, Nat.le_of_ble_eq_true rfl⟩) ⟨wBlind, va_recv hK hP (ci := 1) (q0 := 0) rfl rfl, fun U hU hW => ⟨rfl, by rw [hU]; exact hP, va_K.moved hW.alike hK, hD, hT.at hS hU hW (fun _ z => z)⟩⟩ rfl rfl hl.1 rfl (lv_room (Nat.le_of_ble_eq_true rfl)) d_M_layShort_657 ⟨Nat.le_refl _, Nat.le_refl _⟩) hS (fun _ _ h => h) (fun _ h => h) (fun u t H1 locs ht1 hvm hw hB hz1 hk1 hS => ?_)
        obtain ⟨hw, hm⟩ := hw
        rw [hw] at hB hm
        rw [ht1] at hB
        have hP : va_P (dC, dI) cls2 (wM cI h0 rw pt ou 0 (gg r_50) (fun _ => 0) (fun _ => 0) 0 0) H1 := hB
        have hD : va_D (aM h0 rw pt ou) (wM cI h0 rw pt ou 0 (gg r_50) (fun _ => 0) (fun _ => 0) 0 0) := dD hD0 rfl
        refine lv_aload_n hx hb d_M_layShort_660 rfl (lv_at hl 0 rfl) ?_
        refine lv_bipush (v := 68) hx hb d_M_layShort_661 (by decide) ?_
        refine lv_iconst (v := 3) hx hb d_M_layShort_663 (by decide) ?_
        refine lv_iconst (v := 2) hx hb d_M_layShort_664 (by decide) ?_
        refine lv_sipush (v := 400) hx hb d_M_layShort_665 (by decide) ?_
        refine lv_bipush (v := 7) hx hb d_M_layShort_668 (by decide) ?_
        obtain ⟨r_52, g_53, hf⟩ := Option.bind_eq_some_iff.mp hf
        refine va_callv (va_runV (As := [.int (68), .int (3), .int (2), .int (400), .int (7)]) (rest := []) ⟨hx, hb, hml, hown, hts⟩ (c_M_lay l (ad := ad) (sk := sk) (sv := sv) (tK := tK) dC dI cI h0 rw pt ou r_50 hm 68 3 2 400 7  r_52 g_53) (cwV 5 hts (aw_V aw_404 aw_406 aw_p18 aw_2 aw_407) rfl rfl rfl (by decide +kernel) ⟨Nat.le_of_ble_eq_true rfl, Nat.le_of_ble_eq_true rfl⟩) ⟨wBlind, va_recv hK hP (ci := 1) (q0 := 0) rfl rfl, fun U hU hW => ⟨rfl, by rw [hU]; exact hP, va_K.moved hW.alike hK, hD, hT.at hS hU hW (fun _ z => z)⟩⟩ rfl rfl hl.1 rfl (lv_room (Nat.le_of_ble_eq_true rfl)) d_M_layShort_670 ⟨Nat.le_refl _, Nat.le_refl _⟩) hS (fun _ _ h => h) (fun _ h => h) (fun u t H1 locs ht1 hvm hw hB hz1 hk1 hS => ?_)
        obtain ⟨hw, hm⟩ := hw
        rw [hw] at hB hm
        rw [ht1] at hB
        have hP : va_P (dC, dI) cls2 (wM cI h0 rw pt ou 0 (gg r_52) (fun _ => 0) (fun _ => 0) 0 0) H1 := hB
        have hD : va_D (aM h0 rw pt ou) (wM cI h0 rw pt ou 0 (gg r_52) (fun _ => 0) (fun _ => 0) 0 0) := dD hD0 rfl
        refine lv_bipush (v := 69) hx hb d_M_layShort_673 (by decide) ?_
        refine lv_istore_n (lv' := [(1, .int (69)), (0, .ref (h0))]) hx hb d_M_layShort_675 rfl hl (by decide) rfl (fun ls hl => ?_)
        exact J676 80 69 r_52 _ _ _ hm hP hS (lv_sub hl [1, 0] rfl) hf
      · replace hf := (if_neg c_37).symm.trans hf
        refine lv_aload_n hx hb d_M_layShort_492 rfl (lv_at hl 0 rfl) ?_
        refine lv_iload_n hx hb d_M_layShort_493 rfl (lv_at hl 1 rfl) ?_
        refine lv_iload_n hx hb d_M_layShort_494 rfl (lv_at hl 1 rfl) ?_
        refine lv_bipush (v := 65) hx hb d_M_layShort_495 (by decide) ?_
        refine lv_icmp_ne (tgt := 505) hx hb d_M_layShort_497 (by decide) (fun c_80 => ?_) (fun c_80 => ?_)
        · replace hf := (if_neg c_80).symm.trans hf
          refine lv_bipush (v := 7) hx hb d_M_layShort_505 (by decide) ?_
          exact J507 x1 7 x1 y_mm _ _ _ hm hP hS (lv_sub hl [0, 1] rfl) hf
        · replace hf := (if_pos c_80).symm.trans hf
          refine lv_bipush (v := 6) hx hb d_M_layShort_500 (by decide) ?_
          refine lv_goto (tgt := 507) hx hb d_M_layShort_502 (by decide) ?_
          exact J507 x1 6 x1 y_mm _ _ _ hm hP hS (lv_sub hl [0, 1] rfl) hf
  have J420 : ∀ (n420 : Nat) (x1 : Int32) (y_mm : List (List Int32)) (H : Heap) (locs : List Loc) (ls : Array Slot), gw y_mm → va_P (dC, dI) cls2 (wM cI h0 rw pt ou 0 (gg y_mm) (fun _ => 0) (fun _ => 0) 0 0) H → va_S (aM h0 rw pt ou) s.heap H locs → lv_has ls 2 [(0, .ref (h0)), (1, .int (x1))] → f_M_layShort_L420 w_mm  n420 x1 y_mm = some r → wW p l e (headSpec (Cond.code y_M_layShort b_M_layShort 2 (Option.none : Option FieldType) :: aw) ({ frames := 3, cells := 0, slots := 0, locals := 70 } : Room)).room s m ([.ref (h0)] : List Value).toArray below meth c (va_Qv (fun u => u = r ∧ gw u) (fun (u : List (List Int32)) t => va_P (dC, dI) cls2 (wM cI h0 rw pt ou 0 (gg u) (fun _ => 0) (fun _ => 0) 0 0) t.heap) (aM h0 rw pt ou)) (aM h0 rw pt ou) H locs (F0 m 420 ls []) := by
    intro n420
    induction n420 with
    | zero =>
      intro x1 y_mm H locs ls hm hP hS hl hf
      rw [f_M_layShort_L420] at hf
      cases hf
    | succ n420 ih420 =>
      intro x1 y_mm H locs ls hm hP hS hl hf
      rw [f_M_layShort_L420] at hf
      have hD : va_D (aM h0 rw pt ou) (wM cI h0 rw pt ou 0 (gg y_mm) (fun _ => 0) (fun _ => 0) 0 0) := dD hD0 rfl
      refine lv_iload_n hx hb d_M_layShort_420 rfl (lv_at hl 1 rfl) ?_
      refine lv_bipush (v := 64) hx hb d_M_layShort_421 (by decide) ?_
      refine lv_icmp_ge (tgt := 483) hx hb d_M_layShort_423 (by decide) (fun c_36 => ?_) (fun c_36 => ?_)
      · replace hf := (if_pos c_36).symm.trans hf
        refine lv_bipush (v := 65) hx hb d_M_layShort_483 (by decide) ?_
        refine lv_istore_n (lv' := [(1, .int (65)), (0, .ref (h0))]) hx hb d_M_layShort_485 rfl hl (by decide) rfl (fun ls hl => ?_)
        exact J486 80 65 y_mm _ _ _ hm hP hS (lv_sub hl [1, 0] rfl) hf
      · replace hf := (if_neg c_36).symm.trans hf
        refine lv_aload_n hx hb d_M_layShort_426 rfl (lv_at hl 0 rfl) ?_
        refine lv_iload_n hx hb d_M_layShort_427 rfl (lv_at hl 1 rfl) ?_
        refine lv_iconst (v := 4) hx hb d_M_layShort_428 (by decide) ?_
        refine lv_iconst (v := 1) hx hb d_M_layShort_429 (by decide) ?_
        obtain ⟨r_95, g_96, hf⟩ := Option.bind_eq_some_iff.mp hf
        refine va_callv (va_runV (As := [.int (x1), .int (4), .int (1)]) (rest := []) ⟨hx, hb, hml, hown, hts⟩ (c_M_ends l (ad := ad) (sk := sk) (sv := sv) (tK := tK) dC dI cI h0 rw pt ou y_mm hm x1 4 1  r_95 g_96) (cwV 3 hts (aw_V aw_427 aw_429 aw_p20 aw_2 aw_430) rfl rfl rfl (by decide +kernel) ⟨Nat.le_of_ble_eq_true rfl, Nat.le_of_ble_eq_true rfl⟩) ⟨wBlind, va_recv hK hP (ci := 1) (q0 := 0) rfl rfl, fun U hU hW => ⟨rfl, by rw [hU]; exact hP, va_K.moved hW.alike hK, hD, hT.at hS hU hW (fun _ z => z)⟩⟩ rfl rfl hl.1 rfl (lv_room (Nat.le_of_ble_eq_true rfl)) d_M_layShort_430 ⟨Nat.le_refl _, Nat.le_refl _⟩) hS (fun _ _ h => h) (fun _ h => h) (fun u t H1 locs ht1 hvm hw hB hz1 hk1 hS => ?_)
        obtain ⟨hw, hm⟩ := hw
        rw [hw] at hB hm
        rw [ht1] at hB
        have hP : va_P (dC, dI) cls2 (wM cI h0 rw pt ou 0 (gg r_95) (fun _ => 0) (fun _ => 0) 0 0) H1 := hB
        have hD : va_D (aM h0 rw pt ou) (wM cI h0 rw pt ou 0 (gg r_95) (fun _ => 0) (fun _ => 0) 0 0) := dD hD0 rfl
        refine lv_aload_n hx hb d_M_layShort_433 rfl (lv_at hl 0 rfl) ?_
        refine lv_iload_n hx hb d_M_layShort_434 rfl (lv_at hl 1 rfl) ?_
        refine lv_bipush (v := 10) hx hb d_M_layShort_435 (by decide) ?_
        refine lv_iconst (v := 3) hx hb d_M_layShort_437 (by decide) ?_
        refine lv_iconst (v := 3) hx hb d_M_layShort_438 (by decide) ?_
        obtain ⟨r_97, g_98, hf⟩ := Option.bind_eq_some_iff.mp hf
        refine va_callv (va_runV (As := [.int (x1), .int (10), .int (3), .int (3)]) (rest := []) ⟨hx, hb, hml, hown, hts⟩ (c_M_fix l (ad := ad) (sk := sk) (sv := sv) (tK := tK) dC dI cI h0 rw pt ou r_95 hm x1 10 3 3  r_97 g_98) (cwV 4 hts (aw_V aw_397 aw_399 aw_p17 aw_2 aw_400) rfl rfl rfl (by decide +kernel) ⟨Nat.le_of_ble_eq_true rfl, Nat.le_of_ble_eq_true rfl⟩) ⟨wBlind, va_recv hK hP (ci := 1) (q0 := 0) rfl rfl, fun U hU hW => ⟨rfl, by rw [hU]; exact hP, va_K.moved hW.alike hK, hD, hT.at hS hU hW (fun _ z => z)⟩⟩ rfl rfl hl.1 rfl (lv_room (Nat.le_of_ble_eq_true rfl)) d_M_layShort_439 ⟨Nat.le_refl _, Nat.le_refl _⟩) hS (fun _ _ h => h) (fun _ h => h) (fun u t H1 locs ht1 hvm hw hB hz1 hk1 hS => ?_)
        obtain ⟨hw, hm⟩ := hw
        rw [hw] at hB hm
        rw [ht1] at hB
        have hP : va_P (dC, dI) cls2 (wM cI h0 rw pt ou 0 (gg r_97) (fun _ => 0) (fun _ => 0) 0 0) H1 := hB
        have hD : va_D (aM h0 rw pt ou) (wM cI h0 rw pt ou 0 (gg r_97) (fun _ => 0) (fun _ => 0) 0 0) := dD hD0 rfl
        refine lv_aload_n hx hb d_M_layShort_442 rfl (lv_at hl 0 rfl) ?_
        refine lv_iload_n hx hb d_M_layShort_443 rfl (lv_at hl 1 rfl) ?_
        refine lv_bipush (v := 9) hx hb d_M_layShort_444 (by decide) ?_
        refine lv_bipush (v := 7) hx hb d_M_layShort_446 (by decide) ?_
        refine lv_sipush (v := 500) hx hb d_M_layShort_448 (by decide) ?_
        refine lv_iconst (v := 2) hx hb d_M_layShort_451 (by decide) ?_
        obtain ⟨r_99, g_100, hf⟩ := Option.bind_eq_some_iff.mp hf
        refine va_callv (va_runV (As := [.int (x1), .int (9), .int (7), .int (500), .int (2)]) (rest := []) ⟨hx, hb, hml, hown, hts⟩ (c_M_lay l (ad := ad) (sk := sk) (sv := sv) (tK := tK) dC dI cI h0 rw pt ou r_97 hm x1 9 7 500 2  r_99 g_100) (cwV 5 hts (aw_V aw_404 aw_406 aw_p18 aw_2 aw_407) rfl rfl rfl (by decide +kernel) ⟨Nat.le_of_ble_eq_true rfl, Nat.le_of_ble_eq_true rfl⟩) ⟨wBlind, va_recv hK hP (ci := 1) (q0 := 0) rfl rfl, fun U hU hW => ⟨rfl, by rw [hU]; exact hP, va_K.moved hW.alike hK, hD, hT.at hS hU hW (fun _ z => z)⟩⟩ rfl rfl hl.1 rfl (lv_room (Nat.le_of_ble_eq_true rfl)) d_M_layShort_452 ⟨Nat.le_refl _, Nat.le_refl _⟩) hS (fun _ _ h => h) (fun _ h => h) (fun u t H1 locs ht1 hvm hw hB hz1 hk1 hS => ?_)
        obtain ⟨hw, hm⟩ := hw
        rw [hw] at hB hm
        rw [ht1] at hB
        have hP : va_P (dC, dI) cls2 (wM cI h0 rw pt ou 0 (gg r_99) (fun _ => 0) (fun _ => 0) 0 0) H1 := hB
        have hD : va_D (aM h0 rw pt ou) (wM cI h0 rw pt ou 0 (gg r_99) (fun _ => 0) (fun _ => 0) 0 0) := dD hD0 rfl
        refine lv_aload_n hx hb d_M_layShort_455 rfl (lv_at hl 0 rfl) ?_
        refine lv_iload_n hx hb d_M_layShort_456 rfl (lv_at hl 1 rfl) ?_
        refine lv_iconst (v := 5) hx hb d_M_layShort_457 (by decide) ?_
        refine lv_iconst (v := 2) hx hb d_M_layShort_458 (by decide) ?_
        refine lv_iload_n hx hb d_M_layShort_459 rfl (lv_at hl 1 rfl) ?_
        refine lv_bipush (v := 60) hx hb d_M_layShort_460 (by decide) ?_
        refine lv_isub hx hb d_M_layShort_462 ?_
        obtain ⟨r_101, g_102, hf⟩ := Option.bind_eq_some_iff.mp hf
        refine va_callv (va_runV (As := [.int (x1), .int (5), .int (2), .int (x1 - 60)]) (rest := []) ⟨hx, hb, hml, hown, hts⟩ (c_M_fix l (ad := ad) (sk := sk) (sv := sv) (tK := tK) dC dI cI h0 rw pt ou r_99 hm x1 5 2 (x1 - 60)  r_101 g_102) (cwV 4 hts (aw_V aw_397 aw_399 aw_p17 aw_2 aw_400) rfl rfl rfl (by decide +kernel) ⟨Nat.le_of_ble_eq_true rfl, Nat.le_of_ble_eq_true rfl⟩) ⟨wBlind, va_recv hK hP (ci := 1) (q0 := 0) rfl rfl, fun U hU hW => ⟨rfl, by rw [hU]; exact hP, va_K.moved hW.alike hK, hD, hT.at hS hU hW (fun _ z => z)⟩⟩ rfl rfl hl.1 rfl (lv_room (Nat.le_of_ble_eq_true rfl)) d_M_layShort_463 ⟨Nat.le_refl _, Nat.le_refl _⟩) hS (fun _ _ h => h) (fun _ h => h) (fun u t H1 locs ht1 hvm hw hB hz1 hk1 hS => ?_)
        obtain ⟨hw, hm⟩ := hw
        rw [hw] at hB hm
        rw [ht1] at hB
        have hP : va_P (dC, dI) cls2 (wM cI h0 rw pt ou 0 (gg r_101) (fun _ => 0) (fun _ => 0) 0 0) H1 := hB
        have hD : va_D (aM h0 rw pt ou) (wM cI h0 rw pt ou 0 (gg r_101) (fun _ => 0) (fun _ => 0) 0 0) := dD hD0 rfl
        refine lv_aload_n hx hb d_M_layShort_466 rfl (lv_at hl 0 rfl) ?_
        refine lv_iload_n hx hb d_M_layShort_467 rfl (lv_at hl 1 rfl) ?_
        refine lv_iconst (v := 4) hx hb d_M_layShort_468 (by decide) ?_
        refine lv_iconst (v := 2) hx hb d_M_layShort_469 (by decide) ?_
        refine lv_sipush (v := 700) hx hb d_M_layShort_470 (by decide) ?_
        refine lv_iconst (v := 2) hx hb d_M_layShort_473 (by decide) ?_
        obtain ⟨r_103, g_104, hf⟩ := Option.bind_eq_some_iff.mp hf
        refine va_callv (va_runV (As := [.int (x1), .int (4), .int (2), .int (700), .int (2)]) (rest := []) ⟨hx, hb, hml, hown, hts⟩ (c_M_lay l (ad := ad) (sk := sk) (sv := sv) (tK := tK) dC dI cI h0 rw pt ou r_101 hm x1 4 2 700 2  r_103 g_104) (cwV 5 hts (aw_V aw_404 aw_406 aw_p18 aw_2 aw_407) rfl rfl rfl (by decide +kernel) ⟨Nat.le_of_ble_eq_true rfl, Nat.le_of_ble_eq_true rfl⟩) ⟨wBlind, va_recv hK hP (ci := 1) (q0 := 0) rfl rfl, fun U hU hW => ⟨rfl, by rw [hU]; exact hP, va_K.moved hW.alike hK, hD, hT.at hS hU hW (fun _ z => z)⟩⟩ rfl rfl hl.1 rfl (lv_room (Nat.le_of_ble_eq_true rfl)) d_M_layShort_474 ⟨Nat.le_refl _, Nat.le_refl _⟩) hS (fun _ _ h => h) (fun _ h => h) (fun u t H1 locs ht1 hvm hw hB hz1 hk1 hS => ?_)
        obtain ⟨hw, hm⟩ := hw
        rw [hw] at hB hm
        rw [ht1] at hB
        have hP : va_P (dC, dI) cls2 (wM cI h0 rw pt ou 0 (gg r_103) (fun _ => 0) (fun _ => 0) 0 0) H1 := hB
        have hD : va_D (aM h0 rw pt ou) (wM cI h0 rw pt ou 0 (gg r_103) (fun _ => 0) (fun _ => 0) 0 0) := dD hD0 rfl
        refine lv_iinc (v := x1 + 1) (lv' := [(1, .int (x1 + 1)), (0, .ref (h0))]) hx hb d_M_layShort_477 hl (k := 1) rfl rfl (by decide) rfl (fun ls hl => ?_)
        refine lv_goto (tgt := 420) hx hb d_M_layShort_480 (by decide) ?_
        exact ih420 (x1 + 1) r_103 _ _ _ hm hP hS (lv_sub hl [1, 0] rfl) hf
  have J347 : ∀ (n347 : Nat) (x1 : Int32) (y_mm : List (List Int32)) (H : Heap) (locs : List Loc) (ls : Array Slot), gw y_mm → va_P (dC, dI) cls2 (wM cI h0 rw pt ou 0 (gg y_mm) (fun _ => 0) (fun _ => 0) 0 0) H → va_S (aM h0 rw pt ou) s.heap H locs → lv_has ls 2 [(0, .ref (h0)), (1, .int (x1))] → f_M_layShort_L347 w_mm  n347 x1 y_mm = some r → wW p l e (headSpec (Cond.code y_M_layShort b_M_layShort 2 (Option.none : Option FieldType) :: aw) ({ frames := 3, cells := 0, slots := 0, locals := 70 } : Room)).room s m ([.ref (h0)] : List Value).toArray below meth c (va_Qv (fun u => u = r ∧ gw u) (fun (u : List (List Int32)) t => va_P (dC, dI) cls2 (wM cI h0 rw pt ou 0 (gg u) (fun _ => 0) (fun _ => 0) 0 0) t.heap) (aM h0 rw pt ou)) (aM h0 rw pt ou) H locs (F0 m 347 ls []) := by
    intro n347
    induction n347 with
    | zero =>
      intro x1 y_mm H locs ls hm hP hS hl hf
      rw [f_M_layShort_L347] at hf
      cases hf
    | succ n347 ih347 =>
      intro x1 y_mm H locs ls hm hP hS hl hf
      rw [f_M_layShort_L347] at hf
      have hD : va_D (aM h0 rw pt ou) (wM cI h0 rw pt ou 0 (gg y_mm) (fun _ => 0) (fun _ => 0) 0 0) := dD hD0 rfl
      have J386 : ∀ (x1 : Int32) (y_mm : List (List Int32)) (H : Heap) (locs : List Loc) (ls : Array Slot), gw y_mm → va_P (dC, dI) cls2 (wM cI h0 rw pt ou 0 (gg y_mm) (fun _ => 0) (fun _ => 0) 0 0) H → va_S (aM h0 rw pt ou) s.heap H locs → lv_has ls 2 [(0, .ref (h0)), (1, .int (x1))] → f_M_layShort_L386 w_mm (fun y0 y1 => f_M_layShort_L347 w_mm  n347 y0 y1) x1 y_mm = some r → wW p l e (headSpec (Cond.code y_M_layShort b_M_layShort 2 (Option.none : Option FieldType) :: aw) ({ frames := 3, cells := 0, slots := 0, locals := 70 } : Room)).room s m ([.ref (h0)] : List Value).toArray below meth c (va_Qv (fun u => u = r ∧ gw u) (fun (u : List (List Int32)) t => va_P (dC, dI) cls2 (wM cI h0 rw pt ou 0 (gg u) (fun _ => 0) (fun _ => 0) 0 0) t.heap) (aM h0 rw pt ou)) (aM h0 rw pt ou) H locs (F0 m 386 ls []) := by
        intro x1 y_mm H locs ls hm hP hS hl hf
        rw [f_M_layShort_L386] at hf
        have hD : va_D (aM h0 rw pt ou) (wM cI h0 rw pt ou 0 (gg y_mm) (fun _ => 0) (fun _ => 0) 0 0) := dD hD0 rfl
        refine lv_aload_n hx hb d_M_layShort_386 rfl (lv_at hl 0 rfl) ?_
        refine lv_iload_n hx hb d_M_layShort_387 rfl (lv_at hl 1 rfl) ?_
        refine lv_bipush (v := 9) hx hb d_M_layShort_388 (by decide) ?_
        refine lv_bipush (v := 7) hx hb d_M_layShort_390 (by decide) ?_
        refine lv_sipush (v := 500) hx hb d_M_layShort_392 (by decide) ?_
        refine lv_iconst (v := 2) hx hb d_M_layShort_395 (by decide) ?_
        obtain ⟨r_110, g_111, hf⟩ := Option.bind_eq_some_iff.mp hf
        refine va_callv (va_runV (As := [.int (x1), .int (9), .int (7), .int (500), .int (2)]) (rest := []) ⟨hx, hb, hml, hown, hts⟩ (c_M_lay l (ad := ad) (sk := sk) (sv := sv) (tK := tK) dC dI cI h0 rw pt ou y_mm hm x1 9 7 500 2  r_110 g_111) (cwV 5 hts (aw_V aw_404 aw_406 aw_p18 aw_2 aw_407) rfl rfl rfl (by decide +kernel) ⟨Nat.le_of_ble_eq_true rfl, Nat.le_of_ble_eq_true rfl⟩) ⟨wBlind, va_recv hK hP (ci := 1) (q0 := 0) rfl rfl, fun U hU hW => ⟨rfl, by rw [hU]; exact hP, va_K.moved hW.alike hK, hD, hT.at hS hU hW (fun _ z => z)⟩⟩ rfl rfl hl.1 rfl (lv_room (Nat.le_of_ble_eq_true rfl)) d_M_layShort_396 ⟨Nat.le_refl _, Nat.le_refl _⟩) hS (fun _ _ h => h) (fun _ h => h) (fun u t H1 locs ht1 hvm hw hB hz1 hk1 hS => ?_)
        obtain ⟨hw, hm⟩ := hw
        rw [hw] at hB hm
        rw [ht1] at hB
        have hP : va_P (dC, dI) cls2 (wM cI h0 rw pt ou 0 (gg r_110) (fun _ => 0) (fun _ => 0) 0 0) H1 := hB
        have hD : va_D (aM h0 rw pt ou) (wM cI h0 rw pt ou 0 (gg r_110) (fun _ => 0) (fun _ => 0) 0 0) := dD hD0 rfl
        refine lv_aload_n hx hb d_M_layShort_399 rfl (lv_at hl 0 rfl) ?_
        refine lv_iload_n hx hb d_M_layShort_400 rfl (lv_at hl 1 rfl) ?_
        refine lv_bipush (v := 6) hx hb d_M_layShort_401 (by decide) ?_
        refine lv_iconst (v := 2) hx hb d_M_layShort_403 (by decide) ?_
        refine lv_sipush (v := 400) hx hb d_M_layShort_404 (by decide) ?_
        refine lv_iconst (v := 4) hx hb d_M_layShort_407 (by decide) ?_
        obtain ⟨r_112, g_113, hf⟩ := Option.bind_eq_some_iff.mp hf
        refine va_callv (va_runV (As := [.int (x1), .int (6), .int (2), .int (400), .int (4)]) (rest := []) ⟨hx, hb, hml, hown, hts⟩ (c_M_lay l (ad := ad) (sk := sk) (sv := sv) (tK := tK) dC dI cI h0 rw pt ou r_110 hm x1 6 2 400 4  r_112 g_113) (cwV 5 hts (aw_V aw_404 aw_406 aw_p18 aw_2 aw_407) rfl rfl rfl (by decide +kernel) ⟨Nat.le_of_ble_eq_true rfl, Nat.le_of_ble_eq_true rfl⟩) ⟨wBlind, va_recv hK hP (ci := 1) (q0 := 0) rfl rfl, fun U hU hW => ⟨rfl, by rw [hU]; exact hP, va_K.moved hW.alike hK, hD, hT.at hS hU hW (fun _ z => z)⟩⟩ rfl rfl hl.1 rfl (lv_room (Nat.le_of_ble_eq_true rfl)) d_M_layShort_408 ⟨Nat.le_refl _, Nat.le_refl _⟩) hS (fun _ _ h => h) (fun _ h => h) (fun u t H1 locs ht1 hvm hw hB hz1 hk1 hS => ?_)
        obtain ⟨hw, hm⟩ := hw
        rw [hw] at hB hm
        rw [ht1] at hB
        have hP : va_P (dC, dI) cls2 (wM cI h0 rw pt ou 0 (gg r_112) (fun _ => 0) (fun _ => 0) 0 0) H1 := hB
        have hD : va_D (aM h0 rw pt ou) (wM cI h0 rw pt ou 0 (gg r_112) (fun _ => 0) (fun _ => 0) 0 0) := dD hD0 rfl
        refine lv_iinc (v := x1 + 1) (lv' := [(1, .int (x1 + 1)), (0, .ref (h0))]) hx hb d_M_layShort_411 hl (k := 1) rfl rfl (by decide) rfl (fun ls hl => ?_)
        refine lv_goto (tgt := 347) hx hb d_M_layShort_414 (by decide) ?_
        exact ih347 (x1 + 1) r_112 _ _ _ hm hP hS (lv_sub hl [1, 0] rfl) hf
      refine lv_iload_n hx hb d_M_layShort_347 rfl (lv_at hl 1 rfl) ?_
      refine lv_bipush (v := 60) hx hb d_M_layShort_348 (by decide) ?_
      refine lv_icmp_ge (tgt := 417) hx hb d_M_layShort_350 (by decide) (fun c_35 => ?_) (fun c_35 => ?_)
      · replace hf := (if_pos c_35).symm.trans hf
        refine lv_bipush (v := 60) hx hb d_M_layShort_417 (by decide) ?_
        refine lv_istore_n (lv' := [(1, .int (60)), (0, .ref (h0))]) hx hb d_M_layShort_419 rfl hl (by decide) rfl (fun ls hl => ?_)
        exact J420 80 60 y_mm _ _ _ hm hP hS (lv_sub hl [1, 0] rfl) hf
      · replace hf := (if_neg c_35).symm.trans hf
        refine lv_aload_n hx hb d_M_layShort_353 rfl (lv_at hl 0 rfl) ?_
        refine lv_iload_n hx hb d_M_layShort_354 rfl (lv_at hl 1 rfl) ?_
        refine lv_iconst (v := 4) hx hb d_M_layShort_355 (by decide) ?_
        refine lv_iconst (v := 1) hx hb d_M_layShort_356 (by decide) ?_
        obtain ⟨r_105, g_106, hf⟩ := Option.bind_eq_some_iff.mp hf
        refine va_callv (va_runV (As := [.int (x1), .int (4), .int (1)]) (rest := []) ⟨hx, hb, hml, hown, hts⟩ (c_M_ends l (ad := ad) (sk := sk) (sv := sv) (tK := tK) dC dI cI h0 rw pt ou y_mm hm x1 4 1  r_105 g_106) (cwV 3 hts (aw_V aw_427 aw_429 aw_p20 aw_2 aw_430) rfl rfl rfl (by decide +kernel) ⟨Nat.le_of_ble_eq_true rfl, Nat.le_of_ble_eq_true rfl⟩) ⟨wBlind, va_recv hK hP (ci := 1) (q0 := 0) rfl rfl, fun U hU hW => ⟨rfl, by rw [hU]; exact hP, va_K.moved hW.alike hK, hD, hT.at hS hU hW (fun _ z => z)⟩⟩ rfl rfl hl.1 rfl (lv_room (Nat.le_of_ble_eq_true rfl)) d_M_layShort_357 ⟨Nat.le_refl _, Nat.le_refl _⟩) hS (fun _ _ h => h) (fun _ h => h) (fun u t H1 locs ht1 hvm hw hB hz1 hk1 hS => ?_)
        obtain ⟨hw, hm⟩ := hw
        rw [hw] at hB hm
        rw [ht1] at hB
        have hP : va_P (dC, dI) cls2 (wM cI h0 rw pt ou 0 (gg r_105) (fun _ => 0) (fun _ => 0) 0 0) H1 := hB
        have hD : va_D (aM h0 rw pt ou) (wM cI h0 rw pt ou 0 (gg r_105) (fun _ => 0) (fun _ => 0) 0 0) := dD hD0 rfl
        refine lv_aload_n hx hb d_M_layShort_360 rfl (lv_at hl 0 rfl) ?_
        refine lv_iload_n hx hb d_M_layShort_361 rfl (lv_at hl 1 rfl) ?_
        refine lv_bipush (v := 10) hx hb d_M_layShort_362 (by decide) ?_
        refine lv_iconst (v := 3) hx hb d_M_layShort_364 (by decide) ?_
        refine lv_iload_n hx hb d_M_layShort_365 rfl (lv_at hl 1 rfl) ?_
        refine lv_bipush (v := 57) hx hb d_M_layShort_366 (by decide) ?_
        refine lv_isub hx hb d_M_layShort_368 ?_
        obtain ⟨r_107, g_108, hf⟩ := Option.bind_eq_some_iff.mp hf
        refine va_callv (va_runV (As := [.int (x1), .int (10), .int (3), .int (x1 - 57)]) (rest := []) ⟨hx, hb, hml, hown, hts⟩ (c_M_fix l (ad := ad) (sk := sk) (sv := sv) (tK := tK) dC dI cI h0 rw pt ou r_105 hm x1 10 3 (x1 - 57)  r_107 g_108) (cwV 4 hts (aw_V aw_397 aw_399 aw_p17 aw_2 aw_400) rfl rfl rfl (by decide +kernel) ⟨Nat.le_of_ble_eq_true rfl, Nat.le_of_ble_eq_true rfl⟩) ⟨wBlind, va_recv hK hP (ci := 1) (q0 := 0) rfl rfl, fun U hU hW => ⟨rfl, by rw [hU]; exact hP, va_K.moved hW.alike hK, hD, hT.at hS hU hW (fun _ z => z)⟩⟩ rfl rfl hl.1 rfl (lv_room (Nat.le_of_ble_eq_true rfl)) d_M_layShort_369 ⟨Nat.le_refl _, Nat.le_refl _⟩) hS (fun _ _ h => h) (fun _ h => h) (fun u t H1 locs ht1 hvm hw hB hz1 hk1 hS => ?_)
        obtain ⟨hw, hm⟩ := hw
        rw [hw] at hB hm
        rw [ht1] at hB
        have hP : va_P (dC, dI) cls2 (wM cI h0 rw pt ou 0 (gg r_107) (fun _ => 0) (fun _ => 0) 0 0) H1 := hB
        have hD : va_D (aM h0 rw pt ou) (wM cI h0 rw pt ou 0 (gg r_107) (fun _ => 0) (fun _ => 0) 0 0) := dD hD0 rfl
        refine lv_iload_n hx hb d_M_layShort_372 rfl (lv_at hl 1 rfl) ?_
        refine lv_bipush (v := 59) hx hb d_M_layShort_373 (by decide) ?_
        refine lv_icmp_ne (tgt := 386) hx hb d_M_layShort_375 (by decide) (fun c_109 => ?_) (fun c_109 => ?_)
        · replace hf := (if_neg c_109).symm.trans hf
          exact J386 x1 r_107 _ _ _ hm hP hS (lv_sub hl [0, 1] rfl) hf
        · replace hf := (if_pos c_109).symm.trans hf
          refine lv_aload_n hx hb d_M_layShort_378 rfl (lv_at hl 0 rfl) ?_
          refine lv_iload_n hx hb d_M_layShort_379 rfl (lv_at hl 1 rfl) ?_
          refine lv_bipush (v := 12) hx hb d_M_layShort_380 (by decide) ?_
          refine lv_iconst (v := 5) hx hb d_M_layShort_382 (by decide) ?_
          obtain ⟨r_114, g_115, hf⟩ := Option.bind_eq_some_iff.mp hf
          refine va_callv (va_runV (As := [.int (x1), .int (12), .int (5)]) (rest := []) ⟨hx, hb, hml, hown, hts⟩ (c_M_one l (ad := ad) (sk := sk) (sv := sv) (tK := tK) dC dI cI h0 rw pt ou r_107 hm x1 12 5  r_114 g_115) (cwV 3 hts (aw_V aw_431 aw_433 aw_p21 aw_2 aw_434) rfl rfl rfl (by decide +kernel) ⟨Nat.le_of_ble_eq_true rfl, Nat.le_of_ble_eq_true rfl⟩) ⟨wBlind, va_recv hK hP (ci := 1) (q0 := 0) rfl rfl, fun U hU hW => ⟨rfl, by rw [hU]; exact hP, va_K.moved hW.alike hK, hD, hT.at hS hU hW (fun _ z => z)⟩⟩ rfl rfl hl.1 rfl (lv_room (Nat.le_of_ble_eq_true rfl)) d_M_layShort_383 ⟨Nat.le_refl _, Nat.le_refl _⟩) hS (fun _ _ h => h) (fun _ h => h) (fun u t H1 locs ht1 hvm hw hB hz1 hk1 hS => ?_)
          obtain ⟨hw, hm⟩ := hw
          rw [hw] at hB hm
          rw [ht1] at hB
          have hP : va_P (dC, dI) cls2 (wM cI h0 rw pt ou 0 (gg r_114) (fun _ => 0) (fun _ => 0) 0 0) H1 := hB
          have hD : va_D (aM h0 rw pt ou) (wM cI h0 rw pt ou 0 (gg r_114) (fun _ => 0) (fun _ => 0) 0 0) := dD hD0 rfl
          exact J386 x1 r_114 _ _ _ hm hP hS (lv_sub hl [0, 1] rfl) hf
  have J177 : ∀ (n177 : Nat) (x1 : Int32) (y_mm : List (List Int32)) (H : Heap) (locs : List Loc) (ls : Array Slot), gw y_mm → va_P (dC, dI) cls2 (wM cI h0 rw pt ou 0 (gg y_mm) (fun _ => 0) (fun _ => 0) 0 0) H → va_S (aM h0 rw pt ou) s.heap H locs → lv_has ls 2 [(0, .ref (h0)), (1, .int (x1))] → f_M_layShort_L177 w_mm  n177 x1 y_mm = some r → wW p l e (headSpec (Cond.code y_M_layShort b_M_layShort 2 (Option.none : Option FieldType) :: aw) ({ frames := 3, cells := 0, slots := 0, locals := 70 } : Room)).room s m ([.ref (h0)] : List Value).toArray below meth c (va_Qv (fun u => u = r ∧ gw u) (fun (u : List (List Int32)) t => va_P (dC, dI) cls2 (wM cI h0 rw pt ou 0 (gg u) (fun _ => 0) (fun _ => 0) 0 0) t.heap) (aM h0 rw pt ou)) (aM h0 rw pt ou) H locs (F0 m 177 ls []) := by
    intro n177
    induction n177 with
    | zero =>
      intro x1 y_mm H locs ls hm hP hS hl hf
      rw [f_M_layShort_L177] at hf
      cases hf
    | succ n177 ih177 =>
      intro x1 y_mm H locs ls hm hP hS hl hf
      rw [f_M_layShort_L177] at hf
      have hD : va_D (aM h0 rw pt ou) (wM cI h0 rw pt ou 0 (gg y_mm) (fun _ => 0) (fun _ => 0) 0 0) := dD hD0 rfl
      have J221 : ∀ (x1 : Int32) (t0 : Int32) (t1 : Int32) (y_mm : List (List Int32)) (H : Heap) (locs : List Loc) (ls : Array Slot), gw y_mm → va_P (dC, dI) cls2 (wM cI h0 rw pt ou 0 (gg y_mm) (fun _ => 0) (fun _ => 0) 0 0) H → va_S (aM h0 rw pt ou) s.heap H locs → lv_has ls 2 [(0, .ref (h0)), (1, .int (x1))] → f_M_layShort_L221 w_mm (fun y0 y1 => f_M_layShort_L177 w_mm  n177 y0 y1) x1 t0 t1 y_mm = some r → wW p l e (headSpec (Cond.code y_M_layShort b_M_layShort 2 (Option.none : Option FieldType) :: aw) ({ frames := 3, cells := 0, slots := 0, locals := 70 } : Room)).room s m ([.ref (h0)] : List Value).toArray below meth c (va_Qv (fun u => u = r ∧ gw u) (fun (u : List (List Int32)) t => va_P (dC, dI) cls2 (wM cI h0 rw pt ou 0 (gg u) (fun _ => 0) (fun _ => 0) 0 0) t.heap) (aM h0 rw pt ou)) (aM h0 rw pt ou) H locs (F0 m 221 ls [.int (t0), .int (t1), .ref (h0)]) := by
        intro x1 t0 t1 y_mm H locs ls hm hP hS hl hf
        rw [f_M_layShort_L221] at hf
        have hD : va_D (aM h0 rw pt ou) (wM cI h0 rw pt ou 0 (gg y_mm) (fun _ => 0) (fun _ => 0) 0 0) := dD hD0 rfl
        refine lv_iconst (v := 1) hx hb d_M_layShort_221 (by decide) ?_
        obtain ⟨r_120, g_121, hf⟩ := Option.bind_eq_some_iff.mp hf
        refine va_callv (va_runV (As := [.int (t1), .int (t0), .int (1)]) (rest := []) ⟨hx, hb, hml, hown, hts⟩ (c_M_ends l (ad := ad) (sk := sk) (sv := sv) (tK := tK) dC dI cI h0 rw pt ou y_mm hm t1 t0 1  r_120 g_121) (cwV 3 hts (aw_V aw_427 aw_429 aw_p20 aw_2 aw_430) rfl rfl rfl (by decide +kernel) ⟨Nat.le_of_ble_eq_true rfl, Nat.le_of_ble_eq_true rfl⟩) ⟨wBlind, va_recv hK hP (ci := 1) (q0 := 0) rfl rfl, fun U hU hW => ⟨rfl, by rw [hU]; exact hP, va_K.moved hW.alike hK, hD, hT.at hS hU hW (fun _ z => z)⟩⟩ rfl rfl hl.1 rfl (lv_room (Nat.le_of_ble_eq_true rfl)) d_M_layShort_222 ⟨Nat.le_refl _, Nat.le_refl _⟩) hS (fun _ _ h => h) (fun _ h => h) (fun u t H1 locs ht1 hvm hw hB hz1 hk1 hS => ?_)
        obtain ⟨hw, hm⟩ := hw
        rw [hw] at hB hm
        rw [ht1] at hB
        have hP : va_P (dC, dI) cls2 (wM cI h0 rw pt ou 0 (gg r_120) (fun _ => 0) (fun _ => 0) 0 0) H1 := hB
        have hD : va_D (aM h0 rw pt ou) (wM cI h0 rw pt ou 0 (gg r_120) (fun _ => 0) (fun _ => 0) 0 0) := dD hD0 rfl
        refine lv_aload_n hx hb d_M_layShort_225 rfl (lv_at hl 0 rfl) ?_
        refine lv_iload_n hx hb d_M_layShort_226 rfl (lv_at hl 1 rfl) ?_
        refine lv_bipush (v := 12) hx hb d_M_layShort_227 (by decide) ?_
        refine lv_iconst (v := 5) hx hb d_M_layShort_229 (by decide) ?_
        obtain ⟨r_122, g_123, hf⟩ := Option.bind_eq_some_iff.mp hf
        refine va_callv (va_runV (As := [.int (x1), .int (12), .int (5)]) (rest := []) ⟨hx, hb, hml, hown, hts⟩ (c_M_one l (ad := ad) (sk := sk) (sv := sv) (tK := tK) dC dI cI h0 rw pt ou r_120 hm x1 12 5  r_122 g_123) (cwV 3 hts (aw_V aw_431 aw_433 aw_p21 aw_2 aw_434) rfl rfl rfl (by decide +kernel) ⟨Nat.le_of_ble_eq_true rfl, Nat.le_of_ble_eq_true rfl⟩) ⟨wBlind, va_recv hK hP (ci := 1) (q0 := 0) rfl rfl, fun U hU hW => ⟨rfl, by rw [hU]; exact hP, va_K.moved hW.alike hK, hD, hT.at hS hU hW (fun _ z => z)⟩⟩ rfl rfl hl.1 rfl (lv_room (Nat.le_of_ble_eq_true rfl)) d_M_layShort_230 ⟨Nat.le_refl _, Nat.le_refl _⟩) hS (fun _ _ h => h) (fun _ h => h) (fun u t H1 locs ht1 hvm hw hB hz1 hk1 hS => ?_)
        obtain ⟨hw, hm⟩ := hw
        rw [hw] at hB hm
        rw [ht1] at hB
        have hP : va_P (dC, dI) cls2 (wM cI h0 rw pt ou 0 (gg r_122) (fun _ => 0) (fun _ => 0) 0 0) H1 := hB
        have hD : va_D (aM h0 rw pt ou) (wM cI h0 rw pt ou 0 (gg r_122) (fun _ => 0) (fun _ => 0) 0 0) := dD hD0 rfl
        refine lv_aload_n hx hb d_M_layShort_233 rfl (lv_at hl 0 rfl) ?_
        refine lv_iload_n hx hb d_M_layShort_234 rfl (lv_at hl 1 rfl) ?_
        refine lv_bipush (v := 11) hx hb d_M_layShort_235 (by decide) ?_
        refine lv_bipush (v := 7) hx hb d_M_layShort_237 (by decide) ?_
        refine lv_bipush (v := 100) hx hb d_M_layShort_239 (by decide) ?_
        refine lv_iconst (v := 4) hx hb d_M_layShort_241 (by decide) ?_
        obtain ⟨r_124, g_125, hf⟩ := Option.bind_eq_some_iff.mp hf
        refine va_callv (va_runV (As := [.int (x1), .int (11), .int (7), .int (100), .int (4)]) (rest := []) ⟨hx, hb, hml, hown, hts⟩ (c_M_lay l (ad := ad) (sk := sk) (sv := sv) (tK := tK) dC dI cI h0 rw pt ou r_122 hm x1 11 7 100 4  r_124 g_125) (cwV 5 hts (aw_V aw_404 aw_406 aw_p18 aw_2 aw_407) rfl rfl rfl (by decide +kernel) ⟨Nat.le_of_ble_eq_true rfl, Nat.le_of_ble_eq_true rfl⟩) ⟨wBlind, va_recv hK hP (ci := 1) (q0 := 0) rfl rfl, fun U hU hW => ⟨rfl, by rw [hU]; exact hP, va_K.moved hW.alike hK, hD, hT.at hS hU hW (fun _ z => z)⟩⟩ rfl rfl hl.1 rfl (lv_room (Nat.le_of_ble_eq_true rfl)) d_M_layShort_242 ⟨Nat.le_refl _, Nat.le_refl _⟩) hS (fun _ _ h => h) (fun _ h => h) (fun u t H1 locs ht1 hvm hw hB hz1 hk1 hS => ?_)
        obtain ⟨hw, hm⟩ := hw
        rw [hw] at hB hm
        rw [ht1] at hB
        have hP : va_P (dC, dI) cls2 (wM cI h0 rw pt ou 0 (gg r_124) (fun _ => 0) (fun _ => 0) 0 0) H1 := hB
        have hD : va_D (aM h0 rw pt ou) (wM cI h0 rw pt ou 0 (gg r_124) (fun _ => 0) (fun _ => 0) 0 0) := dD hD0 rfl
        refine lv_aload_n hx hb d_M_layShort_245 rfl (lv_at hl 0 rfl) ?_
        refine lv_iload_n hx hb d_M_layShort_246 rfl (lv_at hl 1 rfl) ?_
        refine lv_bipush (v := 6) hx hb d_M_layShort_247 (by decide) ?_
        refine lv_iconst (v := 2) hx hb d_M_layShort_249 (by decide) ?_
        refine lv_sipush (v := 400) hx hb d_M_layShort_250 (by decide) ?_
        refine lv_iconst (v := 4) hx hb d_M_layShort_253 (by decide) ?_
        obtain ⟨r_126, g_127, hf⟩ := Option.bind_eq_some_iff.mp hf
        refine va_callv (va_runV (As := [.int (x1), .int (6), .int (2), .int (400), .int (4)]) (rest := []) ⟨hx, hb, hml, hown, hts⟩ (c_M_lay l (ad := ad) (sk := sk) (sv := sv) (tK := tK) dC dI cI h0 rw pt ou r_124 hm x1 6 2 400 4  r_126 g_127) (cwV 5 hts (aw_V aw_404 aw_406 aw_p18 aw_2 aw_407) rfl rfl rfl (by decide +kernel) ⟨Nat.le_of_ble_eq_true rfl, Nat.le_of_ble_eq_true rfl⟩) ⟨wBlind, va_recv hK hP (ci := 1) (q0 := 0) rfl rfl, fun U hU hW => ⟨rfl, by rw [hU]; exact hP, va_K.moved hW.alike hK, hD, hT.at hS hU hW (fun _ z => z)⟩⟩ rfl rfl hl.1 rfl (lv_room (Nat.le_of_ble_eq_true rfl)) d_M_layShort_254 ⟨Nat.le_refl _, Nat.le_refl _⟩) hS (fun _ _ h => h) (fun _ h => h) (fun u t H1 locs ht1 hvm hw hB hz1 hk1 hS => ?_)
        obtain ⟨hw, hm⟩ := hw
        rw [hw] at hB hm
        rw [ht1] at hB
        have hP : va_P (dC, dI) cls2 (wM cI h0 rw pt ou 0 (gg r_126) (fun _ => 0) (fun _ => 0) 0 0) H1 := hB
        have hD : va_D (aM h0 rw pt ou) (wM cI h0 rw pt ou 0 (gg r_126) (fun _ => 0) (fun _ => 0) 0 0) := dD hD0 rfl
        refine lv_iinc (v := x1 + 1) (lv' := [(1, .int (x1 + 1)), (0, .ref (h0))]) hx hb d_M_layShort_257 hl (k := 1) rfl rfl (by decide) rfl (fun ls hl => ?_)
        refine lv_goto (tgt := 177) hx hb d_M_layShort_260 (by decide) ?_
        exact ih177 (x1 + 1) r_126 _ _ _ hm hP hS (lv_sub hl [1, 0] rfl) hf
      refine lv_iload_n hx hb d_M_layShort_177 rfl (lv_at hl 1 rfl) ?_
      refine lv_bipush (v := 57) hx hb d_M_layShort_178 (by decide) ?_
      refine lv_icmp_ge (tgt := 263) hx hb d_M_layShort_180 (by decide) (fun c_16 => ?_) (fun c_16 => ?_)
      · replace hf := (if_pos c_16).symm.trans hf
        refine lv_aload_n hx hb d_M_layShort_263 rfl (lv_at hl 0 rfl) ?_
        refine lv_bipush (v := 53) hx hb d_M_layShort_264 (by decide) ?_
        refine lv_iconst (v := 1) hx hb d_M_layShort_266 (by decide) ?_
        obtain ⟨r_17, g_18, hf⟩ := Option.bind_eq_some_iff.mp hf
        refine va_callv (va_runV (As := [.int (53), .int (1)]) (rest := []) ⟨hx, hb, hml, hown, hts⟩ (c_M_layJump l (ad := ad) (sk := sk) (sv := sv) (tK := tK) dC dI cI h0 rw pt ou y_mm hm 53 1  r_17 g_18) (cwV 2 hts (aw_V aw_435 aw_437 aw_p22 aw_2 aw_438) rfl rfl rfl (by decide +kernel) ⟨Nat.le_of_ble_eq_true rfl, Nat.le_of_ble_eq_true rfl⟩) ⟨wBlind, va_recv hK hP (ci := 1) (q0 := 0) rfl rfl, fun U hU hW => ⟨rfl, by rw [hU]; exact hP, va_K.moved hW.alike hK, hD, hT.at hS hU hW (fun _ z => z)⟩⟩ rfl rfl hl.1 rfl (lv_room (Nat.le_of_ble_eq_true rfl)) d_M_layShort_267 ⟨Nat.le_refl _, Nat.le_refl _⟩) hS (fun _ _ h => h) (fun _ h => h) (fun u t H1 locs ht1 hvm hw hB hz1 hk1 hS => ?_)
        obtain ⟨hw, hm⟩ := hw
        rw [hw] at hB hm
        rw [ht1] at hB
        have hP : va_P (dC, dI) cls2 (wM cI h0 rw pt ou 0 (gg r_17) (fun _ => 0) (fun _ => 0) 0 0) H1 := hB
        have hD : va_D (aM h0 rw pt ou) (wM cI h0 rw pt ou 0 (gg r_17) (fun _ => 0) (fun _ => 0) 0 0) := dD hD0 rfl
        refine lv_aload_n hx hb d_M_layShort_270 rfl (lv_at hl 0 rfl) ?_
        refine lv_bipush (v := 64) hx hb d_M_layShort_271 (by decide) ?_
        refine lv_iconst (v := 5) hx hb d_M_layShort_273 (by decide) ?_
        obtain ⟨r_19, g_20, hf⟩ := Option.bind_eq_some_iff.mp hf
        refine va_callv (va_runV (As := [.int (64), .int (5)]) (rest := []) ⟨hx, hb, hml, hown, hts⟩ (c_M_layJump l (ad := ad) (sk := sk) (sv := sv) (tK := tK) dC dI cI h0 rw pt ou r_17 hm 64 5  r_19 g_20) (cwV 2 hts (aw_V aw_435 aw_437 aw_p22 aw_2 aw_438) rfl rfl rfl (by decide +kernel) ⟨Nat.le_of_ble_eq_true rfl, Nat.le_of_ble_eq_true rfl⟩) ⟨wBlind, va_recv hK hP (ci := 1) (q0 := 0) rfl rfl, fun U hU hW => ⟨rfl, by rw [hU]; exact hP, va_K.moved hW.alike hK, hD, hT.at hS hU hW (fun _ z => z)⟩⟩ rfl rfl hl.1 rfl (lv_room (Nat.le_of_ble_eq_true rfl)) d_M_layShort_274 ⟨Nat.le_refl _, Nat.le_refl _⟩) hS (fun _ _ h => h) (fun _ h => h) (fun u t H1 locs ht1 hvm hw hB hz1 hk1 hS => ?_)
        obtain ⟨hw, hm⟩ := hw
        rw [hw] at hB hm
        rw [ht1] at hB
        have hP : va_P (dC, dI) cls2 (wM cI h0 rw pt ou 0 (gg r_19) (fun _ => 0) (fun _ => 0) 0 0) H1 := hB
        have hD : va_D (aM h0 rw pt ou) (wM cI h0 rw pt ou 0 (gg r_19) (fun _ => 0) (fun _ => 0) 0 0) := dD hD0 rfl
        refine lv_aload_n hx hb d_M_layShort_277 rfl (lv_at hl 0 rfl) ?_
        refine lv_bipush (v := 55) hx hb d_M_layShort_278 (by decide) ?_
        refine lv_iconst (v := 3) hx hb d_M_layShort_280 (by decide) ?_
        refine lv_iconst (v := 1) hx hb d_M_layShort_281 (by decide) ?_
        obtain ⟨r_21, g_22, hf⟩ := Option.bind_eq_some_iff.mp hf
        refine va_callv (va_runV (As := [.int (55), .int (3), .int (1)]) (rest := []) ⟨hx, hb, hml, hown, hts⟩ (c_M_ends l (ad := ad) (sk := sk) (sv := sv) (tK := tK) dC dI cI h0 rw pt ou r_19 hm 55 3 1  r_21 g_22) (cwV 3 hts (aw_V aw_427 aw_429 aw_p20 aw_2 aw_430) rfl rfl rfl (by decide +kernel) ⟨Nat.le_of_ble_eq_true rfl, Nat.le_of_ble_eq_true rfl⟩) ⟨wBlind, va_recv hK hP (ci := 1) (q0 := 0) rfl rfl, fun U hU hW => ⟨rfl, by rw [hU]; exact hP, va_K.moved hW.alike hK, hD, hT.at hS hU hW (fun _ z => z)⟩⟩ rfl rfl hl.1 rfl (lv_room (Nat.le_of_ble_eq_true rfl)) d_M_layShort_282 ⟨Nat.le_refl _, Nat.le_refl _⟩) hS (fun _ _ h => h) (fun _ h => h) (fun u t H1 locs ht1 hvm hw hB hz1 hk1 hS => ?_)
        obtain ⟨hw, hm⟩ := hw
        rw [hw] at hB hm
        rw [ht1] at hB
        have hP : va_P (dC, dI) cls2 (wM cI h0 rw pt ou 0 (gg r_21) (fun _ => 0) (fun _ => 0) 0 0) H1 := hB
        have hD : va_D (aM h0 rw pt ou) (wM cI h0 rw pt ou 0 (gg r_21) (fun _ => 0) (fun _ => 0) 0 0) := dD hD0 rfl
        refine lv_aload_n hx hb d_M_layShort_285 rfl (lv_at hl 0 rfl) ?_
        refine lv_bipush (v := 55) hx hb d_M_layShort_286 (by decide) ?_
        refine lv_bipush (v := 12) hx hb d_M_layShort_288 (by decide) ?_
        refine lv_bipush (v := 9) hx hb d_M_layShort_290 (by decide) ?_
        obtain ⟨r_23, g_24, hf⟩ := Option.bind_eq_some_iff.mp hf
        refine va_callv (va_runV (As := [.int (55), .int (12), .int (9)]) (rest := []) ⟨hx, hb, hml, hown, hts⟩ (c_M_one l (ad := ad) (sk := sk) (sv := sv) (tK := tK) dC dI cI h0 rw pt ou r_21 hm 55 12 9  r_23 g_24) (cwV 3 hts (aw_V aw_431 aw_433 aw_p21 aw_2 aw_434) rfl rfl rfl (by decide +kernel) ⟨Nat.le_of_ble_eq_true rfl, Nat.le_of_ble_eq_true rfl⟩) ⟨wBlind, va_recv hK hP (ci := 1) (q0 := 0) rfl rfl, fun U hU hW => ⟨rfl, by rw [hU]; exact hP, va_K.moved hW.alike hK, hD, hT.at hS hU hW (fun _ z => z)⟩⟩ rfl rfl hl.1 rfl (lv_room (Nat.le_of_ble_eq_true rfl)) d_M_layShort_292 ⟨Nat.le_refl _, Nat.le_refl _⟩) hS (fun _ _ h => h) (fun _ h => h) (fun u t H1 locs ht1 hvm hw hB hz1 hk1 hS => ?_)
        obtain ⟨hw, hm⟩ := hw
        rw [hw] at hB hm
        rw [ht1] at hB
        have hP : va_P (dC, dI) cls2 (wM cI h0 rw pt ou 0 (gg r_23) (fun _ => 0) (fun _ => 0) 0 0) H1 := hB
        have hD : va_D (aM h0 rw pt ou) (wM cI h0 rw pt ou 0 (gg r_23) (fun _ => 0) (fun _ => 0) 0 0) := dD hD0 rfl
        refine lv_aload_n hx hb d_M_layShort_295 rfl (lv_at hl 0 rfl) ?_
        refine lv_bipush (v := 55) hx hb d_M_layShort_296 (by decide) ?_
        refine lv_bipush (v := 7) hx hb d_M_layShort_298 (by decide) ?_
        refine lv_iconst (v := 5) hx hb d_M_layShort_300 (by decide) ?_
        refine lv_iconst (v := 2) hx hb d_M_layShort_301 (by decide) ?_
        obtain ⟨r_25, g_26, hf⟩ := Option.bind_eq_some_iff.mp hf
        refine va_callv (va_runV (As := [.int (55), .int (7), .int (5), .int (2)]) (rest := []) ⟨hx, hb, hml, hown, hts⟩ (c_M_fix l (ad := ad) (sk := sk) (sv := sv) (tK := tK) dC dI cI h0 rw pt ou r_23 hm 55 7 5 2  r_25 g_26) (cwV 4 hts (aw_V aw_397 aw_399 aw_p17 aw_2 aw_400) rfl rfl rfl (by decide +kernel) ⟨Nat.le_of_ble_eq_true rfl, Nat.le_of_ble_eq_true rfl⟩) ⟨wBlind, va_recv hK hP (ci := 1) (q0 := 0) rfl rfl, fun U hU hW => ⟨rfl, by rw [hU]; exact hP, va_K.moved hW.alike hK, hD, hT.at hS hU hW (fun _ z => z)⟩⟩ rfl rfl hl.1 rfl (lv_room (Nat.le_of_ble_eq_true rfl)) d_M_layShort_302 ⟨Nat.le_refl _, Nat.le_refl _⟩) hS (fun _ _ h => h) (fun _ h => h) (fun u t H1 locs ht1 hvm hw hB hz1 hk1 hS => ?_)
        obtain ⟨hw, hm⟩ := hw
        rw [hw] at hB hm
        rw [ht1] at hB
        have hP : va_P (dC, dI) cls2 (wM cI h0 rw pt ou 0 (gg r_25) (fun _ => 0) (fun _ => 0) 0 0) H1 := hB
        have hD : va_D (aM h0 rw pt ou) (wM cI h0 rw pt ou 0 (gg r_25) (fun _ => 0) (fun _ => 0) 0 0) := dD hD0 rfl
        refine lv_aload_n hx hb d_M_layShort_305 rfl (lv_at hl 0 rfl) ?_
        refine lv_bipush (v := 55) hx hb d_M_layShort_306 (by decide) ?_
        refine lv_bipush (v := 6) hx hb d_M_layShort_308 (by decide) ?_
        refine lv_iconst (v := 4) hx hb d_M_layShort_310 (by decide) ?_
        obtain ⟨r_27, g_28, hf⟩ := Option.bind_eq_some_iff.mp hf
        refine va_callv (va_runV (As := [.int (55), .int (6), .int (4)]) (rest := []) ⟨hx, hb, hml, hown, hts⟩ (c_M_one l (ad := ad) (sk := sk) (sv := sv) (tK := tK) dC dI cI h0 rw pt ou r_25 hm 55 6 4  r_27 g_28) (cwV 3 hts (aw_V aw_431 aw_433 aw_p21 aw_2 aw_434) rfl rfl rfl (by decide +kernel) ⟨Nat.le_of_ble_eq_true rfl, Nat.le_of_ble_eq_true rfl⟩) ⟨wBlind, va_recv hK hP (ci := 1) (q0 := 0) rfl rfl, fun U hU hW => ⟨rfl, by rw [hU]; exact hP, va_K.moved hW.alike hK, hD, hT.at hS hU hW (fun _ z => z)⟩⟩ rfl rfl hl.1 rfl (lv_room (Nat.le_of_ble_eq_true rfl)) d_M_layShort_311 ⟨Nat.le_refl _, Nat.le_refl _⟩) hS (fun _ _ h => h) (fun _ h => h) (fun u t H1 locs ht1 hvm hw hB hz1 hk1 hS => ?_)
        obtain ⟨hw, hm⟩ := hw
        rw [hw] at hB hm
        rw [ht1] at hB
        have hP : va_P (dC, dI) cls2 (wM cI h0 rw pt ou 0 (gg r_27) (fun _ => 0) (fun _ => 0) 0 0) H1 := hB
        have hD : va_D (aM h0 rw pt ou) (wM cI h0 rw pt ou 0 (gg r_27) (fun _ => 0) (fun _ => 0) 0 0) := dD hD0 rfl
        refine lv_aload_n hx hb d_M_layShort_314 rfl (lv_at hl 0 rfl) ?_
        refine lv_bipush (v := 55) hx hb d_M_layShort_315 (by decide) ?_
        refine lv_iconst (v := 5) hx hb d_M_layShort_317 (by decide) ?_
        refine lv_bipush (v := 6) hx hb d_M_layShort_318 (by decide) ?_
        obtain ⟨r_29, g_30, hf⟩ := Option.bind_eq_some_iff.mp hf
        refine va_callv (va_runV (As := [.int (55), .int (5), .int (6)]) (rest := []) ⟨hx, hb, hml, hown, hts⟩ (c_M_one l (ad := ad) (sk := sk) (sv := sv) (tK := tK) dC dI cI h0 rw pt ou r_27 hm 55 5 6  r_29 g_30) (cwV 3 hts (aw_V aw_431 aw_433 aw_p21 aw_2 aw_434) rfl rfl rfl (by decide +kernel) ⟨Nat.le_of_ble_eq_true rfl, Nat.le_of_ble_eq_true rfl⟩) ⟨wBlind, va_recv hK hP (ci := 1) (q0 := 0) rfl rfl, fun U hU hW => ⟨rfl, by rw [hU]; exact hP, va_K.moved hW.alike hK, hD, hT.at hS hU hW (fun _ z => z)⟩⟩ rfl rfl hl.1 rfl (lv_room (Nat.le_of_ble_eq_true rfl)) d_M_layShort_320 ⟨Nat.le_refl _, Nat.le_refl _⟩) hS (fun _ _ h => h) (fun _ h => h) (fun u t H1 locs ht1 hvm hw hB hz1 hk1 hS => ?_)
        obtain ⟨hw, hm⟩ := hw
        rw [hw] at hB hm
        rw [ht1] at hB
        have hP : va_P (dC, dI) cls2 (wM cI h0 rw pt ou 0 (gg r_29) (fun _ => 0) (fun _ => 0) 0 0) H1 := hB
        have hD : va_D (aM h0 rw pt ou) (wM cI h0 rw pt ou 0 (gg r_29) (fun _ => 0) (fun _ => 0) 0 0) := dD hD0 rfl
        refine lv_aload_n hx hb d_M_layShort_323 rfl (lv_at hl 0 rfl) ?_
        refine lv_bipush (v := 55) hx hb d_M_layShort_324 (by decide) ?_
        refine lv_iconst (v := 4) hx hb d_M_layShort_326 (by decide) ?_
        refine lv_iconst (v := 3) hx hb d_M_layShort_327 (by decide) ?_
        refine lv_sipush (v := 400) hx hb d_M_layShort_328 (by decide) ?_
        refine lv_bipush (v := 8) hx hb d_M_layShort_331 (by decide) ?_
        obtain ⟨r_31, g_32, hf⟩ := Option.bind_eq_some_iff.mp hf
        refine va_callv (va_runV (As := [.int (55), .int (4), .int (3), .int (400), .int (8)]) (rest := []) ⟨hx, hb, hml, hown, hts⟩ (c_M_lay l (ad := ad) (sk := sk) (sv := sv) (tK := tK) dC dI cI h0 rw pt ou r_29 hm 55 4 3 400 8  r_31 g_32) (cwV 5 hts (aw_V aw_404 aw_406 aw_p18 aw_2 aw_407) rfl rfl rfl (by decide +kernel) ⟨Nat.le_of_ble_eq_true rfl, Nat.le_of_ble_eq_true rfl⟩) ⟨wBlind, va_recv hK hP (ci := 1) (q0 := 0) rfl rfl, fun U hU hW => ⟨rfl, by rw [hU]; exact hP, va_K.moved hW.alike hK, hD, hT.at hS hU hW (fun _ z => z)⟩⟩ rfl rfl hl.1 rfl (lv_room (Nat.le_of_ble_eq_true rfl)) d_M_layShort_333 ⟨Nat.le_refl _, Nat.le_refl _⟩) hS (fun _ _ h => h) (fun _ h => h) (fun u t H1 locs ht1 hvm hw hB hz1 hk1 hS => ?_)
        obtain ⟨hw, hm⟩ := hw
        rw [hw] at hB hm
        rw [ht1] at hB
        have hP : va_P (dC, dI) cls2 (wM cI h0 rw pt ou 0 (gg r_31) (fun _ => 0) (fun _ => 0) 0 0) H1 := hB
        have hD : va_D (aM h0 rw pt ou) (wM cI h0 rw pt ou 0 (gg r_31) (fun _ => 0) (fun _ => 0) 0 0) := dD hD0 rfl
        refine lv_aload_n hx hb d_M_layShort_336 rfl (lv_at hl 0 rfl) ?_
        refine lv_bipush (v := 55) hx hb d_M_layShort_337 (by decide) ?_
        refine lv_iconst (v := 2) hx hb d_M_layShort_339 (by decide) ?_
        refine lv_iconst (v := 5) hx hb d_M_layShort_340 (by decide) ?_
        obtain ⟨r_33, g_34, hf⟩ := Option.bind_eq_some_iff.mp hf
        refine va_callv (va_runV (As := [.int (55), .int (2), .int (5)]) (rest := []) ⟨hx, hb, hml, hown, hts⟩ (c_M_one l (ad := ad) (sk := sk) (sv := sv) (tK := tK) dC dI cI h0 rw pt ou r_31 hm 55 2 5  r_33 g_34) (cwV 3 hts (aw_V aw_431 aw_433 aw_p21 aw_2 aw_434) rfl rfl rfl (by decide +kernel) ⟨Nat.le_of_ble_eq_true rfl, Nat.le_of_ble_eq_true rfl⟩) ⟨wBlind, va_recv hK hP (ci := 1) (q0 := 0) rfl rfl, fun U hU hW => ⟨rfl, by rw [hU]; exact hP, va_K.moved hW.alike hK, hD, hT.at hS hU hW (fun _ z => z)⟩⟩ rfl rfl hl.1 rfl (lv_room (Nat.le_of_ble_eq_true rfl)) d_M_layShort_341 ⟨Nat.le_refl _, Nat.le_refl _⟩) hS (fun _ _ h => h) (fun _ h => h) (fun u t H1 locs ht1 hvm hw hB hz1 hk1 hS => ?_)
        obtain ⟨hw, hm⟩ := hw
        rw [hw] at hB hm
        rw [ht1] at hB
        have hP : va_P (dC, dI) cls2 (wM cI h0 rw pt ou 0 (gg r_33) (fun _ => 0) (fun _ => 0) 0 0) H1 := hB
        have hD : va_D (aM h0 rw pt ou) (wM cI h0 rw pt ou 0 (gg r_33) (fun _ => 0) (fun _ => 0) 0 0) := dD hD0 rfl
        refine lv_bipush (v := 57) hx hb d_M_layShort_344 (by decide) ?_
        refine lv_istore_n (lv' := [(1, .int (57)), (0, .ref (h0))]) hx hb d_M_layShort_346 rfl hl (by decide) rfl (fun ls hl => ?_)
        exact J347 80 57 r_33 _ _ _ hm hP hS (lv_sub hl [1, 0] rfl) hf
      · replace hf := (if_neg c_16).symm.trans hf
        refine lv_iload_n hx hb d_M_layShort_183 rfl (lv_at hl 1 rfl) ?_
        refine lv_bipush (v := 53) hx hb d_M_layShort_184 (by decide) ?_
        refine lv_icmp_eq (tgt := 257) hx hb d_M_layShort_186 (by decide) (fun c_116 => ?_) (fun c_116 => ?_)
        · replace hf := (if_pos c_116).symm.trans hf
          refine lv_iinc (v := x1 + 1) (lv' := [(1, .int (x1 + 1)), (0, .ref (h0))]) hx hb d_M_layShort_257 hl (k := 1) rfl rfl (by decide) rfl (fun ls hl => ?_)
          refine lv_goto (tgt := 177) hx hb d_M_layShort_260 (by decide) ?_
          exact ih177 (x1 + 1) y_mm _ _ _ hm hP hS (lv_sub hl [1, 0] rfl) hf
        · replace hf := (if_neg c_116).symm.trans hf
          refine lv_iload_n hx hb d_M_layShort_189 rfl (lv_at hl 1 rfl) ?_
          refine lv_bipush (v := 55) hx hb d_M_layShort_190 (by decide) ?_
          refine lv_icmp_ne (tgt := 198) hx hb d_M_layShort_192 (by decide) (fun c_117 => ?_) (fun c_117 => ?_)
          · replace hf := (if_neg c_117).symm.trans hf
            refine lv_aload_n hx hb d_M_layShort_198 rfl (lv_at hl 0 rfl) ?_
            refine lv_iload_n hx hb d_M_layShort_199 rfl (lv_at hl 1 rfl) ?_
            refine lv_iload_n hx hb d_M_layShort_200 rfl (lv_at hl 1 rfl) ?_
            refine lv_bipush (v := 52) hx hb d_M_layShort_201 (by decide) ?_
            refine lv_icmp_ne (tgt := 210) hx hb d_M_layShort_203 (by decide) (fun c_118 => ?_) (fun c_118 => ?_)
            · replace hf := (if_neg c_118).symm.trans hf
              refine lv_iload_n hx hb d_M_layShort_210 rfl (lv_at hl 1 rfl) ?_
              refine lv_bipush (v := 54) hx hb d_M_layShort_211 (by decide) ?_
              refine lv_icmp_ne (tgt := 220) hx hb d_M_layShort_213 (by decide) (fun c_119 => ?_) (fun c_119 => ?_)
              · replace hf := (if_neg c_119).symm.trans hf
                refine lv_iconst (v := 3) hx hb d_M_layShort_220 (by decide) ?_
                exact J221 x1 3 x1 y_mm _ _ _ hm hP hS (lv_sub hl [0, 1] rfl) hf
              · replace hf := (if_pos c_119).symm.trans hf
                refine lv_iconst (v := 2) hx hb d_M_layShort_216 (by decide) ?_
                refine lv_goto (tgt := 221) hx hb d_M_layShort_217 (by decide) ?_
                exact J221 x1 2 x1 y_mm _ _ _ hm hP hS (lv_sub hl [0, 1] rfl) hf
            · replace hf := (if_pos c_118).symm.trans hf
              refine lv_iconst (v := 0) hx hb d_M_layShort_206 (by decide) ?_
              refine lv_goto (tgt := 221) hx hb d_M_layShort_207 (by decide) ?_
              exact J221 x1 0 x1 y_mm _ _ _ hm hP hS (lv_sub hl [0, 1] rfl) hf
          · replace hf := (if_pos c_117).symm.trans hf
            refine lv_goto (tgt := 257) hx hb d_M_layShort_195 (by decide) ?_
            refine lv_iinc (v := x1 + 1) (lv' := [(1, .int (x1 + 1)), (0, .ref (h0))]) hx hb d_M_layShort_257 hl (k := 1) rfl rfl (by decide) rfl (fun ls hl => ?_)
            refine lv_goto (tgt := 177) hx hb d_M_layShort_260 (by decide) ?_
            exact ih177 (x1 + 1) y_mm _ _ _ hm hP hS (lv_sub hl [1, 0] rfl) hf
  have J69 : ∀ (n69 : Nat) (x1 : Int32) (y_mm : List (List Int32)) (H : Heap) (locs : List Loc) (ls : Array Slot), gw y_mm → va_P (dC, dI) cls2 (wM cI h0 rw pt ou 0 (gg y_mm) (fun _ => 0) (fun _ => 0) 0 0) H → va_S (aM h0 rw pt ou) s.heap H locs → lv_has ls 2 [(0, .ref (h0)), (1, .int (x1))] → f_M_layShort_L69 w_mm  n69 x1 y_mm = some r → wW p l e (headSpec (Cond.code y_M_layShort b_M_layShort 2 (Option.none : Option FieldType) :: aw) ({ frames := 3, cells := 0, slots := 0, locals := 70 } : Room)).room s m ([.ref (h0)] : List Value).toArray below meth c (va_Qv (fun u => u = r ∧ gw u) (fun (u : List (List Int32)) t => va_P (dC, dI) cls2 (wM cI h0 rw pt ou 0 (gg u) (fun _ => 0) (fun _ => 0) 0 0) t.heap) (aM h0 rw pt ou)) (aM h0 rw pt ou) H locs (F0 m 69 ls []) := by
    intro n69
    induction n69 with
    | zero =>
      intro x1 y_mm H locs ls hm hP hS hl hf
      rw [f_M_layShort_L69] at hf
      cases hf
    | succ n69 ih69 =>
      intro x1 y_mm H locs ls hm hP hS hl hf
      rw [f_M_layShort_L69] at hf
      have hD : va_D (aM h0 rw pt ou) (wM cI h0 rw pt ou 0 (gg y_mm) (fun _ => 0) (fun _ => 0) 0 0) := dD hD0 rfl
      have J89 : ∀ (x1 : Int32) (t0 : Int32) (t1 : Int32) (y_mm : List (List Int32)) (H : Heap) (locs : List Loc) (ls : Array Slot), gw y_mm → va_P (dC, dI) cls2 (wM cI h0 rw pt ou 0 (gg y_mm) (fun _ => 0) (fun _ => 0) 0 0) H → va_S (aM h0 rw pt ou) s.heap H locs → lv_has ls 2 [(0, .ref (h0)), (1, .int (x1))] → f_M_layShort_L89 w_mm (fun y0 y1 => f_M_layShort_L69 w_mm  n69 y0 y1) x1 t0 t1 y_mm = some r → wW p l e (headSpec (Cond.code y_M_layShort b_M_layShort 2 (Option.none : Option FieldType) :: aw) ({ frames := 3, cells := 0, slots := 0, locals := 70 } : Room)).room s m ([.ref (h0)] : List Value).toArray below meth c (va_Qv (fun u => u = r ∧ gw u) (fun (u : List (List Int32)) t => va_P (dC, dI) cls2 (wM cI h0 rw pt ou 0 (gg u) (fun _ => 0) (fun _ => 0) 0 0) t.heap) (aM h0 rw pt ou)) (aM h0 rw pt ou) H locs (F0 m 89 ls [.int (t0), .int (t1), .ref (h0)]) := by
        intro x1 t0 t1 y_mm H locs ls hm hP hS hl hf
        rw [f_M_layShort_L89] at hf
        have hD : va_D (aM h0 rw pt ou) (wM cI h0 rw pt ou 0 (gg y_mm) (fun _ => 0) (fun _ => 0) 0 0) := dD hD0 rfl
        refine lv_iconst (v := 0) hx hb d_M_layShort_89 (by decide) ?_
        obtain ⟨r_129, g_130, hf⟩ := Option.bind_eq_some_iff.mp hf
        refine va_callv (va_runV (As := [.int (t1), .int (t0), .int (0)]) (rest := []) ⟨hx, hb, hml, hown, hts⟩ (c_M_ends l (ad := ad) (sk := sk) (sv := sv) (tK := tK) dC dI cI h0 rw pt ou y_mm hm t1 t0 0  r_129 g_130) (cwV 3 hts (aw_V aw_427 aw_429 aw_p20 aw_2 aw_430) rfl rfl rfl (by decide +kernel) ⟨Nat.le_of_ble_eq_true rfl, Nat.le_of_ble_eq_true rfl⟩) ⟨wBlind, va_recv hK hP (ci := 1) (q0 := 0) rfl rfl, fun U hU hW => ⟨rfl, by rw [hU]; exact hP, va_K.moved hW.alike hK, hD, hT.at hS hU hW (fun _ z => z)⟩⟩ rfl rfl hl.1 rfl (lv_room (Nat.le_of_ble_eq_true rfl)) d_M_layShort_90 ⟨Nat.le_refl _, Nat.le_refl _⟩) hS (fun _ _ h => h) (fun _ h => h) (fun u t H1 locs ht1 hvm hw hB hz1 hk1 hS => ?_)
        obtain ⟨hw, hm⟩ := hw
        rw [hw] at hB hm
        rw [ht1] at hB
        have hP : va_P (dC, dI) cls2 (wM cI h0 rw pt ou 0 (gg r_129) (fun _ => 0) (fun _ => 0) 0 0) H1 := hB
        have hD : va_D (aM h0 rw pt ou) (wM cI h0 rw pt ou 0 (gg r_129) (fun _ => 0) (fun _ => 0) 0 0) := dD hD0 rfl
        refine lv_aload_n hx hb d_M_layShort_93 rfl (lv_at hl 0 rfl) ?_
        refine lv_iload_n hx hb d_M_layShort_94 rfl (lv_at hl 1 rfl) ?_
        refine lv_bipush (v := 12) hx hb d_M_layShort_95 (by decide) ?_
        refine lv_bipush (v := 10) hx hb d_M_layShort_97 (by decide) ?_
        refine lv_sipush (v := 400) hx hb d_M_layShort_99 (by decide) ?_
        refine lv_iconst (v := 5) hx hb d_M_layShort_102 (by decide) ?_
        obtain ⟨r_131, g_132, hf⟩ := Option.bind_eq_some_iff.mp hf
        refine va_callv (va_runV (As := [.int (x1), .int (12), .int (10), .int (400), .int (5)]) (rest := []) ⟨hx, hb, hml, hown, hts⟩ (c_M_lay l (ad := ad) (sk := sk) (sv := sv) (tK := tK) dC dI cI h0 rw pt ou r_129 hm x1 12 10 400 5  r_131 g_132) (cwV 5 hts (aw_V aw_404 aw_406 aw_p18 aw_2 aw_407) rfl rfl rfl (by decide +kernel) ⟨Nat.le_of_ble_eq_true rfl, Nat.le_of_ble_eq_true rfl⟩) ⟨wBlind, va_recv hK hP (ci := 1) (q0 := 0) rfl rfl, fun U hU hW => ⟨rfl, by rw [hU]; exact hP, va_K.moved hW.alike hK, hD, hT.at hS hU hW (fun _ z => z)⟩⟩ rfl rfl hl.1 rfl (lv_room (Nat.le_of_ble_eq_true rfl)) d_M_layShort_103 ⟨Nat.le_refl _, Nat.le_refl _⟩) hS (fun _ _ h => h) (fun _ h => h) (fun u t H1 locs ht1 hvm hw hB hz1 hk1 hS => ?_)
        obtain ⟨hw, hm⟩ := hw
        rw [hw] at hB hm
        rw [ht1] at hB
        have hP : va_P (dC, dI) cls2 (wM cI h0 rw pt ou 0 (gg r_131) (fun _ => 0) (fun _ => 0) 0 0) H1 := hB
        have hD : va_D (aM h0 rw pt ou) (wM cI h0 rw pt ou 0 (gg r_131) (fun _ => 0) (fun _ => 0) 0 0) := dD hD0 rfl
        refine lv_aload_n hx hb d_M_layShort_106 rfl (lv_at hl 0 rfl) ?_
        refine lv_iload_n hx hb d_M_layShort_107 rfl (lv_at hl 1 rfl) ?_
        refine lv_bipush (v := 9) hx hb d_M_layShort_108 (by decide) ?_
        refine lv_bipush (v := 7) hx hb d_M_layShort_110 (by decide) ?_
        refine lv_sipush (v := 600) hx hb d_M_layShort_112 (by decide) ?_
        refine lv_iconst (v := 2) hx hb d_M_layShort_115 (by decide) ?_
        obtain ⟨r_133, g_134, hf⟩ := Option.bind_eq_some_iff.mp hf
        refine va_callv (va_runV (As := [.int (x1), .int (9), .int (7), .int (600), .int (2)]) (rest := []) ⟨hx, hb, hml, hown, hts⟩ (c_M_lay l (ad := ad) (sk := sk) (sv := sv) (tK := tK) dC dI cI h0 rw pt ou r_131 hm x1 9 7 600 2  r_133 g_134) (cwV 5 hts (aw_V aw_404 aw_406 aw_p18 aw_2 aw_407) rfl rfl rfl (by decide +kernel) ⟨Nat.le_of_ble_eq_true rfl, Nat.le_of_ble_eq_true rfl⟩) ⟨wBlind, va_recv hK hP (ci := 1) (q0 := 0) rfl rfl, fun U hU hW => ⟨rfl, by rw [hU]; exact hP, va_K.moved hW.alike hK, hD, hT.at hS hU hW (fun _ z => z)⟩⟩ rfl rfl hl.1 rfl (lv_room (Nat.le_of_ble_eq_true rfl)) d_M_layShort_116 ⟨Nat.le_refl _, Nat.le_refl _⟩) hS (fun _ _ h => h) (fun _ h => h) (fun u t H1 locs ht1 hvm hw hB hz1 hk1 hS => ?_)
        obtain ⟨hw, hm⟩ := hw
        rw [hw] at hB hm
        rw [ht1] at hB
        have hP : va_P (dC, dI) cls2 (wM cI h0 rw pt ou 0 (gg r_133) (fun _ => 0) (fun _ => 0) 0 0) H1 := hB
        have hD : va_D (aM h0 rw pt ou) (wM cI h0 rw pt ou 0 (gg r_133) (fun _ => 0) (fun _ => 0) 0 0) := dD hD0 rfl
        refine lv_aload_n hx hb d_M_layShort_119 rfl (lv_at hl 0 rfl) ?_
        refine lv_iload_n hx hb d_M_layShort_120 rfl (lv_at hl 1 rfl) ?_
        refine lv_bipush (v := 6) hx hb d_M_layShort_121 (by decide) ?_
        refine lv_iconst (v := 2) hx hb d_M_layShort_123 (by decide) ?_
        obtain ⟨r_135, g_136, hf⟩ := Option.bind_eq_some_iff.mp hf
        refine va_callv (va_runV (As := [.int (x1), .int (6), .int (2)]) (rest := []) ⟨hx, hb, hml, hown, hts⟩ (c_M_one l (ad := ad) (sk := sk) (sv := sv) (tK := tK) dC dI cI h0 rw pt ou r_133 hm x1 6 2  r_135 g_136) (cwV 3 hts (aw_V aw_431 aw_433 aw_p21 aw_2 aw_434) rfl rfl rfl (by decide +kernel) ⟨Nat.le_of_ble_eq_true rfl, Nat.le_of_ble_eq_true rfl⟩) ⟨wBlind, va_recv hK hP (ci := 1) (q0 := 0) rfl rfl, fun U hU hW => ⟨rfl, by rw [hU]; exact hP, va_K.moved hW.alike hK, hD, hT.at hS hU hW (fun _ z => z)⟩⟩ rfl rfl hl.1 rfl (lv_room (Nat.le_of_ble_eq_true rfl)) d_M_layShort_124 ⟨Nat.le_refl _, Nat.le_refl _⟩) hS (fun _ _ h => h) (fun _ h => h) (fun u t H1 locs ht1 hvm hw hB hz1 hk1 hS => ?_)
        obtain ⟨hw, hm⟩ := hw
        rw [hw] at hB hm
        rw [ht1] at hB
        have hP : va_P (dC, dI) cls2 (wM cI h0 rw pt ou 0 (gg r_135) (fun _ => 0) (fun _ => 0) 0 0) H1 := hB
        have hD : va_D (aM h0 rw pt ou) (wM cI h0 rw pt ou 0 (gg r_135) (fun _ => 0) (fun _ => 0) 0 0) := dD hD0 rfl
        refine lv_aload_n hx hb d_M_layShort_127 rfl (lv_at hl 0 rfl) ?_
        refine lv_iload_n hx hb d_M_layShort_128 rfl (lv_at hl 1 rfl) ?_
        refine lv_iconst (v := 5) hx hb d_M_layShort_129 (by decide) ?_
        refine lv_bipush (v := 6) hx hb d_M_layShort_130 (by decide) ?_
        obtain ⟨r_137, g_138, hf⟩ := Option.bind_eq_some_iff.mp hf
        refine va_callv (va_runV (As := [.int (x1), .int (5), .int (6)]) (rest := []) ⟨hx, hb, hml, hown, hts⟩ (c_M_one l (ad := ad) (sk := sk) (sv := sv) (tK := tK) dC dI cI h0 rw pt ou r_135 hm x1 5 6  r_137 g_138) (cwV 3 hts (aw_V aw_431 aw_433 aw_p21 aw_2 aw_434) rfl rfl rfl (by decide +kernel) ⟨Nat.le_of_ble_eq_true rfl, Nat.le_of_ble_eq_true rfl⟩) ⟨wBlind, va_recv hK hP (ci := 1) (q0 := 0) rfl rfl, fun U hU hW => ⟨rfl, by rw [hU]; exact hP, va_K.moved hW.alike hK, hD, hT.at hS hU hW (fun _ z => z)⟩⟩ rfl rfl hl.1 rfl (lv_room (Nat.le_of_ble_eq_true rfl)) d_M_layShort_132 ⟨Nat.le_refl _, Nat.le_refl _⟩) hS (fun _ _ h => h) (fun _ h => h) (fun u t H1 locs ht1 hvm hw hB hz1 hk1 hS => ?_)
        obtain ⟨hw, hm⟩ := hw
        rw [hw] at hB hm
        rw [ht1] at hB
        have hP : va_P (dC, dI) cls2 (wM cI h0 rw pt ou 0 (gg r_137) (fun _ => 0) (fun _ => 0) 0 0) H1 := hB
        have hD : va_D (aM h0 rw pt ou) (wM cI h0 rw pt ou 0 (gg r_137) (fun _ => 0) (fun _ => 0) 0 0) := dD hD0 rfl
        refine lv_aload_n hx hb d_M_layShort_135 rfl (lv_at hl 0 rfl) ?_
        refine lv_iload_n hx hb d_M_layShort_136 rfl (lv_at hl 1 rfl) ?_
        refine lv_iconst (v := 4) hx hb d_M_layShort_137 (by decide) ?_
        refine lv_iconst (v := 2) hx hb d_M_layShort_138 (by decide) ?_
        refine lv_iload_n hx hb d_M_layShort_139 rfl (lv_at hl 1 rfl) ?_
        refine lv_bipush (v := 49) hx hb d_M_layShort_140 (by decide) ?_
        refine lv_icmp_ne (tgt := 151) hx hb d_M_layShort_142 (by decide) (fun c_139 => ?_) (fun c_139 => ?_)
        · replace hf := (if_neg c_139).symm.trans hf
          refine lv_sipush (v := 700) hx hb d_M_layShort_151 (by decide) ?_
          refine lv_iconst (v := 2) hx hb d_M_layShort_154 (by decide) ?_
          obtain ⟨r_140, g_141, hf⟩ := Option.bind_eq_some_iff.mp hf
          refine va_callv (va_runV (As := [.int (x1), .int (4), .int (2), .int (700), .int (2)]) (rest := []) ⟨hx, hb, hml, hown, hts⟩ (c_M_lay l (ad := ad) (sk := sk) (sv := sv) (tK := tK) dC dI cI h0 rw pt ou r_137 hm x1 4 2 700 2  r_140 g_141) (cwV 5 hts (aw_V aw_404 aw_406 aw_p18 aw_2 aw_407) rfl rfl rfl (by decide +kernel) ⟨Nat.le_of_ble_eq_true rfl, Nat.le_of_ble_eq_true rfl⟩) ⟨wBlind, va_recv hK hP (ci := 1) (q0 := 0) rfl rfl, fun U hU hW => ⟨rfl, by rw [hU]; exact hP, va_K.moved hW.alike hK, hD, hT.at hS hU hW (fun _ z => z)⟩⟩ rfl rfl hl.1 rfl (lv_room (Nat.le_of_ble_eq_true rfl)) d_M_layShort_155 ⟨Nat.le_refl _, Nat.le_refl _⟩) hS (fun _ _ h => h) (fun _ h => h) (fun u t H1 locs ht1 hvm hw hB hz1 hk1 hS => ?_)
          obtain ⟨hw, hm⟩ := hw
          rw [hw] at hB hm
          rw [ht1] at hB
          have hP : va_P (dC, dI) cls2 (wM cI h0 rw pt ou 0 (gg r_140) (fun _ => 0) (fun _ => 0) 0 0) H1 := hB
          have hD : va_D (aM h0 rw pt ou) (wM cI h0 rw pt ou 0 (gg r_140) (fun _ => 0) (fun _ => 0) 0 0) := dD hD0 rfl
          refine lv_iinc (v := x1 + 1) (lv' := [(1, .int (x1 + 1)), (0, .ref (h0))]) hx hb d_M_layShort_158 hl (k := 1) rfl rfl (by decide) rfl (fun ls hl => ?_)
          refine lv_goto (tgt := 69) hx hb d_M_layShort_161 (by decide) ?_
          exact ih69 (x1 + 1) r_140 _ _ _ hm hP hS (lv_sub hl [1, 0] rfl) hf
        · replace hf := (if_pos c_139).symm.trans hf
          refine lv_sipush (v := 500) hx hb d_M_layShort_145 (by decide) ?_
          refine lv_goto (tgt := 154) hx hb d_M_layShort_148 (by decide) ?_
          refine lv_iconst (v := 2) hx hb d_M_layShort_154 (by decide) ?_
          obtain ⟨r_142, g_143, hf⟩ := Option.bind_eq_some_iff.mp hf
          refine va_callv (va_runV (As := [.int (x1), .int (4), .int (2), .int (500), .int (2)]) (rest := []) ⟨hx, hb, hml, hown, hts⟩ (c_M_lay l (ad := ad) (sk := sk) (sv := sv) (tK := tK) dC dI cI h0 rw pt ou r_137 hm x1 4 2 500 2  r_142 g_143) (cwV 5 hts (aw_V aw_404 aw_406 aw_p18 aw_2 aw_407) rfl rfl rfl (by decide +kernel) ⟨Nat.le_of_ble_eq_true rfl, Nat.le_of_ble_eq_true rfl⟩) ⟨wBlind, va_recv hK hP (ci := 1) (q0 := 0) rfl rfl, fun U hU hW => ⟨rfl, by rw [hU]; exact hP, va_K.moved hW.alike hK, hD, hT.at hS hU hW (fun _ z => z)⟩⟩ rfl rfl hl.1 rfl (lv_room (Nat.le_of_ble_eq_true rfl)) d_M_layShort_155 ⟨Nat.le_refl _, Nat.le_refl _⟩) hS (fun _ _ h => h) (fun _ h => h) (fun u t H1 locs ht1 hvm hw hB hz1 hk1 hS => ?_)
          obtain ⟨hw, hm⟩ := hw
          rw [hw] at hB hm
          rw [ht1] at hB
          have hP : va_P (dC, dI) cls2 (wM cI h0 rw pt ou 0 (gg r_142) (fun _ => 0) (fun _ => 0) 0 0) H1 := hB
          have hD : va_D (aM h0 rw pt ou) (wM cI h0 rw pt ou 0 (gg r_142) (fun _ => 0) (fun _ => 0) 0 0) := dD hD0 rfl
          refine lv_iinc (v := x1 + 1) (lv' := [(1, .int (x1 + 1)), (0, .ref (h0))]) hx hb d_M_layShort_158 hl (k := 1) rfl rfl (by decide) rfl (fun ls hl => ?_)
          refine lv_goto (tgt := 69) hx hb d_M_layShort_161 (by decide) ?_
          exact ih69 (x1 + 1) r_142 _ _ _ hm hP hS (lv_sub hl [1, 0] rfl) hf
      refine lv_iload_n hx hb d_M_layShort_69 rfl (lv_at hl 1 rfl) ?_
      refine lv_bipush (v := 51) hx hb d_M_layShort_70 (by decide) ?_
      refine lv_icmp_ge (tgt := 164) hx hb d_M_layShort_72 (by decide) (fun c_13 => ?_) (fun c_13 => ?_)
      · replace hf := (if_pos c_13).symm.trans hf
        refine lv_aload_n hx hb d_M_layShort_164 rfl (lv_at hl 0 rfl) ?_
        refine lv_bipush (v := 51) hx hb d_M_layShort_165 (by decide) ?_
        refine lv_iconst (v := 0) hx hb d_M_layShort_167 (by decide) ?_
        refine lv_bipush (v := 16) hx hb d_M_layShort_168 (by decide) ?_
        refine lv_iconst (v := 1) hx hb d_M_layShort_170 (by decide) ?_
        obtain ⟨r_14, g_15, hf⟩ := Option.bind_eq_some_iff.mp hf
        refine va_callv (va_runV (As := [.int (51), .int (0), .int (16), .int (1)]) (rest := []) ⟨hx, hb, hml, hown, hts⟩ (c_M_fix l (ad := ad) (sk := sk) (sv := sv) (tK := tK) dC dI cI h0 rw pt ou y_mm hm 51 0 16 1  r_14 g_15) (cwV 4 hts (aw_V aw_397 aw_399 aw_p17 aw_2 aw_400) rfl rfl rfl (by decide +kernel) ⟨Nat.le_of_ble_eq_true rfl, Nat.le_of_ble_eq_true rfl⟩) ⟨wBlind, va_recv hK hP (ci := 1) (q0 := 0) rfl rfl, fun U hU hW => ⟨rfl, by rw [hU]; exact hP, va_K.moved hW.alike hK, hD, hT.at hS hU hW (fun _ z => z)⟩⟩ rfl rfl hl.1 rfl (lv_room (Nat.le_of_ble_eq_true rfl)) d_M_layShort_171 ⟨Nat.le_refl _, Nat.le_refl _⟩) hS (fun _ _ h => h) (fun _ h => h) (fun u t H1 locs ht1 hvm hw hB hz1 hk1 hS => ?_)
        obtain ⟨hw, hm⟩ := hw
        rw [hw] at hB hm
        rw [ht1] at hB
        have hP : va_P (dC, dI) cls2 (wM cI h0 rw pt ou 0 (gg r_14) (fun _ => 0) (fun _ => 0) 0 0) H1 := hB
        have hD : va_D (aM h0 rw pt ou) (wM cI h0 rw pt ou 0 (gg r_14) (fun _ => 0) (fun _ => 0) 0 0) := dD hD0 rfl
        refine lv_bipush (v := 52) hx hb d_M_layShort_174 (by decide) ?_
        refine lv_istore_n (lv' := [(1, .int (52)), (0, .ref (h0))]) hx hb d_M_layShort_176 rfl hl (by decide) rfl (fun ls hl => ?_)
        exact J177 80 52 r_14 _ _ _ hm hP hS (lv_sub hl [1, 0] rfl) hf
      · replace hf := (if_neg c_13).symm.trans hf
        refine lv_aload_n hx hb d_M_layShort_75 rfl (lv_at hl 0 rfl) ?_
        refine lv_iload_n hx hb d_M_layShort_76 rfl (lv_at hl 1 rfl) ?_
        refine lv_iload_n hx hb d_M_layShort_77 rfl (lv_at hl 1 rfl) ?_
        refine lv_bipush (v := 49) hx hb d_M_layShort_78 (by decide) ?_
        refine lv_icmp_ne (tgt := 87) hx hb d_M_layShort_80 (by decide) (fun c_128 => ?_) (fun c_128 => ?_)
        · replace hf := (if_neg c_128).symm.trans hf
          refine lv_bipush (v := 6) hx hb d_M_layShort_87 (by decide) ?_
          exact J89 x1 6 x1 y_mm _ _ _ hm hP hS (lv_sub hl [0, 1] rfl) hf
        · replace hf := (if_pos c_128).symm.trans hf
          refine lv_iconst (v := 2) hx hb d_M_layShort_83 (by decide) ?_
          refine lv_goto (tgt := 89) hx hb d_M_layShort_84 (by decide) ?_
          exact J89 x1 2 x1 y_mm _ _ _ hm hP hS (lv_sub hl [0, 1] rfl) hf
  rw [f_M_layShort] at hf
  refine lv_aload_n hx hb d_M_layShort_0 rfl (lv_at hl 0 rfl) ?_
  refine lv_bipush (v := 48) hx hb d_M_layShort_1 (by decide) ?_
  refine lv_iconst (v := 0) hx hb d_M_layShort_3 (by decide) ?_
  refine lv_iconst (v := 0) hx hb d_M_layShort_4 (by decide) ?_
  obtain ⟨r_1, g_2, hf⟩ := Option.bind_eq_some_iff.mp hf
  refine va_callv (va_runV (As := [.int (48), .int (0), .int (0)]) (rest := []) ⟨hx, hb, hml, hown, hts⟩ (c_M_ends l (ad := ad) (sk := sk) (sv := sv) (tK := tK) dC dI cI h0 rw pt ou w_mm hm 48 0 0  r_1 g_2) (cwV 3 hts (aw_V aw_427 aw_429 aw_p20 aw_2 aw_430) rfl rfl rfl (by decide +kernel) ⟨Nat.le_of_ble_eq_true rfl, Nat.le_of_ble_eq_true rfl⟩) ⟨wBlind, va_recv hK hP (ci := 1) (q0 := 0) rfl rfl, fun U hU hW => ⟨rfl, by rw [hU]; exact hP, va_K.moved hW.alike hK, hD, hT.at hS hU hW (fun _ z => z)⟩⟩ rfl rfl hl.1 rfl (lv_room (Nat.le_of_ble_eq_true rfl)) d_M_layShort_5 ⟨Nat.le_refl _, Nat.le_refl _⟩) hS (fun _ _ h => h) (fun _ h => h) (fun u t H1 locs ht1 hvm hw hB hz1 hk1 hS => ?_)
  obtain ⟨hw, hm⟩ := hw
  rw [hw] at hB hm
  rw [ht1] at hB
  have hP : va_P (dC, dI) cls2 (wM cI h0 rw pt ou 0 (gg r_1) (fun _ => 0) (fun _ => 0) 0 0) H1 := hB
  have hD : va_D (aM h0 rw pt ou) (wM cI h0 rw pt ou 0 (gg r_1) (fun _ => 0) (fun _ => 0) 0 0) := dD hD0 rfl
  refine lv_aload_n hx hb d_M_layShort_8 rfl (lv_at hl 0 rfl) ?_
  refine lv_bipush (v := 48) hx hb d_M_layShort_9 (by decide) ?_
  refine lv_bipush (v := 12) hx hb d_M_layShort_11 (by decide) ?_
  refine lv_bipush (v := 11) hx hb d_M_layShort_13 (by decide) ?_
  refine lv_sipush (v := 400) hx hb d_M_layShort_15 (by decide) ?_
  refine lv_iconst (v := 5) hx hb d_M_layShort_18 (by decide) ?_
  obtain ⟨r_3, g_4, hf⟩ := Option.bind_eq_some_iff.mp hf
  refine va_callv (va_runV (As := [.int (48), .int (12), .int (11), .int (400), .int (5)]) (rest := []) ⟨hx, hb, hml, hown, hts⟩ (c_M_lay l (ad := ad) (sk := sk) (sv := sv) (tK := tK) dC dI cI h0 rw pt ou r_1 hm 48 12 11 400 5  r_3 g_4) (cwV 5 hts (aw_V aw_404 aw_406 aw_p18 aw_2 aw_407) rfl rfl rfl (by decide +kernel) ⟨Nat.le_of_ble_eq_true rfl, Nat.le_of_ble_eq_true rfl⟩) ⟨wBlind, va_recv hK hP (ci := 1) (q0 := 0) rfl rfl, fun U hU hW => ⟨rfl, by rw [hU]; exact hP, va_K.moved hW.alike hK, hD, hT.at hS hU hW (fun _ z => z)⟩⟩ rfl rfl hl.1 rfl (lv_room (Nat.le_of_ble_eq_true rfl)) d_M_layShort_19 ⟨Nat.le_refl _, Nat.le_refl _⟩) hS (fun _ _ h => h) (fun _ h => h) (fun u t H1 locs ht1 hvm hw hB hz1 hk1 hS => ?_)
  obtain ⟨hw, hm⟩ := hw
  rw [hw] at hB hm
  rw [ht1] at hB
  have hP : va_P (dC, dI) cls2 (wM cI h0 rw pt ou 0 (gg r_3) (fun _ => 0) (fun _ => 0) 0 0) H1 := hB
  have hD : va_D (aM h0 rw pt ou) (wM cI h0 rw pt ou 0 (gg r_3) (fun _ => 0) (fun _ => 0) 0 0) := dD hD0 rfl
  refine lv_aload_n hx hb d_M_layShort_22 rfl (lv_at hl 0 rfl) ?_
  refine lv_bipush (v := 48) hx hb d_M_layShort_23 (by decide) ?_
  refine lv_bipush (v := 10) hx hb d_M_layShort_25 (by decide) ?_
  refine lv_bipush (v := 7) hx hb d_M_layShort_27 (by decide) ?_
  refine lv_sipush (v := 400) hx hb d_M_layShort_29 (by decide) ?_
  refine lv_bipush (v := 9) hx hb d_M_layShort_32 (by decide) ?_
  obtain ⟨r_5, g_6, hf⟩ := Option.bind_eq_some_iff.mp hf
  refine va_callv (va_runV (As := [.int (48), .int (10), .int (7), .int (400), .int (9)]) (rest := []) ⟨hx, hb, hml, hown, hts⟩ (c_M_lay l (ad := ad) (sk := sk) (sv := sv) (tK := tK) dC dI cI h0 rw pt ou r_3 hm 48 10 7 400 9  r_5 g_6) (cwV 5 hts (aw_V aw_404 aw_406 aw_p18 aw_2 aw_407) rfl rfl rfl (by decide +kernel) ⟨Nat.le_of_ble_eq_true rfl, Nat.le_of_ble_eq_true rfl⟩) ⟨wBlind, va_recv hK hP (ci := 1) (q0 := 0) rfl rfl, fun U hU hW => ⟨rfl, by rw [hU]; exact hP, va_K.moved hW.alike hK, hD, hT.at hS hU hW (fun _ z => z)⟩⟩ rfl rfl hl.1 rfl (lv_room (Nat.le_of_ble_eq_true rfl)) d_M_layShort_34 ⟨Nat.le_refl _, Nat.le_refl _⟩) hS (fun _ _ h => h) (fun _ h => h) (fun u t H1 locs ht1 hvm hw hB hz1 hk1 hS => ?_)
  obtain ⟨hw, hm⟩ := hw
  rw [hw] at hB hm
  rw [ht1] at hB
  have hP : va_P (dC, dI) cls2 (wM cI h0 rw pt ou 0 (gg r_5) (fun _ => 0) (fun _ => 0) 0 0) H1 := hB
  have hD : va_D (aM h0 rw pt ou) (wM cI h0 rw pt ou 0 (gg r_5) (fun _ => 0) (fun _ => 0) 0 0) := dD hD0 rfl
  refine lv_aload_n hx hb d_M_layShort_37 rfl (lv_at hl 0 rfl) ?_
  refine lv_bipush (v := 48) hx hb d_M_layShort_38 (by decide) ?_
  refine lv_bipush (v := 6) hx hb d_M_layShort_40 (by decide) ?_
  refine lv_iconst (v := 2) hx hb d_M_layShort_42 (by decide) ?_
  obtain ⟨r_7, g_8, hf⟩ := Option.bind_eq_some_iff.mp hf
  refine va_callv (va_runV (As := [.int (48), .int (6), .int (2)]) (rest := []) ⟨hx, hb, hml, hown, hts⟩ (c_M_one l (ad := ad) (sk := sk) (sv := sv) (tK := tK) dC dI cI h0 rw pt ou r_5 hm 48 6 2  r_7 g_8) (cwV 3 hts (aw_V aw_431 aw_433 aw_p21 aw_2 aw_434) rfl rfl rfl (by decide +kernel) ⟨Nat.le_of_ble_eq_true rfl, Nat.le_of_ble_eq_true rfl⟩) ⟨wBlind, va_recv hK hP (ci := 1) (q0 := 0) rfl rfl, fun U hU hW => ⟨rfl, by rw [hU]; exact hP, va_K.moved hW.alike hK, hD, hT.at hS hU hW (fun _ z => z)⟩⟩ rfl rfl hl.1 rfl (lv_room (Nat.le_of_ble_eq_true rfl)) d_M_layShort_43 ⟨Nat.le_refl _, Nat.le_refl _⟩) hS (fun _ _ h => h) (fun _ h => h) (fun u t H1 locs ht1 hvm hw hB hz1 hk1 hS => ?_)
  obtain ⟨hw, hm⟩ := hw
  rw [hw] at hB hm
  rw [ht1] at hB
  have hP : va_P (dC, dI) cls2 (wM cI h0 rw pt ou 0 (gg r_7) (fun _ => 0) (fun _ => 0) 0 0) H1 := hB
  have hD : va_D (aM h0 rw pt ou) (wM cI h0 rw pt ou 0 (gg r_7) (fun _ => 0) (fun _ => 0) 0 0) := dD hD0 rfl
  refine lv_aload_n hx hb d_M_layShort_46 rfl (lv_at hl 0 rfl) ?_
  refine lv_bipush (v := 48) hx hb d_M_layShort_47 (by decide) ?_
  refine lv_iconst (v := 5) hx hb d_M_layShort_49 (by decide) ?_
  refine lv_iconst (v := 3) hx hb d_M_layShort_50 (by decide) ?_
  obtain ⟨r_9, g_10, hf⟩ := Option.bind_eq_some_iff.mp hf
  refine va_callv (va_runV (As := [.int (48), .int (5), .int (3)]) (rest := []) ⟨hx, hb, hml, hown, hts⟩ (c_M_one l (ad := ad) (sk := sk) (sv := sv) (tK := tK) dC dI cI h0 rw pt ou r_7 hm 48 5 3  r_9 g_10) (cwV 3 hts (aw_V aw_431 aw_433 aw_p21 aw_2 aw_434) rfl rfl rfl (by decide +kernel) ⟨Nat.le_of_ble_eq_true rfl, Nat.le_of_ble_eq_true rfl⟩) ⟨wBlind, va_recv hK hP (ci := 1) (q0 := 0) rfl rfl, fun U hU hW => ⟨rfl, by rw [hU]; exact hP, va_K.moved hW.alike hK, hD, hT.at hS hU hW (fun _ z => z)⟩⟩ rfl rfl hl.1 rfl (lv_room (Nat.le_of_ble_eq_true rfl)) d_M_layShort_51 ⟨Nat.le_refl _, Nat.le_refl _⟩) hS (fun _ _ h => h) (fun _ h => h) (fun u t H1 locs ht1 hvm hw hB hz1 hk1 hS => ?_)
  obtain ⟨hw, hm⟩ := hw
  rw [hw] at hB hm
  rw [ht1] at hB
  have hP : va_P (dC, dI) cls2 (wM cI h0 rw pt ou 0 (gg r_9) (fun _ => 0) (fun _ => 0) 0 0) H1 := hB
  have hD : va_D (aM h0 rw pt ou) (wM cI h0 rw pt ou 0 (gg r_9) (fun _ => 0) (fun _ => 0) 0 0) := dD hD0 rfl
  refine lv_aload_n hx hb d_M_layShort_54 rfl (lv_at hl 0 rfl) ?_
  refine lv_bipush (v := 48) hx hb d_M_layShort_55 (by decide) ?_
  refine lv_iconst (v := 4) hx hb d_M_layShort_57 (by decide) ?_
  refine lv_iconst (v := 2) hx hb d_M_layShort_58 (by decide) ?_
  refine lv_sipush (v := 500) hx hb d_M_layShort_59 (by decide) ?_
  refine lv_iconst (v := 2) hx hb d_M_layShort_62 (by decide) ?_
  obtain ⟨r_11, g_12, hf⟩ := Option.bind_eq_some_iff.mp hf
  refine va_callv (va_runV (As := [.int (48), .int (4), .int (2), .int (500), .int (2)]) (rest := []) ⟨hx, hb, hml, hown, hts⟩ (c_M_lay l (ad := ad) (sk := sk) (sv := sv) (tK := tK) dC dI cI h0 rw pt ou r_9 hm 48 4 2 500 2  r_11 g_12) (cwV 5 hts (aw_V aw_404 aw_406 aw_p18 aw_2 aw_407) rfl rfl rfl (by decide +kernel) ⟨Nat.le_of_ble_eq_true rfl, Nat.le_of_ble_eq_true rfl⟩) ⟨wBlind, va_recv hK hP (ci := 1) (q0 := 0) rfl rfl, fun U hU hW => ⟨rfl, by rw [hU]; exact hP, va_K.moved hW.alike hK, hD, hT.at hS hU hW (fun _ z => z)⟩⟩ rfl rfl hl.1 rfl (lv_room (Nat.le_of_ble_eq_true rfl)) d_M_layShort_63 ⟨Nat.le_refl _, Nat.le_refl _⟩) hS (fun _ _ h => h) (fun _ h => h) (fun u t H1 locs ht1 hvm hw hB hz1 hk1 hS => ?_)
  obtain ⟨hw, hm⟩ := hw
  rw [hw] at hB hm
  rw [ht1] at hB
  have hP : va_P (dC, dI) cls2 (wM cI h0 rw pt ou 0 (gg r_11) (fun _ => 0) (fun _ => 0) 0 0) H1 := hB
  have hD : va_D (aM h0 rw pt ou) (wM cI h0 rw pt ou 0 (gg r_11) (fun _ => 0) (fun _ => 0) 0 0) := dD hD0 rfl
  refine lv_bipush (v := 49) hx hb d_M_layShort_66 (by decide) ?_
  refine lv_istore_n (lv' := [(1, .int (49)), (0, .ref (h0))]) hx hb d_M_layShort_68 rfl hl (by decide) rfl (fun ls hl => ?_)
  exact J69 80 49 r_11 _ _ _ hm hP hS (lv_sub hl [1, 0] rfl) hf

