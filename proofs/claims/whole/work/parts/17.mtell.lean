def f_M_say (w_th : Int32) (w_pf : Nat → Int32) (w_of : Nat → Int32) (w_sz : Int32) (w_bg : Int32) (a0 : Int32) : Option (Int32 × (Nat → Int32) × (Nat → Int32) × Int32 × Int32) :=
  if w_sz < 0 ∨ 80 ≤ w_sz.toNatClampNeg then none else some (w_th, w_pf, upd w_of w_sz.toNatClampNeg a0, w_sz + 1, w_bg)
set_option maxHeartbeats 1000000 in
set_option maxRecDepth 100000 in
theorem c_M_say (l : Launch) {ad sk sv : Nat → Nat} {tK : Nat} (dC : Nat → ClassId) (dI : Nat → Nat → Nat) (cI : ClassId) (h0 rw pt ou : Nat) (w_th : Int32) (w_pf : Nat → Int32) (w_of : Nat → Int32) (w_sz : Int32) (w_bg : Int32) (a0 : Int32)  (r : Int32 × (Nat → Int32) × (Nat → Int32) × Int32 × Int32) (hf : f_M_say w_th w_pf w_of w_sz w_bg a0 = some r) : Met l y_M_say (Cond.code y_M_say b_M_say 2 (Option.none : Option FieldType) :: aw) ({ frames := 0, cells := 0, slots := 0, locals := 0 } : Room) (va_Pc [.ref (h0), .int (a0)] (fun U => va_P (dC, dI) cls2 (wM cI h0 rw pt ou w_th mR w_pf w_of w_sz w_bg) U.heap ∧ va_K (dC, dI) cls2 [(cI, .int)] U ∧ va_D (aM h0 rw pt ou) (wM cI h0 rw pt ou w_th mR w_pf w_of w_sz w_bg) ∧ tb ad sk sv tK (aM h0 rw pt ou) U U.heap)) (va_Qv (fun u => u = r) (fun (u : Int32 × (Nat → Int32) × (Nat → Int32) × Int32 × Int32) t => va_P (dC, dI) cls2 (wM cI h0 rw pt ou u.1 mR u.2.1 u.2.2.1 u.2.2.2.1 u.2.2.2.2) t.heap) (aM h0 rw pt ou)) 0 0 (aM h0 rw pt ou) := by
  refine Met.ofW (cc := b_M_say) (maxL := 2) (ret := (Option.none : Option FieldType)) (by decide) rfl ?_
  intro p e s m args below meth c s₁ B hml hv
  obtain ⟨rfl, hP, hK, hD, hT⟩ := hv
  have hD0 := hD
  have hx := B.exec
  have hb := B.bytes
  have hr := B.returns
  have hts := atoms_spec (ws := (Cond.code y_M_say b_M_say 2 (Option.none : Option FieldType) :: aw)) B.pre
  have ht : ∀ {w : Cond}, w ∈ aw → w.before ([.ref (h0), .int (a0)] : List Value).toArray s = true := fun h => hts _ (List.mem_cons_of_mem _ h)
  have hown : s.vm.findClass "CodeWordsModel" = some m.cls := findClass_of_methodNamed B.named
  have hlocks := B.notSynchronized
  have hS : va_S (aM h0 rw pt ou) s.heap s.heap [] := va_S.rf
  have hl := lv_entry ([.ref (h0), .int (a0)]) (n := 2) (Nat.le_of_ble_eq_true rfl)
  rw [lg_entry_eq]
  generalize (lg_sl ([.ref (h0), .int (a0)]) ++ List.replicate (2 - (lg_sl ([.ref (h0), .int (a0)])).length) Slot.unset).toArray = ls at hl ⊢
  have hl : lv_has ls 2 [(0, .ref (h0)), (1, .int (a0))] := hl
  rw [f_M_say] at hf
  refine lv_aload_n hx hb d_M_say_0 rfl (lv_at hl 0 rfl) ?_
  refine va_get (D := (dC, dI)) (ci := 1) (v := .ref (ou)) (C := "CodeWordsModel") (T := F_M) (N := 6) hx hb hts (in_M _) hown hK hP 0 rfl rfl 3 (by decide) (ht aw_442) (fun _ h9 => h9) rfl d_M_say_1 ?_
  refine lv_aload_n hx hb d_M_say_4 rfl (lv_at hl 0 rfl) ?_
  refine va_get (D := (dC, dI)) (ci := 1) (v := .int (w_sz)) (C := "CodeWordsModel") (T := F_M) (N := 6) hx hb hts (in_M _) hown hK hP 0 rfl rfl 4 (by decide) (ht aw_443) (fun _ h9 => h9) rfl d_M_say_5 ?_
  refine lv_iload_n hx hb d_M_say_8 rfl (lv_at hl 1 rfl) ?_
  obtain ⟨z_1, hf⟩ := ju_gd hf
  refine va_iast hx hb hK hP hD hS 3 0 rfl rfl z_1 d_M_say_9 (fun H locs hP hD hS => ?_)
  have hP : va_P (dC, dI) cls2 (wM cI h0 rw pt ou w_th mR w_pf (upd w_of w_sz.toNatClampNeg a0) w_sz w_bg) H := hP
  have hD : va_D (aM h0 rw pt ou) (wM cI h0 rw pt ou w_th mR w_pf (upd w_of w_sz.toNatClampNeg a0) w_sz w_bg) := hD
  refine lv_aload_n hx hb d_M_say_10 rfl (lv_at hl 0 rfl) ?_
  refine lv_dup hx hb d_M_say_11 rfl ?_
  refine va_get (D := (dC, dI)) (ci := 1) (v := .int (w_sz)) (C := "CodeWordsModel") (T := F_M) (N := 6) hx hb hts (in_M _) hown hK hP 0 rfl rfl 4 (by decide) (ht aw_443) (fun _ h9 => h9) rfl d_M_say_12 ?_
  refine lv_iconst (v := 1) hx hb d_M_say_15 (by decide) ?_
  refine lv_iadd hx hb d_M_say_16 ?_
  refine va_put (D := (dC, dI)) (ci := 1) (v := .int (w_sz + 1)) (ty := .int) (C := "CodeWordsModel") (T := F_M) (N := 6) hx hb hts (in_M _) ty_M tyok_M nm_M hown hK hP hD hS 0 rfl rfl 4 (by decide) (ht aw_443) (fun _ h9 => h9) rfl (by decide +kernel) rfl rfl (Nat.le_of_ble_eq_true rfl) d_M_say_17 (fun H locs hP hD hS => ?_)
  have hP : va_P (dC, dI) cls2 (wM cI h0 rw pt ou w_th mR w_pf (upd w_of w_sz.toNatClampNeg a0) (w_sz + 1) w_bg) H := hP
  have hD : va_D (aM h0 rw pt ou) (wM cI h0 rw pt ou w_th mR w_pf (upd w_of w_sz.toNatClampNeg a0) (w_sz + 1) w_bg) := hD
  exact W.vret hx hb hr (fun t ht hW => ⟨⟨(w_th, w_pf, upd w_of w_sz.toNatClampNeg a0, w_sz + 1, w_bg), rfl, Option.some.inj hf, by rw [← ht] at hP; exact hP⟩, hS.F ht⟩) hS.2.2 d_M_say_20

def f_M_sayName_L23 (w_th : Int32) (w_pf : Nat → Int32) (w_of : Nat → Int32) (w_sz : Int32) (w_bg : Int32) (a0 : Int64) (k8 : Int32 → Int32 → Int32 → (Nat → Int32) → (Nat → Int32) → Int32 → Int32 → Option (Int32 × (Nat → Int32) × (Nat → Int32) × Int32 × Int32)) : Nat → Int32 → Int32 → Int64 → Int32 → Int32 → (Nat → Int32) → (Nat → Int32) → Int32 → Int32 → Option (Int32 × (Nat → Int32) × (Nat → Int32) × Int32 × Int32)
  | 0, _, _, _, _, _, _, _, _, _ => none
  | n + 1, x3, x4, x5, x7, y_th, y_pf, y_of, y_sz, y_bg =>
    if x3 ≤ x7 then (if ((x5 - x5 / 40 * 40).toInt32) = 37 then ((f_M_say y_th y_pf y_of y_sz y_bg 46).bind fun r_11 => k8 x3 (x4 + 1) r_11.1 r_11.2.1 r_11.2.2.1 r_11.2.2.2.1 r_11.2.2.2.2) else (if ((x5 - x5 / 40 * 40).toInt32) ≤ 26 then ((f_M_say y_th y_pf y_of y_sz y_bg ((97 + ((x5 - x5 / 40 * 40).toInt32)) - 1)).bind fun r_7 => k8 x3 (x4 + 1) r_7.1 r_7.2.1 r_7.2.2.1 r_7.2.2.2.1 r_7.2.2.2.2) else ((f_M_say y_th y_pf y_of y_sz y_bg ((48 + ((x5 - x5 / 40 * 40).toInt32)) - 27)).bind fun r_9 => k8 x3 (x4 + 1) r_9.1 r_9.2.1 r_9.2.2.1 r_9.2.2.2.1 r_9.2.2.2.2))) else (f_M_sayName_L23 w_th w_pf w_of w_sz w_bg a0 k8 n x3 x4 (x5 / 40) (x7 + 1) y_th y_pf y_of y_sz y_bg)
def f_M_sayName_L8 (w_th : Int32) (w_pf : Nat → Int32) (w_of : Nat → Int32) (w_sz : Int32) (w_bg : Int32) (a0 : Int64)  : Nat → Int32 → Int32 → Int32 → (Nat → Int32) → (Nat → Int32) → Int32 → Int32 → Option (Int32 × (Nat → Int32) × (Nat → Int32) × Int32 × Int32)
  | 0, _, _, _, _, _, _, _ => none
  | n + 1, x3, x4, y_th, y_pf, y_of, y_sz, y_bg =>
    if x3 ≤ x4 then (some (y_th, y_pf, y_of, y_sz, y_bg)) else (f_M_sayName_L23 w_th w_pf w_of w_sz w_bg a0 (fun y0 y1 y2 y3 y4 y5 y6 => f_M_sayName_L8 w_th w_pf w_of w_sz w_bg a0  n y0 y1 y2 y3 y4 y5 y6) 80 x3 x4 a0 (x4 + 1) y_th y_pf y_of y_sz y_bg)
def f_M_sayName (w_th : Int32) (w_pf : Nat → Int32) (w_of : Nat → Int32) (w_sz : Int32) (w_bg : Int32) (a0 : Int64) : Option (Int32 × (Nat → Int32) × (Nat → Int32) × Int32 × Int32) :=
  (f_M_lettersOf a0).bind fun r_1 => f_M_sayName_L8 w_th w_pf w_of w_sz w_bg a0  80 r_1 0 w_th w_pf w_of w_sz w_bg
set_option maxHeartbeats 1000000 in
set_option maxRecDepth 100000 in
theorem c_M_sayName (l : Launch) {ad sk sv : Nat → Nat} {tK : Nat} (dC : Nat → ClassId) (dI : Nat → Nat → Nat) (cI : ClassId) (h0 rw pt ou : Nat) (w_th : Int32) (w_pf : Nat → Int32) (w_of : Nat → Int32) (w_sz : Int32) (w_bg : Int32) (a0 : Int64)  (r : Int32 × (Nat → Int32) × (Nat → Int32) × Int32 × Int32) (hf : f_M_sayName w_th w_pf w_of w_sz w_bg a0 = some r) : Met l y_M_sayName (Cond.code y_M_sayName b_M_sayName 8 (Option.none : Option FieldType) :: aw) ({ frames := 1, cells := 0, slots := 0, locals := 24 } : Room) (va_Pc [.ref (h0), .long (a0)] (fun U => va_P (dC, dI) cls2 (wM cI h0 rw pt ou w_th mR w_pf w_of w_sz w_bg) U.heap ∧ va_K (dC, dI) cls2 [(cI, .int)] U ∧ va_D (aM h0 rw pt ou) (wM cI h0 rw pt ou w_th mR w_pf w_of w_sz w_bg) ∧ tb ad sk sv tK (aM h0 rw pt ou) U U.heap)) (va_Qv (fun u => u = r) (fun (u : Int32 × (Nat → Int32) × (Nat → Int32) × Int32 × Int32) t => va_P (dC, dI) cls2 (wM cI h0 rw pt ou u.1 mR u.2.1 u.2.2.1 u.2.2.2.1 u.2.2.2.2) t.heap) (aM h0 rw pt ou)) 0 0 (aM h0 rw pt ou) := by
  refine Met.ofW (cc := b_M_sayName) (maxL := 8) (ret := (Option.none : Option FieldType)) (by decide) rfl ?_
  intro p e s m args below meth c s₁ B hml hv
  obtain ⟨rfl, hP, hK, hD, hT⟩ := hv
  have hD0 := hD
  have hx := B.exec
  have hb := B.bytes
  have hr := B.returns
  have hts := atoms_spec (ws := (Cond.code y_M_sayName b_M_sayName 8 (Option.none : Option FieldType) :: aw)) B.pre
  have ht : ∀ {w : Cond}, w ∈ aw → w.before ([.ref (h0), .long (a0)] : List Value).toArray s = true := fun h => hts _ (List.mem_cons_of_mem _ h)
  have hown : s.vm.findClass "CodeWordsModel" = some m.cls := findClass_of_methodNamed B.named
  have hlocks := B.notSynchronized
  have hS : va_S (aM h0 rw pt ou) s.heap s.heap [] := va_S.rf
  have hl := lv_entry ([.ref (h0), .long (a0)]) (n := 8) (Nat.le_of_ble_eq_true rfl)
  rw [lg_entry_eq]
  generalize (lg_sl ([.ref (h0), .long (a0)]) ++ List.replicate (8 - (lg_sl ([.ref (h0), .long (a0)])).length) Slot.unset).toArray = ls at hl ⊢
  have hl : lv_has ls 8 [(0, .ref (h0)), (1, .long (a0))] := hl
  have J8 : ∀ (n8 : Nat) (x3 : Int32) (x4 : Int32) (y_th : Int32) (y_pf : (Nat → Int32)) (y_of : (Nat → Int32)) (y_sz : Int32) (y_bg : Int32) (H : Heap) (locs : List Loc) (ls : Array Slot), va_P (dC, dI) cls2 (wM cI h0 rw pt ou y_th mR y_pf y_of y_sz y_bg) H → va_S (aM h0 rw pt ou) s.heap H locs → lv_has ls 8 [(0, .ref (h0)), (1, .long (a0)), (3, .int (x3)), (4, .int (x4))] → f_M_sayName_L8 w_th w_pf w_of w_sz w_bg a0  n8 x3 x4 y_th y_pf y_of y_sz y_bg = some r → wW p l e (headSpec (Cond.code y_M_sayName b_M_sayName 8 (Option.none : Option FieldType) :: aw) ({ frames := 1, cells := 0, slots := 0, locals := 24 } : Room)).room s m ([.ref (h0), .long (a0)] : List Value).toArray below meth c (va_Qv (fun u => u = r) (fun (u : Int32 × (Nat → Int32) × (Nat → Int32) × Int32 × Int32) t => va_P (dC, dI) cls2 (wM cI h0 rw pt ou u.1 mR u.2.1 u.2.2.1 u.2.2.2.1 u.2.2.2.2) t.heap) (aM h0 rw pt ou)) (aM h0 rw pt ou) H locs (F0 m 8 ls []) := by
    intro n8
    induction n8 with
    | zero =>
      intro x3 x4 y_th y_pf y_of y_sz y_bg H locs ls hP hS hl hf
      rw [f_M_sayName_L8] at hf
      cases hf
    | succ n8 ih8 =>
      intro x3 x4 y_th y_pf y_of y_sz y_bg H locs ls hP hS hl hf
      rw [f_M_sayName_L8] at hf
      have hD : va_D (aM h0 rw pt ou) (wM cI h0 rw pt ou y_th mR y_pf y_of y_sz y_bg) := dD hD0 rfl
      have J23 : ∀ (n23 : Nat) (x3 : Int32) (x4 : Int32) (x5 : Int64) (x7 : Int32) (y_th : Int32) (y_pf : (Nat → Int32)) (y_of : (Nat → Int32)) (y_sz : Int32) (y_bg : Int32) (H : Heap) (locs : List Loc) (ls : Array Slot), va_P (dC, dI) cls2 (wM cI h0 rw pt ou y_th mR y_pf y_of y_sz y_bg) H → va_S (aM h0 rw pt ou) s.heap H locs → lv_has ls 8 [(0, .ref (h0)), (1, .long (a0)), (3, .int (x3)), (4, .int (x4)), (5, .long (x5)), (7, .int (x7))] → f_M_sayName_L23 w_th w_pf w_of w_sz w_bg a0 (fun y0 y1 y2 y3 y4 y5 y6 => f_M_sayName_L8 w_th w_pf w_of w_sz w_bg a0  n8 y0 y1 y2 y3 y4 y5 y6) n23 x3 x4 x5 x7 y_th y_pf y_of y_sz y_bg = some r → wW p l e (headSpec (Cond.code y_M_sayName b_M_sayName 8 (Option.none : Option FieldType) :: aw) ({ frames := 1, cells := 0, slots := 0, locals := 24 } : Room)).room s m ([.ref (h0), .long (a0)] : List Value).toArray below meth c (va_Qv (fun u => u = r) (fun (u : Int32 × (Nat → Int32) × (Nat → Int32) × Int32 × Int32) t => va_P (dC, dI) cls2 (wM cI h0 rw pt ou u.1 mR u.2.1 u.2.2.1 u.2.2.2.1 u.2.2.2.2) t.heap) (aM h0 rw pt ou)) (aM h0 rw pt ou) H locs (F0 m 23 ls []) := by
        intro n23
        induction n23 with
        | zero =>
          intro x3 x4 x5 x7 y_th y_pf y_of y_sz y_bg H locs ls hP hS hl hf
          rw [f_M_sayName_L23] at hf
          cases hf
        | succ n23 ih23 =>
          intro x3 x4 x5 x7 y_th y_pf y_of y_sz y_bg H locs ls hP hS hl hf
          rw [f_M_sayName_L23] at hf
          have hD : va_D (aM h0 rw pt ou) (wM cI h0 rw pt ou y_th mR y_pf y_of y_sz y_bg) := dD hD0 rfl
          refine lv_iload hx hb d_M_sayName_23 (lv_at hl 5 rfl) ?_
          refine lv_iload_n hx hb d_M_sayName_25 rfl (lv_at hl 2 rfl) ?_
          refine lv_icmp_ge (tgt := 43) hx hb d_M_sayName_26 (by decide) (fun c_4 => ?_) (fun c_4 => ?_)
          · replace hf := (if_pos c_4).symm.trans hf
            refine lv_lload hx hb d_M_sayName_43 (lv_at hl 4 rfl) ?_
            refine lv_ldc2 (v := 40) hx hb hown (ht aw_663) d_M_sayName_45 ?_
            refine lv_lrem hx hb d_M_sayName_48 (by decide) ?_
            refine lv_l2i (v := (x5 - x5 / 40 * 40).toInt32) hx hb d_M_sayName_49 rfl ?_
            refine lv_istore (lv' := [(7, .int ((x5 - x5 / 40 * 40).toInt32)), (0, .ref (h0)), (1, .long (a0)), (3, .int (x3)), (4, .int (x4)), (5, .long (x5))]) hx hb d_M_sayName_50 hl (by decide) rfl (fun ls hl => ?_)
            refine lv_aload_n hx hb d_M_sayName_52 rfl (lv_at hl 1 rfl) ?_
            refine lv_iload hx hb d_M_sayName_53 (lv_at hl 0 rfl) ?_
            refine lv_bipush (v := 37) hx hb d_M_sayName_55 (by decide) ?_
            refine lv_icmp_ne (tgt := 65) hx hb d_M_sayName_57 (by decide) (fun c_5 => ?_) (fun c_5 => ?_)
            · replace hf := (if_neg c_5).symm.trans hf
              refine lv_iload hx hb d_M_sayName_65 (lv_at hl 0 rfl) ?_
              refine lv_bipush (v := 26) hx hb d_M_sayName_67 (by decide) ?_
              refine lv_icmp_le (tgt := 83) hx hb d_M_sayName_69 (by decide) (fun c_6 => ?_) (fun c_6 => ?_)
              · replace hf := (if_pos c_6).symm.trans hf
                refine lv_bipush (v := 97) hx hb d_M_sayName_83 (by decide) ?_
                refine lv_iload hx hb d_M_sayName_85 (lv_at hl 0 rfl) ?_
                refine lv_iadd hx hb d_M_sayName_87 ?_
                refine lv_iconst (v := 1) hx hb d_M_sayName_88 (by decide) ?_
                refine lv_isub hx hb d_M_sayName_89 ?_
                obtain ⟨r_7, g_8, hf⟩ := Option.bind_eq_some_iff.mp hf
                refine va_callv (va_runV (As := [.int ((97 + ((x5 - x5 / 40 * 40).toInt32)) - 1)]) (rest := []) ⟨hx, hb, hml, hown, hts⟩ (c_M_say l (ad := ad) (sk := sk) (sv := sv) (tK := tK) dC dI cI h0 rw pt ou y_th y_pf y_of y_sz y_bg ((97 + ((x5 - x5 / 40 * 40).toInt32)) - 1)  r_7 g_8) (cwV 1 hts (aw_V aw_664 aw_666 aw_p33 aw_2 aw_667) rfl rfl rfl (by decide +kernel) ⟨Nat.le_of_ble_eq_true rfl, Nat.le_of_ble_eq_true rfl⟩) ⟨wBlind, va_recv hK hP (ci := 1) (q0 := 0) rfl rfl, fun U hU hW => ⟨rfl, by rw [hU]; exact hP, va_K.moved hW.alike hK, hD, hT.at hS hU hW (fun _ z => z)⟩⟩ rfl rfl hl.1 rfl (lv_room (Nat.le_of_ble_eq_true rfl)) d_M_sayName_90 ⟨Nat.le_refl _, Nat.le_refl _⟩) hS (fun _ _ h => h) (fun _ h => h) (fun u t H1 locs ht1 hvm hw hB hz1 hk1 hS => ?_)
                rw [hw] at hB
                rw [ht1] at hB
                have hP : va_P (dC, dI) cls2 (wM cI h0 rw pt ou r_7.1 mR r_7.2.1 r_7.2.2.1 r_7.2.2.2.1 r_7.2.2.2.2) H1 := hB
                have hD : va_D (aM h0 rw pt ou) (wM cI h0 rw pt ou r_7.1 mR r_7.2.1 r_7.2.2.1 r_7.2.2.2.1 r_7.2.2.2.2) := dD hD0 rfl
                refine lv_iinc (v := x4 + 1) (lv' := [(4, .int (x4 + 1)), (7, .int ((x5 - x5 / 40 * 40).toInt32)), (0, .ref (h0)), (1, .long (a0)), (3, .int (x3)), (5, .long (x5))]) hx hb d_M_sayName_93 hl (k := 4) rfl rfl (by decide) rfl (fun ls hl => ?_)
                refine lv_goto (tgt := 8) hx hb d_M_sayName_96 (by decide) ?_
                exact ih8 x3 (x4 + 1) r_7.1 r_7.2.1 r_7.2.2.1 r_7.2.2.2.1 r_7.2.2.2.2 _ _ _ hP hS (lv_sub hl [2, 3, 4, 0] rfl) hf
              · replace hf := (if_neg c_6).symm.trans hf
                refine lv_bipush (v := 48) hx hb d_M_sayName_72 (by decide) ?_
                refine lv_iload hx hb d_M_sayName_74 (lv_at hl 0 rfl) ?_
                refine lv_iadd hx hb d_M_sayName_76 ?_
                refine lv_bipush (v := 27) hx hb d_M_sayName_77 (by decide) ?_
                refine lv_isub hx hb d_M_sayName_79 ?_
                refine lv_goto (tgt := 90) hx hb d_M_sayName_80 (by decide) ?_
                obtain ⟨r_9, g_10, hf⟩ := Option.bind_eq_some_iff.mp hf
                refine va_callv (va_runV (As := [.int ((48 + ((x5 - x5 / 40 * 40).toInt32)) - 27)]) (rest := []) ⟨hx, hb, hml, hown, hts⟩ (c_M_say l (ad := ad) (sk := sk) (sv := sv) (tK := tK) dC dI cI h0 rw pt ou y_th y_pf y_of y_sz y_bg ((48 + ((x5 - x5 / 40 * 40).toInt32)) - 27)  r_9 g_10) (cwV 1 hts (aw_V aw_664 aw_666 aw_p33 aw_2 aw_667) rfl rfl rfl (by decide +kernel) ⟨Nat.le_of_ble_eq_true rfl, Nat.le_of_ble_eq_true rfl⟩) ⟨wBlind, va_recv hK hP (ci := 1) (q0 := 0) rfl rfl, fun U hU hW => ⟨rfl, by rw [hU]; exact hP, va_K.moved hW.alike hK, hD, hT.at hS hU hW (fun _ z => z)⟩⟩ rfl rfl hl.1 rfl (lv_room (Nat.le_of_ble_eq_true rfl)) d_M_sayName_90 ⟨Nat.le_refl _, Nat.le_refl _⟩) hS (fun _ _ h => h) (fun _ h => h) (fun u t H1 locs ht1 hvm hw hB hz1 hk1 hS => ?_)
                rw [hw] at hB
                rw [ht1] at hB
                have hP : va_P (dC, dI) cls2 (wM cI h0 rw pt ou r_9.1 mR r_9.2.1 r_9.2.2.1 r_9.2.2.2.1 r_9.2.2.2.2) H1 := hB
                have hD : va_D (aM h0 rw pt ou) (wM cI h0 rw pt ou r_9.1 mR r_9.2.1 r_9.2.2.1 r_9.2.2.2.1 r_9.2.2.2.2) := dD hD0 rfl
                refine lv_iinc (v := x4 + 1) (lv' := [(4, .int (x4 + 1)), (7, .int ((x5 - x5 / 40 * 40).toInt32)), (0, .ref (h0)), (1, .long (a0)), (3, .int (x3)), (5, .long (x5))]) hx hb d_M_sayName_93 hl (k := 4) rfl rfl (by decide) rfl (fun ls hl => ?_)
                refine lv_goto (tgt := 8) hx hb d_M_sayName_96 (by decide) ?_
                exact ih8 x3 (x4 + 1) r_9.1 r_9.2.1 r_9.2.2.1 r_9.2.2.2.1 r_9.2.2.2.2 _ _ _ hP hS (lv_sub hl [2, 3, 4, 0] rfl) hf
            · replace hf := (if_pos c_5).symm.trans hf
              refine lv_bipush (v := 46) hx hb d_M_sayName_60 (by decide) ?_
              refine lv_goto (tgt := 90) hx hb d_M_sayName_62 (by decide) ?_
              obtain ⟨r_11, g_12, hf⟩ := Option.bind_eq_some_iff.mp hf
              refine va_callv (va_runV (As := [.int (46)]) (rest := []) ⟨hx, hb, hml, hown, hts⟩ (c_M_say l (ad := ad) (sk := sk) (sv := sv) (tK := tK) dC dI cI h0 rw pt ou y_th y_pf y_of y_sz y_bg 46  r_11 g_12) (cwV 1 hts (aw_V aw_664 aw_666 aw_p33 aw_2 aw_667) rfl rfl rfl (by decide +kernel) ⟨Nat.le_of_ble_eq_true rfl, Nat.le_of_ble_eq_true rfl⟩) ⟨wBlind, va_recv hK hP (ci := 1) (q0 := 0) rfl rfl, fun U hU hW => ⟨rfl, by rw [hU]; exact hP, va_K.moved hW.alike hK, hD, hT.at hS hU hW (fun _ z => z)⟩⟩ rfl rfl hl.1 rfl (lv_room (Nat.le_of_ble_eq_true rfl)) d_M_sayName_90 ⟨Nat.le_refl _, Nat.le_refl _⟩) hS (fun _ _ h => h) (fun _ h => h) (fun u t H1 locs ht1 hvm hw hB hz1 hk1 hS => ?_)
              rw [hw] at hB
              rw [ht1] at hB
              have hP : va_P (dC, dI) cls2 (wM cI h0 rw pt ou r_11.1 mR r_11.2.1 r_11.2.2.1 r_11.2.2.2.1 r_11.2.2.2.2) H1 := hB
              have hD : va_D (aM h0 rw pt ou) (wM cI h0 rw pt ou r_11.1 mR r_11.2.1 r_11.2.2.1 r_11.2.2.2.1 r_11.2.2.2.2) := dD hD0 rfl
              refine lv_iinc (v := x4 + 1) (lv' := [(4, .int (x4 + 1)), (7, .int ((x5 - x5 / 40 * 40).toInt32)), (0, .ref (h0)), (1, .long (a0)), (3, .int (x3)), (5, .long (x5))]) hx hb d_M_sayName_93 hl (k := 4) rfl rfl (by decide) rfl (fun ls hl => ?_)
              refine lv_goto (tgt := 8) hx hb d_M_sayName_96 (by decide) ?_
              exact ih8 x3 (x4 + 1) r_11.1 r_11.2.1 r_11.2.2.1 r_11.2.2.2.1 r_11.2.2.2.2 _ _ _ hP hS (lv_sub hl [2, 3, 4, 0] rfl) hf
          · replace hf := (if_neg c_4).symm.trans hf
            refine lv_lload hx hb d_M_sayName_29 (lv_at hl 4 rfl) ?_
            refine lv_ldc2 (v := 40) hx hb hown (ht aw_663) d_M_sayName_31 ?_
            refine lv_ldiv hx hb d_M_sayName_34 (by decide) ?_
            refine lv_lstore (lv' := [(5, .long (x5 / 40)), (0, .ref (h0)), (1, .long (a0)), (3, .int (x3)), (4, .int (x4)), (7, .int (x7))]) hx hb d_M_sayName_35 hl (by decide) rfl (fun ls hl => ?_)
            refine lv_iinc (v := x7 + 1) (lv' := [(7, .int (x7 + 1)), (5, .long (x5 / 40)), (0, .ref (h0)), (1, .long (a0)), (3, .int (x3)), (4, .int (x4))]) hx hb d_M_sayName_37 hl (k := 5) rfl rfl (by decide) rfl (fun ls hl => ?_)
            refine lv_goto (tgt := 23) hx hb d_M_sayName_40 (by decide) ?_
            exact ih23 x3 x4 (x5 / 40) (x7 + 1) y_th y_pf y_of y_sz y_bg _ _ _ hP hS (lv_sub hl [2, 3, 4, 5, 1, 0] rfl) hf
      refine lv_iload hx hb d_M_sayName_8 (lv_at hl 3 rfl) ?_
      refine lv_iload_n hx hb d_M_sayName_10 rfl (lv_at hl 2 rfl) ?_
      refine lv_icmp_ge (tgt := 99) hx hb d_M_sayName_11 (by decide) (fun c_3 => ?_) (fun c_3 => ?_)
      · replace hf := (if_pos c_3).symm.trans hf
        exact W.vret hx hb hr (fun t ht hW => ⟨⟨(y_th, y_pf, y_of, y_sz, y_bg), rfl, Option.some.inj hf, by rw [← ht] at hP; exact hP⟩, hS.F ht⟩) hS.2.2 d_M_sayName_99
      · replace hf := (if_neg c_3).symm.trans hf
        refine lv_lload_n hx hb d_M_sayName_14 rfl (lv_at hl 1 rfl) ?_
        refine lv_lstore (lv' := [(5, .long (a0)), (0, .ref (h0)), (1, .long (a0)), (3, .int (x3)), (4, .int (x4))]) hx hb d_M_sayName_15 hl (by decide) rfl (fun ls hl => ?_)
        refine lv_iload hx hb d_M_sayName_17 (lv_at hl 4 rfl) ?_
        refine lv_iconst (v := 1) hx hb d_M_sayName_19 (by decide) ?_
        refine lv_iadd hx hb d_M_sayName_20 ?_
        refine lv_istore (lv' := [(7, .int (x4 + 1)), (5, .long (a0)), (0, .ref (h0)), (1, .long (a0)), (3, .int (x3)), (4, .int (x4))]) hx hb d_M_sayName_21 hl (by decide) rfl (fun ls hl => ?_)
        exact J23 80 x3 x4 a0 (x4 + 1) y_th y_pf y_of y_sz y_bg _ _ _ hP hS (lv_sub hl [2, 3, 4, 5, 1, 0] rfl) hf
  rw [f_M_sayName] at hf
  refine lv_lload_n hx hb d_M_sayName_0 rfl (lv_at hl 1 rfl) ?_
  obtain ⟨r_1, g_2, hf⟩ := Option.bind_eq_some_iff.mp hf
  refine ju_calli (W.runS (As := [.long (a0)]) (rest := []) ⟨hx, hb, hml, hown, hts⟩ (c_M_lettersOf l (ad := ad) (sk := sk) (sv := sv) (tK := tK)  a0  r_1 g_2) (va_cwS 1 hts (aw_S aw_660 aw_661 aw_2 aw_662) rfl rfl rfl (by decide +kernel) ⟨Nat.le_of_ble_eq_true rfl, Nat.le_of_ble_eq_true rfl⟩) ⟨fun a U g mk q => ⟨q.1, q.2.call⟩, fun U hU hW => ⟨rfl, hT.at hS hU hW (fun _ z => z.elim)⟩⟩ rfl rfl hl.1 rfl (lv_room (Nat.le_of_ble_eq_true rfl)) d_M_sayName_1 ⟨Nat.le_refl _, Nat.le_refl _⟩) ?_
  refine lv_istore_n (lv' := [(3, .int (r_1)), (0, .ref (h0)), (1, .long (a0))]) hx hb d_M_sayName_4 rfl hl (by decide) rfl (fun ls hl => ?_)
  refine lv_iconst (v := 0) hx hb d_M_sayName_5 (by decide) ?_
  refine lv_istore (lv' := [(4, .int (0)), (3, .int (r_1)), (0, .ref (h0)), (1, .long (a0))]) hx hb d_M_sayName_6 hl (by decide) rfl (fun ls hl => ?_)
  exact J8 80 r_1 0 w_th w_pf w_of w_sz w_bg _ _ _ hP hS (lv_sub hl [2, 3, 1, 0] rfl) hf

def f_M_sayDecimal_L48 (w_th : Int32) (w_pf : Nat → Int32) (w_of : Nat → Int32) (w_sz : Int32) (w_bg : Int32) (a0 : Int32)  : Nat → Int64 → Int64 → Int32 → (Nat → Int32) → (Nat → Int32) → Int32 → Int32 → Option (Int32 × (Nat → Int32) × (Nat → Int32) × Int32 × Int32)
  | 0, _, _, _, _, _, _, _ => none
  | n + 1, x2, x4, y_th, y_pf, y_of, y_sz, y_bg =>
    if (lg_cmp x4 0) ≤ 0 then (some (y_th, y_pf, y_of, y_sz, y_bg)) else (if x4 = 0 then none else (f_M_say y_th y_pf y_of y_sz y_bg (48 + (((x2 / x4) - (x2 / x4) / 10 * 10).toInt32))).bind fun r_7 => f_M_sayDecimal_L48 w_th w_pf w_of w_sz w_bg a0  n x2 (x4 / 10) r_7.1 r_7.2.1 r_7.2.2.1 r_7.2.2.2.1 r_7.2.2.2.2)
def f_M_sayDecimal_L26 (w_th : Int32) (w_pf : Nat → Int32) (w_of : Nat → Int32) (w_sz : Int32) (w_bg : Int32) (a0 : Int32)  : Nat → Int64 → Int64 → Int32 → (Nat → Int32) → (Nat → Int32) → Int32 → Int32 → Option (Int32 × (Nat → Int32) × (Nat → Int32) × Int32 × Int32)
  | 0, _, _, _, _, _, _, _ => none
  | n + 1, x2, x4, y_th, y_pf, y_of, y_sz, y_bg =>
    if x4 = 0 then none else if (lg_cmp (x2 / x4) 9) ≤ 0 then (f_M_sayDecimal_L48 w_th w_pf w_of w_sz w_bg a0  80 x2 x4 y_th y_pf y_of y_sz y_bg) else (f_M_sayDecimal_L26 w_th w_pf w_of w_sz w_bg a0  n x2 (10 * x4) y_th y_pf y_of y_sz y_bg)
def f_M_sayDecimal_L10 (w_th : Int32) (w_pf : Nat → Int32) (w_of : Nat → Int32) (w_sz : Int32) (w_bg : Int32) (a0 : Int32)  (y_th : Int32) (y_pf : (Nat → Int32)) (y_of : (Nat → Int32)) (y_sz : Int32) (y_bg : Int32) : Option (Int32 × (Nat → Int32) × (Nat → Int32) × Int32 × Int32) :=
  if 0 ≤ a0 then (f_M_sayDecimal_L26 w_th w_pf w_of w_sz w_bg a0  80 a0.toInt64 1 y_th y_pf y_of y_sz y_bg) else (f_M_sayDecimal_L26 w_th w_pf w_of w_sz w_bg a0  80 (-a0.toInt64) 1 y_th y_pf y_of y_sz y_bg)
def f_M_sayDecimal (w_th : Int32) (w_pf : Nat → Int32) (w_of : Nat → Int32) (w_sz : Int32) (w_bg : Int32) (a0 : Int32) : Option (Int32 × (Nat → Int32) × (Nat → Int32) × Int32 × Int32) :=
  if 0 ≤ a0 then (f_M_sayDecimal_L10 w_th w_pf w_of w_sz w_bg a0  w_th w_pf w_of w_sz w_bg) else ((f_M_say w_th w_pf w_of w_sz w_bg 45).bind fun r_9 => f_M_sayDecimal_L10 w_th w_pf w_of w_sz w_bg a0  r_9.1 r_9.2.1 r_9.2.2.1 r_9.2.2.2.1 r_9.2.2.2.2)
set_option maxHeartbeats 1000000 in
set_option maxRecDepth 100000 in
theorem c_M_sayDecimal (l : Launch) {ad sk sv : Nat → Nat} {tK : Nat} (dC : Nat → ClassId) (dI : Nat → Nat → Nat) (cI : ClassId) (h0 rw pt ou : Nat) (w_th : Int32) (w_pf : Nat → Int32) (w_of : Nat → Int32) (w_sz : Int32) (w_bg : Int32) (a0 : Int32)  (r : Int32 × (Nat → Int32) × (Nat → Int32) × Int32 × Int32) (hf : f_M_sayDecimal w_th w_pf w_of w_sz w_bg a0 = some r) : Met l y_M_sayDecimal (Cond.code y_M_sayDecimal b_M_sayDecimal 6 (Option.none : Option FieldType) :: aw) ({ frames := 1, cells := 0, slots := 0, locals := 21 } : Room) (va_Pc [.ref (h0), .int (a0)] (fun U => va_P (dC, dI) cls2 (wM cI h0 rw pt ou w_th mR w_pf w_of w_sz w_bg) U.heap ∧ va_K (dC, dI) cls2 [(cI, .int)] U ∧ va_D (aM h0 rw pt ou) (wM cI h0 rw pt ou w_th mR w_pf w_of w_sz w_bg) ∧ tb ad sk sv tK (aM h0 rw pt ou) U U.heap)) (va_Qv (fun u => u = r) (fun (u : Int32 × (Nat → Int32) × (Nat → Int32) × Int32 × Int32) t => va_P (dC, dI) cls2 (wM cI h0 rw pt ou u.1 mR u.2.1 u.2.2.1 u.2.2.2.1 u.2.2.2.2) t.heap) (aM h0 rw pt ou)) 0 0 (aM h0 rw pt ou) := by
  refine Met.ofW (cc := b_M_sayDecimal) (maxL := 6) (ret := (Option.none : Option FieldType)) (by decide) rfl ?_
  intro p e s m args below meth c s₁ B hml hv
  obtain ⟨rfl, hP, hK, hD, hT⟩ := hv
  have hD0 := hD
  have hx := B.exec
  have hb := B.bytes
  have hr := B.returns
  have hts := atoms_spec (ws := (Cond.code y_M_sayDecimal b_M_sayDecimal 6 (Option.none : Option FieldType) :: aw)) B.pre
  have ht : ∀ {w : Cond}, w ∈ aw → w.before ([.ref (h0), .int (a0)] : List Value).toArray s = true := fun h => hts _ (List.mem_cons_of_mem _ h)
  have hown : s.vm.findClass "CodeWordsModel" = some m.cls := findClass_of_methodNamed B.named
  have hlocks := B.notSynchronized
  have hS : va_S (aM h0 rw pt ou) s.heap s.heap [] := va_S.rf
  have hl := lv_entry ([.ref (h0), .int (a0)]) (n := 6) (Nat.le_of_ble_eq_true rfl)
  rw [lg_entry_eq]
  generalize (lg_sl ([.ref (h0), .int (a0)]) ++ List.replicate (6 - (lg_sl ([.ref (h0), .int (a0)])).length) Slot.unset).toArray = ls at hl ⊢
  have hl : lv_has ls 6 [(0, .ref (h0)), (1, .int (a0))] := hl
  have J48 : ∀ (n48 : Nat) (x2 : Int64) (x4 : Int64) (y_th : Int32) (y_pf : (Nat → Int32)) (y_of : (Nat → Int32)) (y_sz : Int32) (y_bg : Int32) (H : Heap) (locs : List Loc) (ls : Array Slot), va_P (dC, dI) cls2 (wM cI h0 rw pt ou y_th mR y_pf y_of y_sz y_bg) H → va_S (aM h0 rw pt ou) s.heap H locs → lv_has ls 6 [(0, .ref (h0)), (1, .int (a0)), (2, .long (x2)), (4, .long (x4))] → f_M_sayDecimal_L48 w_th w_pf w_of w_sz w_bg a0  n48 x2 x4 y_th y_pf y_of y_sz y_bg = some r → wW p l e (headSpec (Cond.code y_M_sayDecimal b_M_sayDecimal 6 (Option.none : Option FieldType) :: aw) ({ frames := 1, cells := 0, slots := 0, locals := 21 } : Room)).room s m ([.ref (h0), .int (a0)] : List Value).toArray below meth c (va_Qv (fun u => u = r) (fun (u : Int32 × (Nat → Int32) × (Nat → Int32) × Int32 × Int32) t => va_P (dC, dI) cls2 (wM cI h0 rw pt ou u.1 mR u.2.1 u.2.2.1 u.2.2.2.1 u.2.2.2.2) t.heap) (aM h0 rw pt ou)) (aM h0 rw pt ou) H locs (F0 m 48 ls []) := by
    intro n48
    induction n48 with
    | zero =>
      intro x2 x4 y_th y_pf y_of y_sz y_bg H locs ls hP hS hl hf
      rw [f_M_sayDecimal_L48] at hf
      cases hf
    | succ n48 ih48 =>
      intro x2 x4 y_th y_pf y_of y_sz y_bg H locs ls hP hS hl hf
      rw [f_M_sayDecimal_L48] at hf
      have hD : va_D (aM h0 rw pt ou) (wM cI h0 rw pt ou y_th mR y_pf y_of y_sz y_bg) := dD hD0 rfl
      refine lv_lload hx hb d_M_sayDecimal_48 (lv_at hl 3 rfl) ?_
      refine lv_lconst (v := 0) hx hb d_M_sayDecimal_50 (by decide) ?_
      refine W.lcmp hx hb d_M_sayDecimal_51 ?_
      refine lv_if_le (tgt := 82) hx hb d_M_sayDecimal_52 (by decide) (fun c_5 => ?_) (fun c_5 => ?_)
      · replace hf := (if_pos c_5).symm.trans hf
        exact W.vret hx hb hr (fun t ht hW => ⟨⟨(y_th, y_pf, y_of, y_sz, y_bg), rfl, Option.some.inj hf, by rw [← ht] at hP; exact hP⟩, hS.F ht⟩) hS.2.2 d_M_sayDecimal_82
      · replace hf := (if_neg c_5).symm.trans hf
        refine lv_aload_n hx hb d_M_sayDecimal_55 rfl (lv_at hl 0 rfl) ?_
        refine lv_bipush (v := 48) hx hb d_M_sayDecimal_56 (by decide) ?_
        refine lv_lload_n hx hb d_M_sayDecimal_58 rfl (lv_at hl 2 rfl) ?_
        refine lv_lload hx hb d_M_sayDecimal_59 (lv_at hl 3 rfl) ?_
        obtain ⟨z_6, hf⟩ := ju_gd hf
        refine lv_ldiv hx hb d_M_sayDecimal_61 z_6 ?_
        refine lv_ldc2 (v := 10) hx hb hown (ht aw_727) d_M_sayDecimal_62 ?_
        refine lv_lrem hx hb d_M_sayDecimal_65 (by decide) ?_
        refine lv_l2i (v := ((x2 / x4) - (x2 / x4) / 10 * 10).toInt32) hx hb d_M_sayDecimal_66 rfl ?_
        refine lv_iadd hx hb d_M_sayDecimal_67 ?_
        obtain ⟨r_7, g_8, hf⟩ := Option.bind_eq_some_iff.mp hf
        refine va_callv (va_runV (As := [.int (48 + (((x2 / x4) - (x2 / x4) / 10 * 10).toInt32))]) (rest := []) ⟨hx, hb, hml, hown, hts⟩ (c_M_say l (ad := ad) (sk := sk) (sv := sv) (tK := tK) dC dI cI h0 rw pt ou y_th y_pf y_of y_sz y_bg (48 + (((x2 / x4) - (x2 / x4) / 10 * 10).toInt32))  r_7 g_8) (cwV 1 hts (aw_V aw_664 aw_666 aw_p33 aw_2 aw_667) rfl rfl rfl (by decide +kernel) ⟨Nat.le_of_ble_eq_true rfl, Nat.le_of_ble_eq_true rfl⟩) ⟨wBlind, va_recv hK hP (ci := 1) (q0 := 0) rfl rfl, fun U hU hW => ⟨rfl, by rw [hU]; exact hP, va_K.moved hW.alike hK, hD, hT.at hS hU hW (fun _ z => z)⟩⟩ rfl rfl hl.1 rfl (lv_room (Nat.le_of_ble_eq_true rfl)) d_M_sayDecimal_68 ⟨Nat.le_refl _, Nat.le_refl _⟩) hS (fun _ _ h => h) (fun _ h => h) (fun u t H1 locs ht1 hvm hw hB hz1 hk1 hS => ?_)
        rw [hw] at hB
        rw [ht1] at hB
        have hP : va_P (dC, dI) cls2 (wM cI h0 rw pt ou r_7.1 mR r_7.2.1 r_7.2.2.1 r_7.2.2.2.1 r_7.2.2.2.2) H1 := hB
        have hD : va_D (aM h0 rw pt ou) (wM cI h0 rw pt ou r_7.1 mR r_7.2.1 r_7.2.2.1 r_7.2.2.2.1 r_7.2.2.2.2) := dD hD0 rfl
        refine lv_lload hx hb d_M_sayDecimal_71 (lv_at hl 3 rfl) ?_
        refine lv_ldc2 (v := 10) hx hb hown (ht aw_727) d_M_sayDecimal_73 ?_
        refine lv_ldiv hx hb d_M_sayDecimal_76 (by decide) ?_
        refine lv_lstore (lv' := [(4, .long (x4 / 10)), (0, .ref (h0)), (1, .int (a0)), (2, .long (x2))]) hx hb d_M_sayDecimal_77 hl (by decide) rfl (fun ls hl => ?_)
        refine lv_goto (tgt := 48) hx hb d_M_sayDecimal_79 (by decide) ?_
        exact ih48 x2 (x4 / 10) r_7.1 r_7.2.1 r_7.2.2.1 r_7.2.2.2.1 r_7.2.2.2.2 _ _ _ hP hS (lv_sub hl [1, 2, 3, 0] rfl) hf
  have J26 : ∀ (n26 : Nat) (x2 : Int64) (x4 : Int64) (y_th : Int32) (y_pf : (Nat → Int32)) (y_of : (Nat → Int32)) (y_sz : Int32) (y_bg : Int32) (H : Heap) (locs : List Loc) (ls : Array Slot), va_P (dC, dI) cls2 (wM cI h0 rw pt ou y_th mR y_pf y_of y_sz y_bg) H → va_S (aM h0 rw pt ou) s.heap H locs → lv_has ls 6 [(0, .ref (h0)), (1, .int (a0)), (2, .long (x2)), (4, .long (x4))] → f_M_sayDecimal_L26 w_th w_pf w_of w_sz w_bg a0  n26 x2 x4 y_th y_pf y_of y_sz y_bg = some r → wW p l e (headSpec (Cond.code y_M_sayDecimal b_M_sayDecimal 6 (Option.none : Option FieldType) :: aw) ({ frames := 1, cells := 0, slots := 0, locals := 21 } : Room)).room s m ([.ref (h0), .int (a0)] : List Value).toArray below meth c (va_Qv (fun u => u = r) (fun (u : Int32 × (Nat → Int32) × (Nat → Int32) × Int32 × Int32) t => va_P (dC, dI) cls2 (wM cI h0 rw pt ou u.1 mR u.2.1 u.2.2.1 u.2.2.2.1 u.2.2.2.2) t.heap) (aM h0 rw pt ou)) (aM h0 rw pt ou) H locs (F0 m 26 ls []) := by
    intro n26
    induction n26 with
    | zero =>
      intro x2 x4 y_th y_pf y_of y_sz y_bg H locs ls hP hS hl hf
      rw [f_M_sayDecimal_L26] at hf
      cases hf
    | succ n26 ih26 =>
      intro x2 x4 y_th y_pf y_of y_sz y_bg H locs ls hP hS hl hf
      rw [f_M_sayDecimal_L26] at hf
      have hD : va_D (aM h0 rw pt ou) (wM cI h0 rw pt ou y_th mR y_pf y_of y_sz y_bg) := dD hD0 rfl
      refine lv_lload_n hx hb d_M_sayDecimal_26 rfl (lv_at hl 2 rfl) ?_
      refine lv_lload hx hb d_M_sayDecimal_27 (lv_at hl 3 rfl) ?_
      obtain ⟨z_3, hf⟩ := ju_gd hf
      refine lv_ldiv hx hb d_M_sayDecimal_29 z_3 ?_
      refine lv_ldc2 (v := 9) hx hb hown (ht aw_726) d_M_sayDecimal_30 ?_
      refine W.lcmp hx hb d_M_sayDecimal_33 ?_
      refine lv_if_le (tgt := 48) hx hb d_M_sayDecimal_34 (by decide) (fun c_4 => ?_) (fun c_4 => ?_)
      · replace hf := (if_pos c_4).symm.trans hf
        exact J48 80 x2 x4 y_th y_pf y_of y_sz y_bg _ _ _ hP hS (lv_sub hl [0, 1, 2, 3] rfl) hf
      · replace hf := (if_neg c_4).symm.trans hf
        refine lv_ldc2 (v := 10) hx hb hown (ht aw_727) d_M_sayDecimal_37 ?_
        refine lv_lload hx hb d_M_sayDecimal_40 (lv_at hl 3 rfl) ?_
        refine lv_lmul hx hb d_M_sayDecimal_42 ?_
        refine lv_lstore (lv' := [(4, .long (10 * x4)), (0, .ref (h0)), (1, .int (a0)), (2, .long (x2))]) hx hb d_M_sayDecimal_43 hl (by decide) rfl (fun ls hl => ?_)
        refine lv_goto (tgt := 26) hx hb d_M_sayDecimal_45 (by decide) ?_
        exact ih26 x2 (10 * x4) y_th y_pf y_of y_sz y_bg _ _ _ hP hS (lv_sub hl [1, 2, 3, 0] rfl) hf
  have J10 : ∀ (y_th : Int32) (y_pf : (Nat → Int32)) (y_of : (Nat → Int32)) (y_sz : Int32) (y_bg : Int32) (H : Heap) (locs : List Loc) (ls : Array Slot), va_P (dC, dI) cls2 (wM cI h0 rw pt ou y_th mR y_pf y_of y_sz y_bg) H → va_S (aM h0 rw pt ou) s.heap H locs → lv_has ls 6 [(0, .ref (h0)), (1, .int (a0))] → f_M_sayDecimal_L10 w_th w_pf w_of w_sz w_bg a0  y_th y_pf y_of y_sz y_bg = some r → wW p l e (headSpec (Cond.code y_M_sayDecimal b_M_sayDecimal 6 (Option.none : Option FieldType) :: aw) ({ frames := 1, cells := 0, slots := 0, locals := 21 } : Room)).room s m ([.ref (h0), .int (a0)] : List Value).toArray below meth c (va_Qv (fun u => u = r) (fun (u : Int32 × (Nat → Int32) × (Nat → Int32) × Int32 × Int32) t => va_P (dC, dI) cls2 (wM cI h0 rw pt ou u.1 mR u.2.1 u.2.2.1 u.2.2.2.1 u.2.2.2.2) t.heap) (aM h0 rw pt ou)) (aM h0 rw pt ou) H locs (F0 m 10 ls []) := by
    intro y_th y_pf y_of y_sz y_bg H locs ls hP hS hl hf
    rw [f_M_sayDecimal_L10] at hf
    have hD : va_D (aM h0 rw pt ou) (wM cI h0 rw pt ou y_th mR y_pf y_of y_sz y_bg) := dD hD0 rfl
    refine lv_iload_n hx hb d_M_sayDecimal_10 rfl (lv_at hl 1 rfl) ?_
    refine lv_if_ge (tgt := 20) hx hb d_M_sayDecimal_11 (by decide) (fun c_2 => ?_) (fun c_2 => ?_)
    · replace hf := (if_pos c_2).symm.trans hf
      refine lv_iload_n hx hb d_M_sayDecimal_20 rfl (lv_at hl 1 rfl) ?_
      refine lv_i2l (v := a0.toInt64) hx hb d_M_sayDecimal_21 rfl ?_
      refine lv_lstore_n (lv' := [(2, .long (a0.toInt64)), (0, .ref (h0)), (1, .int (a0))]) hx hb d_M_sayDecimal_22 rfl hl (by decide) rfl (fun ls hl => ?_)
      refine lv_lconst (v := 1) hx hb d_M_sayDecimal_23 (by decide) ?_
      refine lv_lstore (lv' := [(4, .long (1)), (2, .long (a0.toInt64)), (0, .ref (h0)), (1, .int (a0))]) hx hb d_M_sayDecimal_24 hl (by decide) rfl (fun ls hl => ?_)
      exact J26 80 a0.toInt64 1 y_th y_pf y_of y_sz y_bg _ _ _ hP hS (lv_sub hl [2, 3, 1, 0] rfl) hf
    · replace hf := (if_neg c_2).symm.trans hf
      refine lv_iload_n hx hb d_M_sayDecimal_14 rfl (lv_at hl 1 rfl) ?_
      refine lv_i2l (v := a0.toInt64) hx hb d_M_sayDecimal_15 rfl ?_
      refine lv_lneg hx hb d_M_sayDecimal_16 ?_
      refine lv_goto (tgt := 22) hx hb d_M_sayDecimal_17 (by decide) ?_
      refine lv_lstore_n (lv' := [(2, .long (-a0.toInt64)), (0, .ref (h0)), (1, .int (a0))]) hx hb d_M_sayDecimal_22 rfl hl (by decide) rfl (fun ls hl => ?_)
      refine lv_lconst (v := 1) hx hb d_M_sayDecimal_23 (by decide) ?_
      refine lv_lstore (lv' := [(4, .long (1)), (2, .long (-a0.toInt64)), (0, .ref (h0)), (1, .int (a0))]) hx hb d_M_sayDecimal_24 hl (by decide) rfl (fun ls hl => ?_)
      exact J26 80 (-a0.toInt64) 1 y_th y_pf y_of y_sz y_bg _ _ _ hP hS (lv_sub hl [2, 3, 1, 0] rfl) hf
  rw [f_M_sayDecimal] at hf
  refine lv_iload_n hx hb d_M_sayDecimal_0 rfl (lv_at hl 1 rfl) ?_
  refine lv_if_ge (tgt := 10) hx hb d_M_sayDecimal_1 (by decide) (fun c_1 => ?_) (fun c_1 => ?_)
  · replace hf := (if_pos c_1).symm.trans hf
    exact J10 w_th w_pf w_of w_sz w_bg _ _ _ hP hS (lv_sub hl [0, 1] rfl) hf
  · replace hf := (if_neg c_1).symm.trans hf
    refine lv_aload_n hx hb d_M_sayDecimal_4 rfl (lv_at hl 0 rfl) ?_
    refine lv_bipush (v := 45) hx hb d_M_sayDecimal_5 (by decide) ?_
    obtain ⟨r_9, g_10, hf⟩ := Option.bind_eq_some_iff.mp hf
    refine va_callv (va_runV (As := [.int (45)]) (rest := []) ⟨hx, hb, hml, hown, hts⟩ (c_M_say l (ad := ad) (sk := sk) (sv := sv) (tK := tK) dC dI cI h0 rw pt ou w_th w_pf w_of w_sz w_bg 45  r_9 g_10) (cwV 1 hts (aw_V aw_664 aw_666 aw_p33 aw_2 aw_667) rfl rfl rfl (by decide +kernel) ⟨Nat.le_of_ble_eq_true rfl, Nat.le_of_ble_eq_true rfl⟩) ⟨wBlind, va_recv hK hP (ci := 1) (q0 := 0) rfl rfl, fun U hU hW => ⟨rfl, by rw [hU]; exact hP, va_K.moved hW.alike hK, hD, hT.at hS hU hW (fun _ z => z)⟩⟩ rfl rfl hl.1 rfl (lv_room (Nat.le_of_ble_eq_true rfl)) d_M_sayDecimal_7 ⟨Nat.le_refl _, Nat.le_refl _⟩) hS (fun _ _ h => h) (fun _ h => h) (fun u t H1 locs ht1 hvm hw hB hz1 hk1 hS => ?_)
    rw [hw] at hB
    rw [ht1] at hB
    have hP : va_P (dC, dI) cls2 (wM cI h0 rw pt ou r_9.1 mR r_9.2.1 r_9.2.2.1 r_9.2.2.2.1 r_9.2.2.2.2) H1 := hB
    have hD : va_D (aM h0 rw pt ou) (wM cI h0 rw pt ou r_9.1 mR r_9.2.1 r_9.2.2.1 r_9.2.2.2.1 r_9.2.2.2.2) := dD hD0 rfl
    exact J10 r_9.1 r_9.2.1 r_9.2.2.1 r_9.2.2.2.1 r_9.2.2.2.2 _ _ _ hP hS (lv_sub hl [0, 1] rfl) hf

def f_M_sayHexadecimal_L47 (w_th : Int32) (w_pf : Nat → Int32) (w_of : Nat → Int32) (w_sz : Int32) (w_bg : Int32) (a0 : Int32) (k17 : Int32 → Int32 → Int32 → (Nat → Int32) → (Nat → Int32) → Int32 → Int32 → Option (Int32 × (Nat → Int32) × (Nat → Int32) × Int32 × Int32)) (x2 : Int32) (x3 : Int32) (x4 : Int32) (t0 : Int32) (y_th : Int32) (y_pf : (Nat → Int32)) (y_of : (Nat → Int32)) (y_sz : Int32) (y_bg : Int32) : Option (Int32 × (Nat → Int32) × (Nat → Int32) × Int32 × Int32) :=
  if t0 = 0 then (k17 t0 (x3 + (-4)) y_th y_pf y_of y_sz y_bg) else (if 10 ≤ x4 then ((f_M_say y_th y_pf y_of y_sz y_bg ((97 + x4) - 10)).bind fun r_9 => k17 t0 (x3 + (-4)) r_9.1 r_9.2.1 r_9.2.2.1 r_9.2.2.2.1 r_9.2.2.2.2) else ((f_M_say y_th y_pf y_of y_sz y_bg (48 + x4)).bind fun r_11 => k17 t0 (x3 + (-4)) r_11.1 r_11.2.1 r_11.2.2.1 r_11.2.2.2.1 r_11.2.2.2.2))
def f_M_sayHexadecimal_L42 (w_th : Int32) (w_pf : Nat → Int32) (w_of : Nat → Int32) (w_sz : Int32) (w_bg : Int32) (a0 : Int32) (k17 : Int32 → Int32 → Int32 → (Nat → Int32) → (Nat → Int32) → Int32 → Int32 → Option (Int32 × (Nat → Int32) × (Nat → Int32) × Int32 × Int32)) (x2 : Int32) (x3 : Int32) (x4 : Int32) (y_th : Int32) (y_pf : (Nat → Int32)) (y_of : (Nat → Int32)) (y_sz : Int32) (y_bg : Int32) : Option (Int32 × (Nat → Int32) × (Nat → Int32) × Int32 × Int32) :=
  f_M_sayHexadecimal_L47 w_th w_pf w_of w_sz w_bg a0 k17 x2 x3 x4 1 y_th y_pf y_of y_sz y_bg
def f_M_sayHexadecimal_L17 (w_th : Int32) (w_pf : Nat → Int32) (w_of : Nat → Int32) (w_sz : Int32) (w_bg : Int32) (a0 : Int32)  : Nat → Int32 → Int32 → Int32 → (Nat → Int32) → (Nat → Int32) → Int32 → Int32 → Option (Int32 × (Nat → Int32) × (Nat → Int32) × Int32 × Int32)
  | 0, _, _, _, _, _, _, _ => none
  | n + 1, x2, x3, y_th, y_pf, y_of, y_sz, y_bg =>
    if x3 < 0 then (some (y_th, y_pf, y_of, y_sz, y_bg)) else (if x2 = 0 then (if 0 < ((ju_ushr a0 x3) &&& 15) then (f_M_sayHexadecimal_L42 w_th w_pf w_of w_sz w_bg a0 (fun y0 y1 y2 y3 y4 y5 y6 => f_M_sayHexadecimal_L17 w_th w_pf w_of w_sz w_bg a0  n y0 y1 y2 y3 y4 y5 y6) x2 x3 ((ju_ushr a0 x3) &&& 15) y_th y_pf y_of y_sz y_bg) else (if x3 = 0 then (f_M_sayHexadecimal_L42 w_th w_pf w_of w_sz w_bg a0 (fun y0 y1 y2 y3 y4 y5 y6 => f_M_sayHexadecimal_L17 w_th w_pf w_of w_sz w_bg a0  n y0 y1 y2 y3 y4 y5 y6) x2 x3 ((ju_ushr a0 x3) &&& 15) y_th y_pf y_of y_sz y_bg) else (f_M_sayHexadecimal_L47 w_th w_pf w_of w_sz w_bg a0 (fun y0 y1 y2 y3 y4 y5 y6 => f_M_sayHexadecimal_L17 w_th w_pf w_of w_sz w_bg a0  n y0 y1 y2 y3 y4 y5 y6) x2 x3 ((ju_ushr a0 x3) &&& 15) 0 y_th y_pf y_of y_sz y_bg))) else (f_M_sayHexadecimal_L42 w_th w_pf w_of w_sz w_bg a0 (fun y0 y1 y2 y3 y4 y5 y6 => f_M_sayHexadecimal_L17 w_th w_pf w_of w_sz w_bg a0  n y0 y1 y2 y3 y4 y5 y6) x2 x3 ((ju_ushr a0 x3) &&& 15) y_th y_pf y_of y_sz y_bg))
def f_M_sayHexadecimal (w_th : Int32) (w_pf : Nat → Int32) (w_of : Nat → Int32) (w_sz : Int32) (w_bg : Int32) (a0 : Int32) : Option (Int32 × (Nat → Int32) × (Nat → Int32) × Int32 × Int32) :=
  (f_M_say w_th w_pf w_of w_sz w_bg 48).bind fun r_1 => (f_M_say r_1.1 r_1.2.1 r_1.2.2.1 r_1.2.2.2.1 r_1.2.2.2.2 120).bind fun r_3 => f_M_sayHexadecimal_L17 w_th w_pf w_of w_sz w_bg a0  80 0 28 r_3.1 r_3.2.1 r_3.2.2.1 r_3.2.2.2.1 r_3.2.2.2.2
set_option maxHeartbeats 1000000 in
set_option maxRecDepth 100000 in
theorem c_M_sayHexadecimal (l : Launch) {ad sk sv : Nat → Nat} {tK : Nat} (dC : Nat → ClassId) (dI : Nat → Nat → Nat) (cI : ClassId) (h0 rw pt ou : Nat) (w_th : Int32) (w_pf : Nat → Int32) (w_of : Nat → Int32) (w_sz : Int32) (w_bg : Int32) (a0 : Int32)  (r : Int32 × (Nat → Int32) × (Nat → Int32) × Int32 × Int32) (hf : f_M_sayHexadecimal w_th w_pf w_of w_sz w_bg a0 = some r) : Met l y_M_sayHexadecimal (Cond.code y_M_sayHexadecimal b_M_sayHexadecimal 5 (Option.none : Option FieldType) :: aw) ({ frames := 1, cells := 0, slots := 0, locals := 21 } : Room) (va_Pc [.ref (h0), .int (a0)] (fun U => va_P (dC, dI) cls2 (wM cI h0 rw pt ou w_th mR w_pf w_of w_sz w_bg) U.heap ∧ va_K (dC, dI) cls2 [(cI, .int)] U ∧ va_D (aM h0 rw pt ou) (wM cI h0 rw pt ou w_th mR w_pf w_of w_sz w_bg) ∧ tb ad sk sv tK (aM h0 rw pt ou) U U.heap)) (va_Qv (fun u => u = r) (fun (u : Int32 × (Nat → Int32) × (Nat → Int32) × Int32 × Int32) t => va_P (dC, dI) cls2 (wM cI h0 rw pt ou u.1 mR u.2.1 u.2.2.1 u.2.2.2.1 u.2.2.2.2) t.heap) (aM h0 rw pt ou)) 0 0 (aM h0 rw pt ou) := by
  refine Met.ofW (cc := b_M_sayHexadecimal) (maxL := 5) (ret := (Option.none : Option FieldType)) (by decide) rfl ?_
  intro p e s m args below meth c s₁ B hml hv
  obtain ⟨rfl, hP, hK, hD, hT⟩ := hv
  have hD0 := hD
  have hx := B.exec
  have hb := B.bytes
  have hr := B.returns
  have hts := atoms_spec (ws := (Cond.code y_M_sayHexadecimal b_M_sayHexadecimal 5 (Option.none : Option FieldType) :: aw)) B.pre
  have ht : ∀ {w : Cond}, w ∈ aw → w.before ([.ref (h0), .int (a0)] : List Value).toArray s = true := fun h => hts _ (List.mem_cons_of_mem _ h)
  have hown : s.vm.findClass "CodeWordsModel" = some m.cls := findClass_of_methodNamed B.named
  have hlocks := B.notSynchronized
  have hS : va_S (aM h0 rw pt ou) s.heap s.heap [] := va_S.rf
  have hl := lv_entry ([.ref (h0), .int (a0)]) (n := 5) (Nat.le_of_ble_eq_true rfl)
  rw [lg_entry_eq]
  generalize (lg_sl ([.ref (h0), .int (a0)]) ++ List.replicate (5 - (lg_sl ([.ref (h0), .int (a0)])).length) Slot.unset).toArray = ls at hl ⊢
  have hl : lv_has ls 5 [(0, .ref (h0)), (1, .int (a0))] := hl
  have J17 : ∀ (n17 : Nat) (x2 : Int32) (x3 : Int32) (y_th : Int32) (y_pf : (Nat → Int32)) (y_of : (Nat → Int32)) (y_sz : Int32) (y_bg : Int32) (H : Heap) (locs : List Loc) (ls : Array Slot), va_P (dC, dI) cls2 (wM cI h0 rw pt ou y_th mR y_pf y_of y_sz y_bg) H → va_S (aM h0 rw pt ou) s.heap H locs → lv_has ls 5 [(0, .ref (h0)), (1, .int (a0)), (2, .int (x2)), (3, .int (x3))] → f_M_sayHexadecimal_L17 w_th w_pf w_of w_sz w_bg a0  n17 x2 x3 y_th y_pf y_of y_sz y_bg = some r → wW p l e (headSpec (Cond.code y_M_sayHexadecimal b_M_sayHexadecimal 5 (Option.none : Option FieldType) :: aw) ({ frames := 1, cells := 0, slots := 0, locals := 21 } : Room)).room s m ([.ref (h0), .int (a0)] : List Value).toArray below meth c (va_Qv (fun u => u = r) (fun (u : Int32 × (Nat → Int32) × (Nat → Int32) × Int32 × Int32) t => va_P (dC, dI) cls2 (wM cI h0 rw pt ou u.1 mR u.2.1 u.2.2.1 u.2.2.2.1 u.2.2.2.2) t.heap) (aM h0 rw pt ou)) (aM h0 rw pt ou) H locs (F0 m 17 ls []) := by
    intro n17
    induction n17 with
    | zero =>
      intro x2 x3 y_th y_pf y_of y_sz y_bg H locs ls hP hS hl hf
      rw [f_M_sayHexadecimal_L17] at hf
      cases hf
    | succ n17 ih17 =>
      intro x2 x3 y_th y_pf y_of y_sz y_bg H locs ls hP hS hl hf
      rw [f_M_sayHexadecimal_L17] at hf
      have hD : va_D (aM h0 rw pt ou) (wM cI h0 rw pt ou y_th mR y_pf y_of y_sz y_bg) := dD hD0 rfl
      have J47 : ∀ (x2 : Int32) (x3 : Int32) (x4 : Int32) (t0 : Int32) (y_th : Int32) (y_pf : (Nat → Int32)) (y_of : (Nat → Int32)) (y_sz : Int32) (y_bg : Int32) (H : Heap) (locs : List Loc) (ls : Array Slot), va_P (dC, dI) cls2 (wM cI h0 rw pt ou y_th mR y_pf y_of y_sz y_bg) H → va_S (aM h0 rw pt ou) s.heap H locs → lv_has ls 5 [(0, .ref (h0)), (1, .int (a0)), (2, .int (x2)), (3, .int (x3)), (4, .int (x4))] → f_M_sayHexadecimal_L47 w_th w_pf w_of w_sz w_bg a0 (fun y0 y1 y2 y3 y4 y5 y6 => f_M_sayHexadecimal_L17 w_th w_pf w_of w_sz w_bg a0  n17 y0 y1 y2 y3 y4 y5 y6) x2 x3 x4 t0 y_th y_pf y_of y_sz y_bg = some r → wW p l e (headSpec (Cond.code y_M_sayHexadecimal b_M_sayHexadecimal 5 (Option.none : Option FieldType) :: aw) ({ frames := 1, cells := 0, slots := 0, locals := 21 } : Room)).room s m ([.ref (h0), .int (a0)] : List Value).toArray below meth c (va_Qv (fun u => u = r) (fun (u : Int32 × (Nat → Int32) × (Nat → Int32) × Int32 × Int32) t => va_P (dC, dI) cls2 (wM cI h0 rw pt ou u.1 mR u.2.1 u.2.2.1 u.2.2.2.1 u.2.2.2.2) t.heap) (aM h0 rw pt ou)) (aM h0 rw pt ou) H locs (F0 m 47 ls [.int (t0)]) := by
        intro x2 x3 x4 t0 y_th y_pf y_of y_sz y_bg H locs ls hP hS hl hf
        rw [f_M_sayHexadecimal_L47] at hf
        have hD : va_D (aM h0 rw pt ou) (wM cI h0 rw pt ou y_th mR y_pf y_of y_sz y_bg) := dD hD0 rfl
        refine lv_istore_n (lv' := [(2, .int (t0)), (0, .ref (h0)), (1, .int (a0)), (3, .int (x3)), (4, .int (x4))]) hx hb d_M_sayHexadecimal_47 rfl hl (by decide) rfl (fun ls hl => ?_)
        refine lv_iload_n hx hb d_M_sayHexadecimal_48 rfl (lv_at hl 0 rfl) ?_
        refine lv_if_eq (tgt := 79) hx hb d_M_sayHexadecimal_49 (by decide) (fun c_7 => ?_) (fun c_7 => ?_)
        · replace hf := (if_pos c_7).symm.trans hf
          refine lv_iinc (v := x3 + (-4)) (lv' := [(3, .int (x3 + (-4))), (2, .int (t0)), (0, .ref (h0)), (1, .int (a0)), (4, .int (x4))]) hx hb d_M_sayHexadecimal_79 hl (k := 3) rfl rfl (by decide) rfl (fun ls hl => ?_)
          refine lv_goto (tgt := 17) hx hb d_M_sayHexadecimal_82 (by decide) ?_
          exact ih17 t0 (x3 + (-4)) y_th y_pf y_of y_sz y_bg _ _ _ hP hS (lv_sub hl [2, 3, 1, 0] rfl) hf
        · replace hf := (if_neg c_7).symm.trans hf
          refine lv_aload_n hx hb d_M_sayHexadecimal_52 rfl (lv_at hl 1 rfl) ?_
          refine lv_iload hx hb d_M_sayHexadecimal_53 (lv_at hl 4 rfl) ?_
          refine lv_bipush (v := 10) hx hb d_M_sayHexadecimal_55 (by decide) ?_
          refine lv_icmp_ge (tgt := 68) hx hb d_M_sayHexadecimal_57 (by decide) (fun c_8 => ?_) (fun c_8 => ?_)
          · replace hf := (if_pos c_8).symm.trans hf
            refine lv_bipush (v := 97) hx hb d_M_sayHexadecimal_68 (by decide) ?_
            refine lv_iload hx hb d_M_sayHexadecimal_70 (lv_at hl 4 rfl) ?_
            refine lv_iadd hx hb d_M_sayHexadecimal_72 ?_
            refine lv_bipush (v := 10) hx hb d_M_sayHexadecimal_73 (by decide) ?_
            refine lv_isub hx hb d_M_sayHexadecimal_75 ?_
            obtain ⟨r_9, g_10, hf⟩ := Option.bind_eq_some_iff.mp hf
            refine va_callv (va_runV (As := [.int ((97 + x4) - 10)]) (rest := []) ⟨hx, hb, hml, hown, hts⟩ (c_M_say l (ad := ad) (sk := sk) (sv := sv) (tK := tK) dC dI cI h0 rw pt ou y_th y_pf y_of y_sz y_bg ((97 + x4) - 10)  r_9 g_10) (cwV 1 hts (aw_V aw_664 aw_666 aw_p33 aw_2 aw_667) rfl rfl rfl (by decide +kernel) ⟨Nat.le_of_ble_eq_true rfl, Nat.le_of_ble_eq_true rfl⟩) ⟨wBlind, va_recv hK hP (ci := 1) (q0 := 0) rfl rfl, fun U hU hW => ⟨rfl, by rw [hU]; exact hP, va_K.moved hW.alike hK, hD, hT.at hS hU hW (fun _ z => z)⟩⟩ rfl rfl hl.1 rfl (lv_room (Nat.le_of_ble_eq_true rfl)) d_M_sayHexadecimal_76 ⟨Nat.le_refl _, Nat.le_refl _⟩) hS (fun _ _ h => h) (fun _ h => h) (fun u t H1 locs ht1 hvm hw hB hz1 hk1 hS => ?_)
            rw [hw] at hB
            rw [ht1] at hB
            have hP : va_P (dC, dI) cls2 (wM cI h0 rw pt ou r_9.1 mR r_9.2.1 r_9.2.2.1 r_9.2.2.2.1 r_9.2.2.2.2) H1 := hB
            have hD : va_D (aM h0 rw pt ou) (wM cI h0 rw pt ou r_9.1 mR r_9.2.1 r_9.2.2.1 r_9.2.2.2.1 r_9.2.2.2.2) := dD hD0 rfl
            refine lv_iinc (v := x3 + (-4)) (lv' := [(3, .int (x3 + (-4))), (2, .int (t0)), (0, .ref (h0)), (1, .int (a0)), (4, .int (x4))]) hx hb d_M_sayHexadecimal_79 hl (k := 3) rfl rfl (by decide) rfl (fun ls hl => ?_)
            refine lv_goto (tgt := 17) hx hb d_M_sayHexadecimal_82 (by decide) ?_
            exact ih17 t0 (x3 + (-4)) r_9.1 r_9.2.1 r_9.2.2.1 r_9.2.2.2.1 r_9.2.2.2.2 _ _ _ hP hS (lv_sub hl [2, 3, 1, 0] rfl) hf
          · replace hf := (if_neg c_8).symm.trans hf
            refine lv_bipush (v := 48) hx hb d_M_sayHexadecimal_60 (by decide) ?_
            refine lv_iload hx hb d_M_sayHexadecimal_62 (lv_at hl 4 rfl) ?_
            refine lv_iadd hx hb d_M_sayHexadecimal_64 ?_
            refine lv_goto (tgt := 76) hx hb d_M_sayHexadecimal_65 (by decide) ?_
            obtain ⟨r_11, g_12, hf⟩ := Option.bind_eq_some_iff.mp hf
            refine va_callv (va_runV (As := [.int (48 + x4)]) (rest := []) ⟨hx, hb, hml, hown, hts⟩ (c_M_say l (ad := ad) (sk := sk) (sv := sv) (tK := tK) dC dI cI h0 rw pt ou y_th y_pf y_of y_sz y_bg (48 + x4)  r_11 g_12) (cwV 1 hts (aw_V aw_664 aw_666 aw_p33 aw_2 aw_667) rfl rfl rfl (by decide +kernel) ⟨Nat.le_of_ble_eq_true rfl, Nat.le_of_ble_eq_true rfl⟩) ⟨wBlind, va_recv hK hP (ci := 1) (q0 := 0) rfl rfl, fun U hU hW => ⟨rfl, by rw [hU]; exact hP, va_K.moved hW.alike hK, hD, hT.at hS hU hW (fun _ z => z)⟩⟩ rfl rfl hl.1 rfl (lv_room (Nat.le_of_ble_eq_true rfl)) d_M_sayHexadecimal_76 ⟨Nat.le_refl _, Nat.le_refl _⟩) hS (fun _ _ h => h) (fun _ h => h) (fun u t H1 locs ht1 hvm hw hB hz1 hk1 hS => ?_)
            rw [hw] at hB
            rw [ht1] at hB
            have hP : va_P (dC, dI) cls2 (wM cI h0 rw pt ou r_11.1 mR r_11.2.1 r_11.2.2.1 r_11.2.2.2.1 r_11.2.2.2.2) H1 := hB
            have hD : va_D (aM h0 rw pt ou) (wM cI h0 rw pt ou r_11.1 mR r_11.2.1 r_11.2.2.1 r_11.2.2.2.1 r_11.2.2.2.2) := dD hD0 rfl
            refine lv_iinc (v := x3 + (-4)) (lv' := [(3, .int (x3 + (-4))), (2, .int (t0)), (0, .ref (h0)), (1, .int (a0)), (4, .int (x4))]) hx hb d_M_sayHexadecimal_79 hl (k := 3) rfl rfl (by decide) rfl (fun ls hl => ?_)
            refine lv_goto (tgt := 17) hx hb d_M_sayHexadecimal_82 (by decide) ?_
            exact ih17 t0 (x3 + (-4)) r_11.1 r_11.2.1 r_11.2.2.1 r_11.2.2.2.1 r_11.2.2.2.2 _ _ _ hP hS (lv_sub hl [2, 3, 1, 0] rfl) hf
      have J42 : ∀ (x2 : Int32) (x3 : Int32) (x4 : Int32) (y_th : Int32) (y_pf : (Nat → Int32)) (y_of : (Nat → Int32)) (y_sz : Int32) (y_bg : Int32) (H : Heap) (locs : List Loc) (ls : Array Slot), va_P (dC, dI) cls2 (wM cI h0 rw pt ou y_th mR y_pf y_of y_sz y_bg) H → va_S (aM h0 rw pt ou) s.heap H locs → lv_has ls 5 [(0, .ref (h0)), (1, .int (a0)), (2, .int (x2)), (3, .int (x3)), (4, .int (x4))] → f_M_sayHexadecimal_L42 w_th w_pf w_of w_sz w_bg a0 (fun y0 y1 y2 y3 y4 y5 y6 => f_M_sayHexadecimal_L17 w_th w_pf w_of w_sz w_bg a0  n17 y0 y1 y2 y3 y4 y5 y6) x2 x3 x4 y_th y_pf y_of y_sz y_bg = some r → wW p l e (headSpec (Cond.code y_M_sayHexadecimal b_M_sayHexadecimal 5 (Option.none : Option FieldType) :: aw) ({ frames := 1, cells := 0, slots := 0, locals := 21 } : Room)).room s m ([.ref (h0), .int (a0)] : List Value).toArray below meth c (va_Qv (fun u => u = r) (fun (u : Int32 × (Nat → Int32) × (Nat → Int32) × Int32 × Int32) t => va_P (dC, dI) cls2 (wM cI h0 rw pt ou u.1 mR u.2.1 u.2.2.1 u.2.2.2.1 u.2.2.2.2) t.heap) (aM h0 rw pt ou)) (aM h0 rw pt ou) H locs (F0 m 42 ls []) := by
        intro x2 x3 x4 y_th y_pf y_of y_sz y_bg H locs ls hP hS hl hf
        rw [f_M_sayHexadecimal_L42] at hf
        have hD : va_D (aM h0 rw pt ou) (wM cI h0 rw pt ou y_th mR y_pf y_of y_sz y_bg) := dD hD0 rfl
        refine lv_iconst (v := 1) hx hb d_M_sayHexadecimal_42 (by decide) ?_
        refine lv_goto (tgt := 47) hx hb d_M_sayHexadecimal_43 (by decide) ?_
        exact J47 x2 x3 x4 1 y_th y_pf y_of y_sz y_bg _ _ _ hP hS (lv_sub hl [0, 1, 2, 3, 4] rfl) hf
      refine lv_iload_n hx hb d_M_sayHexadecimal_17 rfl (lv_at hl 3 rfl) ?_
      refine lv_if_lt (tgt := 85) hx hb d_M_sayHexadecimal_18 (by decide) (fun c_5 => ?_) (fun c_5 => ?_)
      · replace hf := (if_pos c_5).symm.trans hf
        exact W.vret hx hb hr (fun t ht hW => ⟨⟨(y_th, y_pf, y_of, y_sz, y_bg), rfl, Option.some.inj hf, by rw [← ht] at hP; exact hP⟩, hS.F ht⟩) hS.2.2 d_M_sayHexadecimal_85
      · replace hf := (if_neg c_5).symm.trans hf
        refine lv_iload_n hx hb d_M_sayHexadecimal_21 rfl (lv_at hl 1 rfl) ?_
        refine lv_iload_n hx hb d_M_sayHexadecimal_22 rfl (lv_at hl 3 rfl) ?_
        refine lv_iushr (v := ju_ushr a0 x3) hx hb d_M_sayHexadecimal_23 rfl ?_
        refine lv_bipush (v := 15) hx hb d_M_sayHexadecimal_24 (by decide) ?_
        refine lv_iand hx hb d_M_sayHexadecimal_26 ?_
        refine lv_istore (lv' := [(4, .int ((ju_ushr a0 x3) &&& 15)), (0, .ref (h0)), (1, .int (a0)), (2, .int (x2)), (3, .int (x3))]) hx hb d_M_sayHexadecimal_27 hl (by decide) rfl (fun ls hl => ?_)
        refine lv_iload_n hx hb d_M_sayHexadecimal_29 rfl (lv_at hl 3 rfl) ?_
        refine lv_if_ne (tgt := 42) hx hb d_M_sayHexadecimal_30 (by decide) (fun c_6 => ?_) (fun c_6 => ?_)
        · replace hf := (if_neg c_6).symm.trans hf
          exact J42 x2 x3 ((ju_ushr a0 x3) &&& 15) y_th y_pf y_of y_sz y_bg _ _ _ hP hS (lv_sub hl [1, 2, 3, 4, 0] rfl) hf
        · replace hf := (if_pos c_6).symm.trans hf
          refine lv_iload hx hb d_M_sayHexadecimal_33 (lv_at hl 0 rfl) ?_
          refine lv_if_gt (tgt := 42) hx hb d_M_sayHexadecimal_35 (by decide) (fun c_13 => ?_) (fun c_13 => ?_)
          · replace hf := (if_pos c_13).symm.trans hf
            exact J42 x2 x3 ((ju_ushr a0 x3) &&& 15) y_th y_pf y_of y_sz y_bg _ _ _ hP hS (lv_sub hl [1, 2, 3, 4, 0] rfl) hf
          · replace hf := (if_neg c_13).symm.trans hf
            refine lv_iload_n hx hb d_M_sayHexadecimal_38 rfl (lv_at hl 4 rfl) ?_
            refine lv_if_ne (tgt := 46) hx hb d_M_sayHexadecimal_39 (by decide) (fun c_14 => ?_) (fun c_14 => ?_)
            · replace hf := (if_neg c_14).symm.trans hf
              refine lv_iconst (v := 0) hx hb d_M_sayHexadecimal_46 (by decide) ?_
              exact J47 x2 x3 ((ju_ushr a0 x3) &&& 15) 0 y_th y_pf y_of y_sz y_bg _ _ _ hP hS (lv_sub hl [1, 2, 3, 4, 0] rfl) hf
            · replace hf := (if_pos c_14).symm.trans hf
              exact J42 x2 x3 ((ju_ushr a0 x3) &&& 15) y_th y_pf y_of y_sz y_bg _ _ _ hP hS (lv_sub hl [1, 2, 3, 4, 0] rfl) hf
  rw [f_M_sayHexadecimal] at hf
  refine lv_aload_n hx hb d_M_sayHexadecimal_0 rfl (lv_at hl 0 rfl) ?_
  refine lv_bipush (v := 48) hx hb d_M_sayHexadecimal_1 (by decide) ?_
  obtain ⟨r_1, g_2, hf⟩ := Option.bind_eq_some_iff.mp hf
  refine va_callv (va_runV (As := [.int (48)]) (rest := []) ⟨hx, hb, hml, hown, hts⟩ (c_M_say l (ad := ad) (sk := sk) (sv := sv) (tK := tK) dC dI cI h0 rw pt ou w_th w_pf w_of w_sz w_bg 48  r_1 g_2) (cwV 1 hts (aw_V aw_664 aw_666 aw_p33 aw_2 aw_667) rfl rfl rfl (by decide +kernel) ⟨Nat.le_of_ble_eq_true rfl, Nat.le_of_ble_eq_true rfl⟩) ⟨wBlind, va_recv hK hP (ci := 1) (q0 := 0) rfl rfl, fun U hU hW => ⟨rfl, by rw [hU]; exact hP, va_K.moved hW.alike hK, hD, hT.at hS hU hW (fun _ z => z)⟩⟩ rfl rfl hl.1 rfl (lv_room (Nat.le_of_ble_eq_true rfl)) d_M_sayHexadecimal_3 ⟨Nat.le_refl _, Nat.le_refl _⟩) hS (fun _ _ h => h) (fun _ h => h) (fun u t H1 locs ht1 hvm hw hB hz1 hk1 hS => ?_)
  rw [hw] at hB
  rw [ht1] at hB
  have hP : va_P (dC, dI) cls2 (wM cI h0 rw pt ou r_1.1 mR r_1.2.1 r_1.2.2.1 r_1.2.2.2.1 r_1.2.2.2.2) H1 := hB
  have hD : va_D (aM h0 rw pt ou) (wM cI h0 rw pt ou r_1.1 mR r_1.2.1 r_1.2.2.1 r_1.2.2.2.1 r_1.2.2.2.2) := dD hD0 rfl
  refine lv_aload_n hx hb d_M_sayHexadecimal_6 rfl (lv_at hl 0 rfl) ?_
  refine lv_bipush (v := 120) hx hb d_M_sayHexadecimal_7 (by decide) ?_
  obtain ⟨r_3, g_4, hf⟩ := Option.bind_eq_some_iff.mp hf
  refine va_callv (va_runV (As := [.int (120)]) (rest := []) ⟨hx, hb, hml, hown, hts⟩ (c_M_say l (ad := ad) (sk := sk) (sv := sv) (tK := tK) dC dI cI h0 rw pt ou r_1.1 r_1.2.1 r_1.2.2.1 r_1.2.2.2.1 r_1.2.2.2.2 120  r_3 g_4) (cwV 1 hts (aw_V aw_664 aw_666 aw_p33 aw_2 aw_667) rfl rfl rfl (by decide +kernel) ⟨Nat.le_of_ble_eq_true rfl, Nat.le_of_ble_eq_true rfl⟩) ⟨wBlind, va_recv hK hP (ci := 1) (q0 := 0) rfl rfl, fun U hU hW => ⟨rfl, by rw [hU]; exact hP, va_K.moved hW.alike hK, hD, hT.at hS hU hW (fun _ z => z)⟩⟩ rfl rfl hl.1 rfl (lv_room (Nat.le_of_ble_eq_true rfl)) d_M_sayHexadecimal_9 ⟨Nat.le_refl _, Nat.le_refl _⟩) hS (fun _ _ h => h) (fun _ h => h) (fun u t H1 locs ht1 hvm hw hB hz1 hk1 hS => ?_)
  rw [hw] at hB
  rw [ht1] at hB
  have hP : va_P (dC, dI) cls2 (wM cI h0 rw pt ou r_3.1 mR r_3.2.1 r_3.2.2.1 r_3.2.2.2.1 r_3.2.2.2.2) H1 := hB
  have hD : va_D (aM h0 rw pt ou) (wM cI h0 rw pt ou r_3.1 mR r_3.2.1 r_3.2.2.1 r_3.2.2.2.1 r_3.2.2.2.2) := dD hD0 rfl
  refine lv_iconst (v := 0) hx hb d_M_sayHexadecimal_12 (by decide) ?_
  refine lv_istore_n (lv' := [(2, .int (0)), (0, .ref (h0)), (1, .int (a0))]) hx hb d_M_sayHexadecimal_13 rfl hl (by decide) rfl (fun ls hl => ?_)
  refine lv_bipush (v := 28) hx hb d_M_sayHexadecimal_14 (by decide) ?_
  refine lv_istore_n (lv' := [(3, .int (28)), (2, .int (0)), (0, .ref (h0)), (1, .int (a0))]) hx hb d_M_sayHexadecimal_16 rfl hl (by decide) rfl (fun ls hl => ?_)
  exact J17 80 0 28 r_3.1 r_3.2.1 r_3.2.2.1 r_3.2.2.2.1 r_3.2.2.2.2 _ _ _ hP hS (lv_sub hl [2, 3, 1, 0] rfl) hf

def f_M_ahead_L13 (w_th : Int32) (w_pf : Nat → Int32) (w_of : Nat → Int32) (w_sz : Int32) (w_bg : Int32)  (y_th : Int32) (y_pf : (Nat → Int32)) (y_of : (Nat → Int32)) (y_sz : Int32) (y_bg : Int32) : Option (Int32 × (Nat → Int32) × (Nat → Int32) × Int32 × Int32) :=
  (f_M_say y_th y_pf y_of y_sz y_bg 32).bind fun r_2 => some (r_2.1, r_2.2.1, r_2.2.2.1, r_2.2.2.2.1, 1)
def f_M_ahead (w_th : Int32) (w_pf : Nat → Int32) (w_of : Nat → Int32) (w_sz : Int32) (w_bg : Int32) : Option (Int32 × (Nat → Int32) × (Nat → Int32) × Int32 × Int32) :=
  if w_bg = 0 then (f_M_ahead_L13 w_th w_pf w_of w_sz w_bg  w_th w_pf w_of w_sz w_bg) else ((f_M_say w_th w_pf w_of w_sz w_bg 44).bind fun r_4 => f_M_ahead_L13 w_th w_pf w_of w_sz w_bg  r_4.1 r_4.2.1 r_4.2.2.1 r_4.2.2.2.1 r_4.2.2.2.2)
set_option maxHeartbeats 1000000 in
set_option maxRecDepth 100000 in
theorem c_M_ahead (l : Launch) {ad sk sv : Nat → Nat} {tK : Nat} (dC : Nat → ClassId) (dI : Nat → Nat → Nat) (cI : ClassId) (h0 rw pt ou : Nat) (w_th : Int32) (w_pf : Nat → Int32) (w_of : Nat → Int32) (w_sz : Int32) (w_bg : Int32)   (r : Int32 × (Nat → Int32) × (Nat → Int32) × Int32 × Int32) (hf : f_M_ahead w_th w_pf w_of w_sz w_bg = some r) : Met l y_M_ahead (Cond.code y_M_ahead b_M_ahead 1 (Option.none : Option FieldType) :: aw) ({ frames := 1, cells := 0, slots := 0, locals := 21 } : Room) (va_Pc [.ref (h0)] (fun U => va_P (dC, dI) cls2 (wM cI h0 rw pt ou w_th mR w_pf w_of w_sz w_bg) U.heap ∧ va_K (dC, dI) cls2 [(cI, .int)] U ∧ va_D (aM h0 rw pt ou) (wM cI h0 rw pt ou w_th mR w_pf w_of w_sz w_bg) ∧ tb ad sk sv tK (aM h0 rw pt ou) U U.heap)) (va_Qv (fun u => u = r) (fun (u : Int32 × (Nat → Int32) × (Nat → Int32) × Int32 × Int32) t => va_P (dC, dI) cls2 (wM cI h0 rw pt ou u.1 mR u.2.1 u.2.2.1 u.2.2.2.1 u.2.2.2.2) t.heap) (aM h0 rw pt ou)) 0 0 (aM h0 rw pt ou) := by
  refine Met.ofW (cc := b_M_ahead) (maxL := 1) (ret := (Option.none : Option FieldType)) (by decide) rfl ?_
  intro p e s m args below meth c s₁ B hml hv
  obtain ⟨rfl, hP, hK, hD, hT⟩ := hv
  have hD0 := hD
  have hx := B.exec
  have hb := B.bytes
  have hr := B.returns
  have hts := atoms_spec (ws := (Cond.code y_M_ahead b_M_ahead 1 (Option.none : Option FieldType) :: aw)) B.pre
  have ht : ∀ {w : Cond}, w ∈ aw → w.before ([.ref (h0)] : List Value).toArray s = true := fun h => hts _ (List.mem_cons_of_mem _ h)
  have hown : s.vm.findClass "CodeWordsModel" = some m.cls := findClass_of_methodNamed B.named
  have hlocks := B.notSynchronized
  have hS : va_S (aM h0 rw pt ou) s.heap s.heap [] := va_S.rf
  have hl := lv_entry ([.ref (h0)]) (n := 1) (Nat.le_of_ble_eq_true rfl)
  rw [lg_entry_eq]
  generalize (lg_sl ([.ref (h0)]) ++ List.replicate (1 - (lg_sl ([.ref (h0)])).length) Slot.unset).toArray = ls at hl ⊢
  have hl : lv_has ls 1 [(0, .ref (h0))] := hl
  have J13 : ∀ (y_th : Int32) (y_pf : (Nat → Int32)) (y_of : (Nat → Int32)) (y_sz : Int32) (y_bg : Int32) (H : Heap) (locs : List Loc) (ls : Array Slot), va_P (dC, dI) cls2 (wM cI h0 rw pt ou y_th mR y_pf y_of y_sz y_bg) H → va_S (aM h0 rw pt ou) s.heap H locs → lv_has ls 1 [(0, .ref (h0))] → f_M_ahead_L13 w_th w_pf w_of w_sz w_bg  y_th y_pf y_of y_sz y_bg = some r → wW p l e (headSpec (Cond.code y_M_ahead b_M_ahead 1 (Option.none : Option FieldType) :: aw) ({ frames := 1, cells := 0, slots := 0, locals := 21 } : Room)).room s m ([.ref (h0)] : List Value).toArray below meth c (va_Qv (fun u => u = r) (fun (u : Int32 × (Nat → Int32) × (Nat → Int32) × Int32 × Int32) t => va_P (dC, dI) cls2 (wM cI h0 rw pt ou u.1 mR u.2.1 u.2.2.1 u.2.2.2.1 u.2.2.2.2) t.heap) (aM h0 rw pt ou)) (aM h0 rw pt ou) H locs (F0 m 13 ls []) := by
    intro y_th y_pf y_of y_sz y_bg H locs ls hP hS hl hf
    rw [f_M_ahead_L13] at hf
    have hD : va_D (aM h0 rw pt ou) (wM cI h0 rw pt ou y_th mR y_pf y_of y_sz y_bg) := dD hD0 rfl
    refine lv_aload_n hx hb d_M_ahead_13 rfl (lv_at hl 0 rfl) ?_
    refine lv_bipush (v := 32) hx hb d_M_ahead_14 (by decide) ?_
    obtain ⟨r_2, g_3, hf⟩ := Option.bind_eq_some_iff.mp hf
    refine va_callv (va_runV (As := [.int (32)]) (rest := []) ⟨hx, hb, hml, hown, hts⟩ (c_M_say l (ad := ad) (sk := sk) (sv := sv) (tK := tK) dC dI cI h0 rw pt ou y_th y_pf y_of y_sz y_bg 32  r_2 g_3) (cwV 1 hts (aw_V aw_664 aw_666 aw_p33 aw_2 aw_667) rfl rfl rfl (by decide +kernel) ⟨Nat.le_of_ble_eq_true rfl, Nat.le_of_ble_eq_true rfl⟩) ⟨wBlind, va_recv hK hP (ci := 1) (q0 := 0) rfl rfl, fun U hU hW => ⟨rfl, by rw [hU]; exact hP, va_K.moved hW.alike hK, hD, hT.at hS hU hW (fun _ z => z)⟩⟩ rfl rfl hl.1 rfl (lv_room (Nat.le_of_ble_eq_true rfl)) d_M_ahead_16 ⟨Nat.le_refl _, Nat.le_refl _⟩) hS (fun _ _ h => h) (fun _ h => h) (fun u t H1 locs ht1 hvm hw hB hz1 hk1 hS => ?_)
    rw [hw] at hB
    rw [ht1] at hB
    have hP : va_P (dC, dI) cls2 (wM cI h0 rw pt ou r_2.1 mR r_2.2.1 r_2.2.2.1 r_2.2.2.2.1 r_2.2.2.2.2) H1 := hB
    have hD : va_D (aM h0 rw pt ou) (wM cI h0 rw pt ou r_2.1 mR r_2.2.1 r_2.2.2.1 r_2.2.2.2.1 r_2.2.2.2.2) := dD hD0 rfl
    refine lv_aload_n hx hb d_M_ahead_19 rfl (lv_at hl 0 rfl) ?_
    refine lv_iconst (v := 1) hx hb d_M_ahead_20 (by decide) ?_
    refine va_put (D := (dC, dI)) (ci := 1) (v := .int (1)) (ty := .boolean) (C := "CodeWordsModel") (T := F_M) (N := 6) hx hb hts (in_M _) ty_M tyok_M nm_M hown hK hP hD hS 0 rfl rfl 5 (by decide) (ht aw_444) (fun _ h9 => h9) rfl (by decide +kernel) rfl rfl (Nat.le_of_ble_eq_true rfl) d_M_ahead_21 (fun H locs hP hD hS => ?_)
    have hP : va_P (dC, dI) cls2 (wM cI h0 rw pt ou r_2.1 mR r_2.2.1 r_2.2.2.1 r_2.2.2.2.1 1) H := hP
    have hD : va_D (aM h0 rw pt ou) (wM cI h0 rw pt ou r_2.1 mR r_2.2.1 r_2.2.2.1 r_2.2.2.2.1 1) := hD
    exact W.vret hx hb hr (fun t ht hW => ⟨⟨(r_2.1, r_2.2.1, r_2.2.2.1, r_2.2.2.2.1, 1), rfl, Option.some.inj hf, by rw [← ht] at hP; exact hP⟩, hS.F ht⟩) hS.2.2 d_M_ahead_24
  rw [f_M_ahead] at hf
  refine lv_aload_n hx hb d_M_ahead_0 rfl (lv_at hl 0 rfl) ?_
  refine va_get (D := (dC, dI)) (ci := 1) (v := .int (w_bg)) (C := "CodeWordsModel") (T := F_M) (N := 6) hx hb hts (in_M _) hown hK hP 0 rfl rfl 5 (by decide) (ht aw_444) (fun _ h9 => h9) rfl d_M_ahead_1 ?_
  refine lv_if_eq (tgt := 13) hx hb d_M_ahead_4 (by decide) (fun c_1 => ?_) (fun c_1 => ?_)
  · replace hf := (if_pos c_1).symm.trans hf
    exact J13 w_th w_pf w_of w_sz w_bg _ _ _ hP hS (lv_sub hl [0] rfl) hf
  · replace hf := (if_neg c_1).symm.trans hf
    refine lv_aload_n hx hb d_M_ahead_7 rfl (lv_at hl 0 rfl) ?_
    refine lv_bipush (v := 44) hx hb d_M_ahead_8 (by decide) ?_
    obtain ⟨r_4, g_5, hf⟩ := Option.bind_eq_some_iff.mp hf
    refine va_callv (va_runV (As := [.int (44)]) (rest := []) ⟨hx, hb, hml, hown, hts⟩ (c_M_say l (ad := ad) (sk := sk) (sv := sv) (tK := tK) dC dI cI h0 rw pt ou w_th w_pf w_of w_sz w_bg 44  r_4 g_5) (cwV 1 hts (aw_V aw_664 aw_666 aw_p33 aw_2 aw_667) rfl rfl rfl (by decide +kernel) ⟨Nat.le_of_ble_eq_true rfl, Nat.le_of_ble_eq_true rfl⟩) ⟨wBlind, va_recv hK hP (ci := 1) (q0 := 0) rfl rfl, fun U hU hW => ⟨rfl, by rw [hU]; exact hP, va_K.moved hW.alike hK, hD, hT.at hS hU hW (fun _ z => z)⟩⟩ rfl rfl hl.1 rfl (lv_room (Nat.le_of_ble_eq_true rfl)) d_M_ahead_10 ⟨Nat.le_refl _, Nat.le_refl _⟩) hS (fun _ _ h => h) (fun _ h => h) (fun u t H1 locs ht1 hvm hw hB hz1 hk1 hS => ?_)
    rw [hw] at hB
    rw [ht1] at hB
    have hP : va_P (dC, dI) cls2 (wM cI h0 rw pt ou r_4.1 mR r_4.2.1 r_4.2.2.1 r_4.2.2.2.1 r_4.2.2.2.2) H1 := hB
    have hD : va_D (aM h0 rw pt ou) (wM cI h0 rw pt ou r_4.1 mR r_4.2.1 r_4.2.2.1 r_4.2.2.2.1 r_4.2.2.2.2) := dD hD0 rfl
    exact J13 r_4.1 r_4.2.1 r_4.2.2.1 r_4.2.2.2.1 r_4.2.2.2.2 _ _ _ hP hS (lv_sub hl [0] rfl) hf

def f_M_register (w_th : Int32) (w_pf : Nat → Int32) (w_of : Nat → Int32) (w_sz : Int32) (w_bg : Int32) (a0 : Int32) : Option (Int32 × (Nat → Int32) × (Nat → Int32) × Int32 × Int32) :=
  (f_M_ahead w_th w_pf w_of w_sz w_bg ).bind fun r_1 => (f_M_registerOf a0).bind fun r_3 => (f_M_sayName r_1.1 r_1.2.1 r_1.2.2.1 r_1.2.2.2.1 r_1.2.2.2.2 r_3).bind fun r_5 => some (r_5.1, r_5.2.1, r_5.2.2.1, r_5.2.2.2.1, r_5.2.2.2.2)
set_option maxHeartbeats 1000000 in
set_option maxRecDepth 100000 in
theorem c_M_register (l : Launch) {ad sk sv : Nat → Nat} {tK : Nat} (dC : Nat → ClassId) (dI : Nat → Nat → Nat) (cI : ClassId) (h0 rw pt ou : Nat) (w_th : Int32) (w_pf : Nat → Int32) (w_of : Nat → Int32) (w_sz : Int32) (w_bg : Int32) (a0 : Int32)  (r : Int32 × (Nat → Int32) × (Nat → Int32) × Int32 × Int32) (hf : f_M_register w_th w_pf w_of w_sz w_bg a0 = some r) : Met l y_M_register (Cond.code y_M_register b_M_register 2 (Option.none : Option FieldType) :: aw) ({ frames := 2, cells := 0, slots := 0, locals := 51 } : Room) (va_Pc [.ref (h0), .int (a0)] (fun U => va_P (dC, dI) cls2 (wM cI h0 rw pt ou w_th mR w_pf w_of w_sz w_bg) U.heap ∧ va_K (dC, dI) cls2 [(cI, .int)] U ∧ va_D (aM h0 rw pt ou) (wM cI h0 rw pt ou w_th mR w_pf w_of w_sz w_bg) ∧ tb ad sk sv tK (aM h0 rw pt ou) U U.heap)) (va_Qv (fun u => u = r) (fun (u : Int32 × (Nat → Int32) × (Nat → Int32) × Int32 × Int32) t => va_P (dC, dI) cls2 (wM cI h0 rw pt ou u.1 mR u.2.1 u.2.2.1 u.2.2.2.1 u.2.2.2.2) t.heap) (aM h0 rw pt ou)) 0 0 (aM h0 rw pt ou) := by
  refine Met.ofW (cc := b_M_register) (maxL := 2) (ret := (Option.none : Option FieldType)) (by decide) rfl ?_
  intro p e s m args below meth c s₁ B hml hv
  obtain ⟨rfl, hP, hK, hD, hT⟩ := hv
  have hD0 := hD
  have hx := B.exec
  have hb := B.bytes
  have hr := B.returns
  have hts := atoms_spec (ws := (Cond.code y_M_register b_M_register 2 (Option.none : Option FieldType) :: aw)) B.pre
  have ht : ∀ {w : Cond}, w ∈ aw → w.before ([.ref (h0), .int (a0)] : List Value).toArray s = true := fun h => hts _ (List.mem_cons_of_mem _ h)
  have hown : s.vm.findClass "CodeWordsModel" = some m.cls := findClass_of_methodNamed B.named
  have hlocks := B.notSynchronized
  have hS : va_S (aM h0 rw pt ou) s.heap s.heap [] := va_S.rf
  have hl := lv_entry ([.ref (h0), .int (a0)]) (n := 2) (Nat.le_of_ble_eq_true rfl)
  rw [lg_entry_eq]
  generalize (lg_sl ([.ref (h0), .int (a0)]) ++ List.replicate (2 - (lg_sl ([.ref (h0), .int (a0)])).length) Slot.unset).toArray = ls at hl ⊢
  have hl : lv_has ls 2 [(0, .ref (h0)), (1, .int (a0))] := hl
  rw [f_M_register] at hf
  refine lv_aload_n hx hb d_M_register_0 rfl (lv_at hl 0 rfl) ?_
  obtain ⟨r_1, g_2, hf⟩ := Option.bind_eq_some_iff.mp hf
  refine va_callv (va_runV (As := []) (rest := []) ⟨hx, hb, hml, hown, hts⟩ (c_M_ahead l (ad := ad) (sk := sk) (sv := sv) (tK := tK) dC dI cI h0 rw pt ou w_th w_pf w_of w_sz w_bg   r_1 g_2) (cwV 0 hts (aw_V aw_679 aw_681 aw_p36 aw_2 aw_682) rfl rfl rfl (by decide +kernel) ⟨Nat.le_of_ble_eq_true rfl, Nat.le_of_ble_eq_true rfl⟩) ⟨wBlind, va_recv hK hP (ci := 1) (q0 := 0) rfl rfl, fun U hU hW => ⟨rfl, by rw [hU]; exact hP, va_K.moved hW.alike hK, hD, hT.at hS hU hW (fun _ z => z)⟩⟩ rfl rfl hl.1 rfl (lv_room (Nat.le_of_ble_eq_true rfl)) d_M_register_1 ⟨Nat.le_refl _, Nat.le_refl _⟩) hS (fun _ _ h => h) (fun _ h => h) (fun u t H1 locs ht1 hvm hw hB hz1 hk1 hS => ?_)
  rw [hw] at hB
  rw [ht1] at hB
  have hP : va_P (dC, dI) cls2 (wM cI h0 rw pt ou r_1.1 mR r_1.2.1 r_1.2.2.1 r_1.2.2.2.1 r_1.2.2.2.2) H1 := hB
  have hD : va_D (aM h0 rw pt ou) (wM cI h0 rw pt ou r_1.1 mR r_1.2.1 r_1.2.2.1 r_1.2.2.2.1 r_1.2.2.2.2) := dD hD0 rfl
  refine lv_aload_n hx hb d_M_register_4 rfl (lv_at hl 0 rfl) ?_
  refine lv_iload_n hx hb d_M_register_5 rfl (lv_at hl 1 rfl) ?_
  obtain ⟨r_3, g_4, hf⟩ := Option.bind_eq_some_iff.mp hf
  refine ju_calll (W.runS (As := [.int (a0)]) (rest := [.ref (h0)]) ⟨hx, hb, hml, hown, hts⟩ (c_M_registerOf l (ad := ad) (sk := sk) (sv := sv) (tK := tK)  a0  r_3 g_4) (va_cwS 1 hts (aw_S aw_683 aw_684 aw_2 aw_685) rfl rfl rfl (by decide +kernel) ⟨Nat.le_of_ble_eq_true rfl, Nat.le_of_ble_eq_true rfl⟩) ⟨fun a U g mk q => ⟨q.1, q.2.call⟩, fun U hU hW => ⟨rfl, hT.at hS hU hW (fun _ z => z.elim)⟩⟩ rfl rfl hl.1 rfl (lv_room (Nat.le_of_ble_eq_true rfl)) d_M_register_6 ⟨Nat.le_refl _, Nat.le_refl _⟩) ?_
  obtain ⟨r_5, g_6, hf⟩ := Option.bind_eq_some_iff.mp hf
  refine va_callv (va_runV (As := [.long (r_3)]) (rest := []) ⟨hx, hb, hml, hown, hts⟩ (c_M_sayName l (ad := ad) (sk := sk) (sv := sv) (tK := tK) dC dI cI h0 rw pt ou r_1.1 r_1.2.1 r_1.2.2.1 r_1.2.2.2.1 r_1.2.2.2.2 r_3  r_5 g_6) (cwV 1 hts (aw_V aw_656 aw_658 aw_p32 aw_2 aw_659) rfl rfl rfl (by decide +kernel) ⟨Nat.le_of_ble_eq_true rfl, Nat.le_of_ble_eq_true rfl⟩) ⟨wBlind, va_recv hK hP (ci := 1) (q0 := 0) rfl rfl, fun U hU hW => ⟨rfl, by rw [hU]; exact hP, va_K.moved hW.alike hK, hD, hT.at hS hU hW (fun _ z => z)⟩⟩ rfl rfl hl.1 rfl (lv_room (Nat.le_of_ble_eq_true rfl)) d_M_register_9 ⟨Nat.le_refl _, Nat.le_refl _⟩) hS (fun _ _ h => h) (fun _ h => h) (fun u t H1 locs ht1 hvm hw hB hz1 hk1 hS => ?_)
  rw [hw] at hB
  rw [ht1] at hB
  have hP : va_P (dC, dI) cls2 (wM cI h0 rw pt ou r_5.1 mR r_5.2.1 r_5.2.2.1 r_5.2.2.2.1 r_5.2.2.2.2) H1 := hB
  have hD : va_D (aM h0 rw pt ou) (wM cI h0 rw pt ou r_5.1 mR r_5.2.1 r_5.2.2.1 r_5.2.2.2.1 r_5.2.2.2.2) := dD hD0 rfl
  exact W.vret hx hb hr (fun t ht hW => ⟨⟨(r_5.1, r_5.2.1, r_5.2.2.1, r_5.2.2.2.1, r_5.2.2.2.2), rfl, Option.some.inj hf, by rw [← ht] at hP; exact hP⟩, hS.F ht⟩) hS.2.2 d_M_register_12

def f_M_offset (w_th : Int32) (w_pf : Nat → Int32) (w_of : Nat → Int32) (w_sz : Int32) (w_bg : Int32) (a0 : Int32) : Option (Int32 × (Nat → Int32) × (Nat → Int32) × Int32 × Int32) :=
  (f_M_ahead w_th w_pf w_of w_sz w_bg ).bind fun r_1 => if (3 : Int32) < 0 ∨ 4 ≤ (3 : Int32).toNatClampNeg then none else (f_M_sayDecimal r_1.1 r_1.2.1 r_1.2.2.1 r_1.2.2.2.1 r_1.2.2.2.2 (r_1.2.1 (3 : Int32).toNatClampNeg)).bind fun r_4 => (f_M_say r_4.1 r_4.2.1 r_4.2.2.1 r_4.2.2.2.1 r_4.2.2.2.2 40).bind fun r_6 => (f_M_registerOf a0).bind fun r_8 => (f_M_sayName r_6.1 r_6.2.1 r_6.2.2.1 r_6.2.2.2.1 r_6.2.2.2.2 r_8).bind fun r_10 => (f_M_say r_10.1 r_10.2.1 r_10.2.2.1 r_10.2.2.2.1 r_10.2.2.2.2 41).bind fun r_12 => some (r_12.1, r_12.2.1, r_12.2.2.1, r_12.2.2.2.1, r_12.2.2.2.2)
set_option maxHeartbeats 1000000 in
set_option maxRecDepth 100000 in
theorem c_M_offset (l : Launch) {ad sk sv : Nat → Nat} {tK : Nat} (dC : Nat → ClassId) (dI : Nat → Nat → Nat) (cI : ClassId) (h0 rw pt ou : Nat) (w_th : Int32) (w_pf : Nat → Int32) (w_of : Nat → Int32) (w_sz : Int32) (w_bg : Int32) (a0 : Int32)  (r : Int32 × (Nat → Int32) × (Nat → Int32) × Int32 × Int32) (hf : f_M_offset w_th w_pf w_of w_sz w_bg a0 = some r) : Met l y_M_offset (Cond.code y_M_offset b_M_offset 2 (Option.none : Option FieldType) :: aw) ({ frames := 2, cells := 0, slots := 0, locals := 51 } : Room) (va_Pc [.ref (h0), .int (a0)] (fun U => va_P (dC, dI) cls2 (wM cI h0 rw pt ou w_th mR w_pf w_of w_sz w_bg) U.heap ∧ va_K (dC, dI) cls2 [(cI, .int)] U ∧ va_D (aM h0 rw pt ou) (wM cI h0 rw pt ou w_th mR w_pf w_of w_sz w_bg) ∧ tb ad sk sv tK (aM h0 rw pt ou) U U.heap)) (va_Qv (fun u => u = r) (fun (u : Int32 × (Nat → Int32) × (Nat → Int32) × Int32 × Int32) t => va_P (dC, dI) cls2 (wM cI h0 rw pt ou u.1 mR u.2.1 u.2.2.1 u.2.2.2.1 u.2.2.2.2) t.heap) (aM h0 rw pt ou)) 0 0 (aM h0 rw pt ou) := by
  refine Met.ofW (cc := b_M_offset) (maxL := 2) (ret := (Option.none : Option FieldType)) (by decide) rfl ?_
  intro p e s m args below meth c s₁ B hml hv
  obtain ⟨rfl, hP, hK, hD, hT⟩ := hv
  have hD0 := hD
  have hx := B.exec
  have hb := B.bytes
  have hr := B.returns
  have hts := atoms_spec (ws := (Cond.code y_M_offset b_M_offset 2 (Option.none : Option FieldType) :: aw)) B.pre
  have ht : ∀ {w : Cond}, w ∈ aw → w.before ([.ref (h0), .int (a0)] : List Value).toArray s = true := fun h => hts _ (List.mem_cons_of_mem _ h)
  have hown : s.vm.findClass "CodeWordsModel" = some m.cls := findClass_of_methodNamed B.named
  have hlocks := B.notSynchronized
  have hS : va_S (aM h0 rw pt ou) s.heap s.heap [] := va_S.rf
  have hl := lv_entry ([.ref (h0), .int (a0)]) (n := 2) (Nat.le_of_ble_eq_true rfl)
  rw [lg_entry_eq]
  generalize (lg_sl ([.ref (h0), .int (a0)]) ++ List.replicate (2 - (lg_sl ([.ref (h0), .int (a0)])).length) Slot.unset).toArray = ls at hl ⊢
  have hl : lv_has ls 2 [(0, .ref (h0)), (1, .int (a0))] := hl
  rw [f_M_offset] at hf
  refine lv_aload_n hx hb d_M_offset_0 rfl (lv_at hl 0 rfl) ?_
  obtain ⟨r_1, g_2, hf⟩ := Option.bind_eq_some_iff.mp hf
  refine va_callv (va_runV (As := []) (rest := []) ⟨hx, hb, hml, hown, hts⟩ (c_M_ahead l (ad := ad) (sk := sk) (sv := sv) (tK := tK) dC dI cI h0 rw pt ou w_th w_pf w_of w_sz w_bg   r_1 g_2) (cwV 0 hts (aw_V aw_679 aw_681 aw_p36 aw_2 aw_682) rfl rfl rfl (by decide +kernel) ⟨Nat.le_of_ble_eq_true rfl, Nat.le_of_ble_eq_true rfl⟩) ⟨wBlind, va_recv hK hP (ci := 1) (q0 := 0) rfl rfl, fun U hU hW => ⟨rfl, by rw [hU]; exact hP, va_K.moved hW.alike hK, hD, hT.at hS hU hW (fun _ z => z)⟩⟩ rfl rfl hl.1 rfl (lv_room (Nat.le_of_ble_eq_true rfl)) d_M_offset_1 ⟨Nat.le_refl _, Nat.le_refl _⟩) hS (fun _ _ h => h) (fun _ h => h) (fun u t H1 locs ht1 hvm hw hB hz1 hk1 hS => ?_)
  rw [hw] at hB
  rw [ht1] at hB
  have hP : va_P (dC, dI) cls2 (wM cI h0 rw pt ou r_1.1 mR r_1.2.1 r_1.2.2.1 r_1.2.2.2.1 r_1.2.2.2.2) H1 := hB
  have hD : va_D (aM h0 rw pt ou) (wM cI h0 rw pt ou r_1.1 mR r_1.2.1 r_1.2.2.1 r_1.2.2.2.1 r_1.2.2.2.2) := dD hD0 rfl
  refine lv_aload_n hx hb d_M_offset_4 rfl (lv_at hl 0 rfl) ?_
  refine lv_aload_n hx hb d_M_offset_5 rfl (lv_at hl 0 rfl) ?_
  refine va_get (D := (dC, dI)) (ci := 1) (v := .ref (pt)) (C := "CodeWordsModel") (T := F_M) (N := 6) hx hb hts (in_M _) hown hK hP 0 rfl rfl 2 (by decide) (ht aw_441) (fun _ h9 => h9) rfl d_M_offset_6 ?_
  refine lv_iconst (v := 3) hx hb d_M_offset_9 (by decide) ?_
  obtain ⟨z_3, hf⟩ := ju_gd hf
  refine va_iald hx hb hK hP 2 0 rfl rfl z_3 d_M_offset_10 ?_
  obtain ⟨r_4, g_5, hf⟩ := Option.bind_eq_some_iff.mp hf
  refine va_callv (va_runV (As := [.int (r_1.2.1 (3 : Int32).toNatClampNeg)]) (rest := []) ⟨hx, hb, hml, hown, hts⟩ (c_M_sayDecimal l (ad := ad) (sk := sk) (sv := sv) (tK := tK) dC dI cI h0 rw pt ou r_1.1 r_1.2.1 r_1.2.2.1 r_1.2.2.2.1 r_1.2.2.2.2 (r_1.2.1 (3 : Int32).toNatClampNeg)  r_4 g_5) (cwV 1 hts (aw_V aw_722 aw_724 aw_p38 aw_2 aw_725) rfl rfl rfl (by decide +kernel) ⟨Nat.le_of_ble_eq_true rfl, Nat.le_of_ble_eq_true rfl⟩) ⟨wBlind, va_recv hK hP (ci := 1) (q0 := 0) rfl rfl, fun U hU hW => ⟨rfl, by rw [hU]; exact hP, va_K.moved hW.alike hK, hD, hT.at hS hU hW (fun _ z => z)⟩⟩ rfl rfl hl.1 rfl (lv_room (Nat.le_of_ble_eq_true rfl)) d_M_offset_11 ⟨Nat.le_refl _, Nat.le_refl _⟩) hS (fun _ _ h => h) (fun _ h => h) (fun u t H1 locs ht1 hvm hw hB hz1 hk1 hS => ?_)
  rw [hw] at hB
  rw [ht1] at hB
  have hP : va_P (dC, dI) cls2 (wM cI h0 rw pt ou r_4.1 mR r_4.2.1 r_4.2.2.1 r_4.2.2.2.1 r_4.2.2.2.2) H1 := hB
  have hD : va_D (aM h0 rw pt ou) (wM cI h0 rw pt ou r_4.1 mR r_4.2.1 r_4.2.2.1 r_4.2.2.2.1 r_4.2.2.2.2) := dD hD0 rfl
  refine lv_aload_n hx hb d_M_offset_14 rfl (lv_at hl 0 rfl) ?_
  refine lv_bipush (v := 40) hx hb d_M_offset_15 (by decide) ?_
  obtain ⟨r_6, g_7, hf⟩ := Option.bind_eq_some_iff.mp hf
  refine va_callv (va_runV (As := [.int (40)]) (rest := []) ⟨hx, hb, hml, hown, hts⟩ (c_M_say l (ad := ad) (sk := sk) (sv := sv) (tK := tK) dC dI cI h0 rw pt ou r_4.1 r_4.2.1 r_4.2.2.1 r_4.2.2.2.1 r_4.2.2.2.2 40  r_6 g_7) (cwV 1 hts (aw_V aw_664 aw_666 aw_p33 aw_2 aw_667) rfl rfl rfl (by decide +kernel) ⟨Nat.le_of_ble_eq_true rfl, Nat.le_of_ble_eq_true rfl⟩) ⟨wBlind, va_recv hK hP (ci := 1) (q0 := 0) rfl rfl, fun U hU hW => ⟨rfl, by rw [hU]; exact hP, va_K.moved hW.alike hK, hD, hT.at hS hU hW (fun _ z => z)⟩⟩ rfl rfl hl.1 rfl (lv_room (Nat.le_of_ble_eq_true rfl)) d_M_offset_17 ⟨Nat.le_refl _, Nat.le_refl _⟩) hS (fun _ _ h => h) (fun _ h => h) (fun u t H1 locs ht1 hvm hw hB hz1 hk1 hS => ?_)
  rw [hw] at hB
  rw [ht1] at hB
  have hP : va_P (dC, dI) cls2 (wM cI h0 rw pt ou r_6.1 mR r_6.2.1 r_6.2.2.1 r_6.2.2.2.1 r_6.2.2.2.2) H1 := hB
  have hD : va_D (aM h0 rw pt ou) (wM cI h0 rw pt ou r_6.1 mR r_6.2.1 r_6.2.2.1 r_6.2.2.2.1 r_6.2.2.2.2) := dD hD0 rfl
  refine lv_aload_n hx hb d_M_offset_20 rfl (lv_at hl 0 rfl) ?_
  refine lv_iload_n hx hb d_M_offset_21 rfl (lv_at hl 1 rfl) ?_
  obtain ⟨r_8, g_9, hf⟩ := Option.bind_eq_some_iff.mp hf
  refine ju_calll (W.runS (As := [.int (a0)]) (rest := [.ref (h0)]) ⟨hx, hb, hml, hown, hts⟩ (c_M_registerOf l (ad := ad) (sk := sk) (sv := sv) (tK := tK)  a0  r_8 g_9) (va_cwS 1 hts (aw_S aw_683 aw_684 aw_2 aw_685) rfl rfl rfl (by decide +kernel) ⟨Nat.le_of_ble_eq_true rfl, Nat.le_of_ble_eq_true rfl⟩) ⟨fun a U g mk q => ⟨q.1, q.2.call⟩, fun U hU hW => ⟨rfl, hT.at hS hU hW (fun _ z => z.elim)⟩⟩ rfl rfl hl.1 rfl (lv_room (Nat.le_of_ble_eq_true rfl)) d_M_offset_22 ⟨Nat.le_refl _, Nat.le_refl _⟩) ?_
  obtain ⟨r_10, g_11, hf⟩ := Option.bind_eq_some_iff.mp hf
  refine va_callv (va_runV (As := [.long (r_8)]) (rest := []) ⟨hx, hb, hml, hown, hts⟩ (c_M_sayName l (ad := ad) (sk := sk) (sv := sv) (tK := tK) dC dI cI h0 rw pt ou r_6.1 r_6.2.1 r_6.2.2.1 r_6.2.2.2.1 r_6.2.2.2.2 r_8  r_10 g_11) (cwV 1 hts (aw_V aw_656 aw_658 aw_p32 aw_2 aw_659) rfl rfl rfl (by decide +kernel) ⟨Nat.le_of_ble_eq_true rfl, Nat.le_of_ble_eq_true rfl⟩) ⟨wBlind, va_recv hK hP (ci := 1) (q0 := 0) rfl rfl, fun U hU hW => ⟨rfl, by rw [hU]; exact hP, va_K.moved hW.alike hK, hD, hT.at hS hU hW (fun _ z => z)⟩⟩ rfl rfl hl.1 rfl (lv_room (Nat.le_of_ble_eq_true rfl)) d_M_offset_25 ⟨Nat.le_refl _, Nat.le_refl _⟩) hS (fun _ _ h => h) (fun _ h => h) (fun u t H1 locs ht1 hvm hw hB hz1 hk1 hS => ?_)
  rw [hw] at hB
  rw [ht1] at hB
  have hP : va_P (dC, dI) cls2 (wM cI h0 rw pt ou r_10.1 mR r_10.2.1 r_10.2.2.1 r_10.2.2.2.1 r_10.2.2.2.2) H1 := hB
  have hD : va_D (aM h0 rw pt ou) (wM cI h0 rw pt ou r_10.1 mR r_10.2.1 r_10.2.2.1 r_10.2.2.2.1 r_10.2.2.2.2) := dD hD0 rfl
  refine lv_aload_n hx hb d_M_offset_28 rfl (lv_at hl 0 rfl) ?_
  refine lv_bipush (v := 41) hx hb d_M_offset_29 (by decide) ?_
  obtain ⟨r_12, g_13, hf⟩ := Option.bind_eq_some_iff.mp hf
  refine va_callv (va_runV (As := [.int (41)]) (rest := []) ⟨hx, hb, hml, hown, hts⟩ (c_M_say l (ad := ad) (sk := sk) (sv := sv) (tK := tK) dC dI cI h0 rw pt ou r_10.1 r_10.2.1 r_10.2.2.1 r_10.2.2.2.1 r_10.2.2.2.2 41  r_12 g_13) (cwV 1 hts (aw_V aw_664 aw_666 aw_p33 aw_2 aw_667) rfl rfl rfl (by decide +kernel) ⟨Nat.le_of_ble_eq_true rfl, Nat.le_of_ble_eq_true rfl⟩) ⟨wBlind, va_recv hK hP (ci := 1) (q0 := 0) rfl rfl, fun U hU hW => ⟨rfl, by rw [hU]; exact hP, va_K.moved hW.alike hK, hD, hT.at hS hU hW (fun _ z => z)⟩⟩ rfl rfl hl.1 rfl (lv_room (Nat.le_of_ble_eq_true rfl)) d_M_offset_31 ⟨Nat.le_refl _, Nat.le_refl _⟩) hS (fun _ _ h => h) (fun _ h => h) (fun u t H1 locs ht1 hvm hw hB hz1 hk1 hS => ?_)
  rw [hw] at hB
  rw [ht1] at hB
  have hP : va_P (dC, dI) cls2 (wM cI h0 rw pt ou r_12.1 mR r_12.2.1 r_12.2.2.1 r_12.2.2.2.1 r_12.2.2.2.2) H1 := hB
  have hD : va_D (aM h0 rw pt ou) (wM cI h0 rw pt ou r_12.1 mR r_12.2.1 r_12.2.2.1 r_12.2.2.2.1 r_12.2.2.2.2) := dD hD0 rfl
  exact W.vret hx hb hr (fun t ht hW => ⟨⟨(r_12.1, r_12.2.1, r_12.2.2.1, r_12.2.2.2.1, r_12.2.2.2.2), rfl, Option.some.inj hf, by rw [← ht] at hP; exact hP⟩, hS.F ht⟩) hS.2.2 d_M_offset_34

def f_M_number (w_th : Int32) (w_pf : Nat → Int32) (w_of : Nat → Int32) (w_sz : Int32) (w_bg : Int32) : Option (Int32 × (Nat → Int32) × (Nat → Int32) × Int32 × Int32) :=
  (f_M_ahead w_th w_pf w_of w_sz w_bg ).bind fun r_1 => if (3 : Int32) < 0 ∨ 4 ≤ (3 : Int32).toNatClampNeg then none else (f_M_sayDecimal r_1.1 r_1.2.1 r_1.2.2.1 r_1.2.2.2.1 r_1.2.2.2.2 (r_1.2.1 (3 : Int32).toNatClampNeg)).bind fun r_4 => some (r_4.1, r_4.2.1, r_4.2.2.1, r_4.2.2.2.1, r_4.2.2.2.2)
set_option maxHeartbeats 1000000 in
set_option maxRecDepth 100000 in
theorem c_M_number (l : Launch) {ad sk sv : Nat → Nat} {tK : Nat} (dC : Nat → ClassId) (dI : Nat → Nat → Nat) (cI : ClassId) (h0 rw pt ou : Nat) (w_th : Int32) (w_pf : Nat → Int32) (w_of : Nat → Int32) (w_sz : Int32) (w_bg : Int32)   (r : Int32 × (Nat → Int32) × (Nat → Int32) × Int32 × Int32) (hf : f_M_number w_th w_pf w_of w_sz w_bg = some r) : Met l y_M_number (Cond.code y_M_number b_M_number 1 (Option.none : Option FieldType) :: aw) ({ frames := 2, cells := 0, slots := 0, locals := 46 } : Room) (va_Pc [.ref (h0)] (fun U => va_P (dC, dI) cls2 (wM cI h0 rw pt ou w_th mR w_pf w_of w_sz w_bg) U.heap ∧ va_K (dC, dI) cls2 [(cI, .int)] U ∧ va_D (aM h0 rw pt ou) (wM cI h0 rw pt ou w_th mR w_pf w_of w_sz w_bg) ∧ tb ad sk sv tK (aM h0 rw pt ou) U U.heap)) (va_Qv (fun u => u = r) (fun (u : Int32 × (Nat → Int32) × (Nat → Int32) × Int32 × Int32) t => va_P (dC, dI) cls2 (wM cI h0 rw pt ou u.1 mR u.2.1 u.2.2.1 u.2.2.2.1 u.2.2.2.2) t.heap) (aM h0 rw pt ou)) 0 0 (aM h0 rw pt ou) := by
  refine Met.ofW (cc := b_M_number) (maxL := 1) (ret := (Option.none : Option FieldType)) (by decide) rfl ?_
  intro p e s m args below meth c s₁ B hml hv
  obtain ⟨rfl, hP, hK, hD, hT⟩ := hv
  have hD0 := hD
  have hx := B.exec
  have hb := B.bytes
  have hr := B.returns
  have hts := atoms_spec (ws := (Cond.code y_M_number b_M_number 1 (Option.none : Option FieldType) :: aw)) B.pre
  have ht : ∀ {w : Cond}, w ∈ aw → w.before ([.ref (h0)] : List Value).toArray s = true := fun h => hts _ (List.mem_cons_of_mem _ h)
  have hown : s.vm.findClass "CodeWordsModel" = some m.cls := findClass_of_methodNamed B.named
  have hlocks := B.notSynchronized
  have hS : va_S (aM h0 rw pt ou) s.heap s.heap [] := va_S.rf
  have hl := lv_entry ([.ref (h0)]) (n := 1) (Nat.le_of_ble_eq_true rfl)
  rw [lg_entry_eq]
  generalize (lg_sl ([.ref (h0)]) ++ List.replicate (1 - (lg_sl ([.ref (h0)])).length) Slot.unset).toArray = ls at hl ⊢
  have hl : lv_has ls 1 [(0, .ref (h0))] := hl
  rw [f_M_number] at hf
  refine lv_aload_n hx hb d_M_number_0 rfl (lv_at hl 0 rfl) ?_
  obtain ⟨r_1, g_2, hf⟩ := Option.bind_eq_some_iff.mp hf
  refine va_callv (va_runV (As := []) (rest := []) ⟨hx, hb, hml, hown, hts⟩ (c_M_ahead l (ad := ad) (sk := sk) (sv := sv) (tK := tK) dC dI cI h0 rw pt ou w_th w_pf w_of w_sz w_bg   r_1 g_2) (cwV 0 hts (aw_V aw_679 aw_681 aw_p36 aw_2 aw_682) rfl rfl rfl (by decide +kernel) ⟨Nat.le_of_ble_eq_true rfl, Nat.le_of_ble_eq_true rfl⟩) ⟨wBlind, va_recv hK hP (ci := 1) (q0 := 0) rfl rfl, fun U hU hW => ⟨rfl, by rw [hU]; exact hP, va_K.moved hW.alike hK, hD, hT.at hS hU hW (fun _ z => z)⟩⟩ rfl rfl hl.1 rfl (lv_room (Nat.le_of_ble_eq_true rfl)) d_M_number_1 ⟨Nat.le_refl _, Nat.le_refl _⟩) hS (fun _ _ h => h) (fun _ h => h) (fun u t H1 locs ht1 hvm hw hB hz1 hk1 hS => ?_)
  rw [hw] at hB
  rw [ht1] at hB
  have hP : va_P (dC, dI) cls2 (wM cI h0 rw pt ou r_1.1 mR r_1.2.1 r_1.2.2.1 r_1.2.2.2.1 r_1.2.2.2.2) H1 := hB
  have hD : va_D (aM h0 rw pt ou) (wM cI h0 rw pt ou r_1.1 mR r_1.2.1 r_1.2.2.1 r_1.2.2.2.1 r_1.2.2.2.2) := dD hD0 rfl
  refine lv_aload_n hx hb d_M_number_4 rfl (lv_at hl 0 rfl) ?_
  refine lv_aload_n hx hb d_M_number_5 rfl (lv_at hl 0 rfl) ?_
  refine va_get (D := (dC, dI)) (ci := 1) (v := .ref (pt)) (C := "CodeWordsModel") (T := F_M) (N := 6) hx hb hts (in_M _) hown hK hP 0 rfl rfl 2 (by decide) (ht aw_441) (fun _ h9 => h9) rfl d_M_number_6 ?_
  refine lv_iconst (v := 3) hx hb d_M_number_9 (by decide) ?_
  obtain ⟨z_3, hf⟩ := ju_gd hf
  refine va_iald hx hb hK hP 2 0 rfl rfl z_3 d_M_number_10 ?_
  obtain ⟨r_4, g_5, hf⟩ := Option.bind_eq_some_iff.mp hf
  refine va_callv (va_runV (As := [.int (r_1.2.1 (3 : Int32).toNatClampNeg)]) (rest := []) ⟨hx, hb, hml, hown, hts⟩ (c_M_sayDecimal l (ad := ad) (sk := sk) (sv := sv) (tK := tK) dC dI cI h0 rw pt ou r_1.1 r_1.2.1 r_1.2.2.1 r_1.2.2.2.1 r_1.2.2.2.2 (r_1.2.1 (3 : Int32).toNatClampNeg)  r_4 g_5) (cwV 1 hts (aw_V aw_722 aw_724 aw_p38 aw_2 aw_725) rfl rfl rfl (by decide +kernel) ⟨Nat.le_of_ble_eq_true rfl, Nat.le_of_ble_eq_true rfl⟩) ⟨wBlind, va_recv hK hP (ci := 1) (q0 := 0) rfl rfl, fun U hU hW => ⟨rfl, by rw [hU]; exact hP, va_K.moved hW.alike hK, hD, hT.at hS hU hW (fun _ z => z)⟩⟩ rfl rfl hl.1 rfl (lv_room (Nat.le_of_ble_eq_true rfl)) d_M_number_11 ⟨Nat.le_refl _, Nat.le_refl _⟩) hS (fun _ _ h => h) (fun _ h => h) (fun u t H1 locs ht1 hvm hw hB hz1 hk1 hS => ?_)
  rw [hw] at hB
  rw [ht1] at hB
  have hP : va_P (dC, dI) cls2 (wM cI h0 rw pt ou r_4.1 mR r_4.2.1 r_4.2.2.1 r_4.2.2.2.1 r_4.2.2.2.2) H1 := hB
  have hD : va_D (aM h0 rw pt ou) (wM cI h0 rw pt ou r_4.1 mR r_4.2.1 r_4.2.2.1 r_4.2.2.2.1 r_4.2.2.2.2) := dD hD0 rfl
  exact W.vret hx hb hr (fun t ht hW => ⟨⟨(r_4.1, r_4.2.1, r_4.2.2.1, r_4.2.2.2.1, r_4.2.2.2.2), rfl, Option.some.inj hf, by rw [← ht] at hP; exact hP⟩, hS.F ht⟩) hS.2.2 d_M_number_14

def f_M_place (w_th : Int32) (w_pf : Nat → Int32) (w_of : Nat → Int32) (w_sz : Int32) (w_bg : Int32) (a0 : Int32) : Option (Int32 × (Nat → Int32) × (Nat → Int32) × Int32 × Int32) :=
  (f_M_ahead w_th w_pf w_of w_sz w_bg ).bind fun r_1 => if (3 : Int32) < 0 ∨ 4 ≤ (3 : Int32).toNatClampNeg then none else (f_M_sayHexadecimal r_1.1 r_1.2.1 r_1.2.2.1 r_1.2.2.2.1 r_1.2.2.2.2 (a0 + (r_1.2.1 (3 : Int32).toNatClampNeg))).bind fun r_4 => some (r_4.1, r_4.2.1, r_4.2.2.1, r_4.2.2.2.1, r_4.2.2.2.2)
set_option maxHeartbeats 1000000 in
set_option maxRecDepth 100000 in
theorem c_M_place (l : Launch) {ad sk sv : Nat → Nat} {tK : Nat} (dC : Nat → ClassId) (dI : Nat → Nat → Nat) (cI : ClassId) (h0 rw pt ou : Nat) (w_th : Int32) (w_pf : Nat → Int32) (w_of : Nat → Int32) (w_sz : Int32) (w_bg : Int32) (a0 : Int32)  (r : Int32 × (Nat → Int32) × (Nat → Int32) × Int32 × Int32) (hf : f_M_place w_th w_pf w_of w_sz w_bg a0 = some r) : Met l y_M_place (Cond.code y_M_place b_M_place 2 (Option.none : Option FieldType) :: aw) ({ frames := 2, cells := 0, slots := 0, locals := 45 } : Room) (va_Pc [.ref (h0), .int (a0)] (fun U => va_P (dC, dI) cls2 (wM cI h0 rw pt ou w_th mR w_pf w_of w_sz w_bg) U.heap ∧ va_K (dC, dI) cls2 [(cI, .int)] U ∧ va_D (aM h0 rw pt ou) (wM cI h0 rw pt ou w_th mR w_pf w_of w_sz w_bg) ∧ tb ad sk sv tK (aM h0 rw pt ou) U U.heap)) (va_Qv (fun u => u = r) (fun (u : Int32 × (Nat → Int32) × (Nat → Int32) × Int32 × Int32) t => va_P (dC, dI) cls2 (wM cI h0 rw pt ou u.1 mR u.2.1 u.2.2.1 u.2.2.2.1 u.2.2.2.2) t.heap) (aM h0 rw pt ou)) 0 0 (aM h0 rw pt ou) := by
  refine Met.ofW (cc := b_M_place) (maxL := 2) (ret := (Option.none : Option FieldType)) (by decide) rfl ?_
  intro p e s m args below meth c s₁ B hml hv
  obtain ⟨rfl, hP, hK, hD, hT⟩ := hv
  have hD0 := hD
  have hx := B.exec
  have hb := B.bytes
  have hr := B.returns
  have hts := atoms_spec (ws := (Cond.code y_M_place b_M_place 2 (Option.none : Option FieldType) :: aw)) B.pre
  have ht : ∀ {w : Cond}, w ∈ aw → w.before ([.ref (h0), .int (a0)] : List Value).toArray s = true := fun h => hts _ (List.mem_cons_of_mem _ h)
  have hown : s.vm.findClass "CodeWordsModel" = some m.cls := findClass_of_methodNamed B.named
  have hlocks := B.notSynchronized
  have hS : va_S (aM h0 rw pt ou) s.heap s.heap [] := va_S.rf
  have hl := lv_entry ([.ref (h0), .int (a0)]) (n := 2) (Nat.le_of_ble_eq_true rfl)
  rw [lg_entry_eq]
  generalize (lg_sl ([.ref (h0), .int (a0)]) ++ List.replicate (2 - (lg_sl ([.ref (h0), .int (a0)])).length) Slot.unset).toArray = ls at hl ⊢
  have hl : lv_has ls 2 [(0, .ref (h0)), (1, .int (a0))] := hl
  rw [f_M_place] at hf
  refine lv_aload_n hx hb d_M_place_0 rfl (lv_at hl 0 rfl) ?_
  obtain ⟨r_1, g_2, hf⟩ := Option.bind_eq_some_iff.mp hf
  refine va_callv (va_runV (As := []) (rest := []) ⟨hx, hb, hml, hown, hts⟩ (c_M_ahead l (ad := ad) (sk := sk) (sv := sv) (tK := tK) dC dI cI h0 rw pt ou w_th w_pf w_of w_sz w_bg   r_1 g_2) (cwV 0 hts (aw_V aw_679 aw_681 aw_p36 aw_2 aw_682) rfl rfl rfl (by decide +kernel) ⟨Nat.le_of_ble_eq_true rfl, Nat.le_of_ble_eq_true rfl⟩) ⟨wBlind, va_recv hK hP (ci := 1) (q0 := 0) rfl rfl, fun U hU hW => ⟨rfl, by rw [hU]; exact hP, va_K.moved hW.alike hK, hD, hT.at hS hU hW (fun _ z => z)⟩⟩ rfl rfl hl.1 rfl (lv_room (Nat.le_of_ble_eq_true rfl)) d_M_place_1 ⟨Nat.le_refl _, Nat.le_refl _⟩) hS (fun _ _ h => h) (fun _ h => h) (fun u t H1 locs ht1 hvm hw hB hz1 hk1 hS => ?_)
  rw [hw] at hB
  rw [ht1] at hB
  have hP : va_P (dC, dI) cls2 (wM cI h0 rw pt ou r_1.1 mR r_1.2.1 r_1.2.2.1 r_1.2.2.2.1 r_1.2.2.2.2) H1 := hB
  have hD : va_D (aM h0 rw pt ou) (wM cI h0 rw pt ou r_1.1 mR r_1.2.1 r_1.2.2.1 r_1.2.2.2.1 r_1.2.2.2.2) := dD hD0 rfl
  refine lv_aload_n hx hb d_M_place_4 rfl (lv_at hl 0 rfl) ?_
  refine lv_iload_n hx hb d_M_place_5 rfl (lv_at hl 1 rfl) ?_
  refine lv_aload_n hx hb d_M_place_6 rfl (lv_at hl 0 rfl) ?_
  refine va_get (D := (dC, dI)) (ci := 1) (v := .ref (pt)) (C := "CodeWordsModel") (T := F_M) (N := 6) hx hb hts (in_M _) hown hK hP 0 rfl rfl 2 (by decide) (ht aw_441) (fun _ h9 => h9) rfl d_M_place_7 ?_
  refine lv_iconst (v := 3) hx hb d_M_place_10 (by decide) ?_
  obtain ⟨z_3, hf⟩ := ju_gd hf
  refine va_iald hx hb hK hP 2 0 rfl rfl z_3 d_M_place_11 ?_
  refine lv_iadd hx hb d_M_place_12 ?_
  obtain ⟨r_4, g_5, hf⟩ := Option.bind_eq_some_iff.mp hf
  refine va_callv (va_runV (As := [.int (a0 + (r_1.2.1 (3 : Int32).toNatClampNeg))]) (rest := []) ⟨hx, hb, hml, hown, hts⟩ (c_M_sayHexadecimal l (ad := ad) (sk := sk) (sv := sv) (tK := tK) dC dI cI h0 rw pt ou r_1.1 r_1.2.1 r_1.2.2.1 r_1.2.2.2.1 r_1.2.2.2.2 (a0 + (r_1.2.1 (3 : Int32).toNatClampNeg))  r_4 g_5) (cwV 1 hts (aw_V aw_736 aw_738 aw_p41 aw_2 aw_739) rfl rfl rfl (by decide +kernel) ⟨Nat.le_of_ble_eq_true rfl, Nat.le_of_ble_eq_true rfl⟩) ⟨wBlind, va_recv hK hP (ci := 1) (q0 := 0) rfl rfl, fun U hU hW => ⟨rfl, by rw [hU]; exact hP, va_K.moved hW.alike hK, hD, hT.at hS hU hW (fun _ z => z)⟩⟩ rfl rfl hl.1 rfl (lv_room (Nat.le_of_ble_eq_true rfl)) d_M_place_13 ⟨Nat.le_refl _, Nat.le_refl _⟩) hS (fun _ _ h => h) (fun _ h => h) (fun u t H1 locs ht1 hvm hw hB hz1 hk1 hS => ?_)
  rw [hw] at hB
  rw [ht1] at hB
  have hP : va_P (dC, dI) cls2 (wM cI h0 rw pt ou r_4.1 mR r_4.2.1 r_4.2.2.1 r_4.2.2.2.1 r_4.2.2.2.2) H1 := hB
  have hD : va_D (aM h0 rw pt ou) (wM cI h0 rw pt ou r_4.1 mR r_4.2.1 r_4.2.2.1 r_4.2.2.2.1 r_4.2.2.2.2) := dD hD0 rfl
  exact W.vret hx hb hr (fun t ht hW => ⟨⟨(r_4.1, r_4.2.1, r_4.2.2.1, r_4.2.2.2.1, r_4.2.2.2.2), rfl, Option.some.inj hf, by rw [← ht] at hP; exact hP⟩, hS.F ht⟩) hS.2.2 d_M_place_16

def f_M_operands_L248 (w_th : Int32) (w_pf : Nat → Int32) (w_of : Nat → Int32) (w_sz : Int32) (w_bg : Int32) (a0 : Int32) (a1 : Int32)  (x3 : Int32) (y_th : Int32) (y_pf : (Nat → Int32)) (y_of : (Nat → Int32)) (y_sz : Int32) (y_bg : Int32) : Option (Int32 × (Nat → Int32) × (Nat → Int32) × Int32 × Int32) :=
  if a0 = 6 then ((f_M_ahead y_th y_pf y_of y_sz y_bg ).bind fun r_29 => if (3 : Int32) < 0 ∨ 4 ≤ (3 : Int32).toNatClampNeg then none else (f_M_sayHexadecimal r_29.1 r_29.2.1 r_29.2.2.1 r_29.2.2.2.1 r_29.2.2.2.2 (r_29.2.1 (3 : Int32).toNatClampNeg)).bind fun r_32 => some (r_32.1, r_32.2.1, r_32.2.2.1, r_32.2.2.2.1, r_32.2.2.2.2)) else (some (y_th, y_pf, y_of, y_sz, y_bg))
def f_M_operands_L243 (w_th : Int32) (w_pf : Nat → Int32) (w_of : Nat → Int32) (w_sz : Int32) (w_bg : Int32) (a0 : Int32) (a1 : Int32)  (x3 : Int32) (y_th : Int32) (y_pf : (Nat → Int32)) (y_of : (Nat → Int32)) (y_sz : Int32) (y_bg : Int32) : Option (Int32 × (Nat → Int32) × (Nat → Int32) × Int32 × Int32) :=
  (f_M_place y_th y_pf y_of y_sz y_bg a1).bind fun r_26 => f_M_operands_L248 w_th w_pf w_of w_sz w_bg a0 a1  x3 r_26.1 r_26.2.1 r_26.2.2.1 r_26.2.2.2.1 r_26.2.2.2.2
def f_M_operands_L220 (w_th : Int32) (w_pf : Nat → Int32) (w_of : Nat → Int32) (w_sz : Int32) (w_bg : Int32) (a0 : Int32) (a1 : Int32)  (x3 : Int32) (y_th : Int32) (y_pf : (Nat → Int32)) (y_of : (Nat → Int32)) (y_sz : Int32) (y_bg : Int32) : Option (Int32 × (Nat → Int32) × (Nat → Int32) × Int32 × Int32) :=
  if a0 = 5 then (f_M_operands_L243 w_th w_pf w_of w_sz w_bg a0 a1  x3 y_th y_pf y_of y_sz y_bg) else (if a0 = 7 then (f_M_operands_L243 w_th w_pf w_of w_sz w_bg a0 a1  x3 y_th y_pf y_of y_sz y_bg) else (if a0 = 8 then (f_M_operands_L243 w_th w_pf w_of w_sz w_bg a0 a1  x3 y_th y_pf y_of y_sz y_bg) else (if a0 = 9 then (f_M_operands_L243 w_th w_pf w_of w_sz w_bg a0 a1  x3 y_th y_pf y_of y_sz y_bg) else (f_M_operands_L248 w_th w_pf w_of w_sz w_bg a0 a1  x3 y_th y_pf y_of y_sz y_bg))))
def f_M_operands_L216 (w_th : Int32) (w_pf : Nat → Int32) (w_of : Nat → Int32) (w_sz : Int32) (w_bg : Int32) (a0 : Int32) (a1 : Int32)  (x3 : Int32) (y_th : Int32) (y_pf : (Nat → Int32)) (y_of : (Nat → Int32)) (y_sz : Int32) (y_bg : Int32) : Option (Int32 × (Nat → Int32) × (Nat → Int32) × Int32 × Int32) :=
  (f_M_number y_th y_pf y_of y_sz y_bg ).bind fun r_23 => f_M_operands_L220 w_th w_pf w_of w_sz w_bg a0 a1  x3 r_23.1 r_23.2.1 r_23.2.2.1 r_23.2.2.2.1 r_23.2.2.2.2
def f_M_operands_L193 (w_th : Int32) (w_pf : Nat → Int32) (w_of : Nat → Int32) (w_sz : Int32) (w_bg : Int32) (a0 : Int32) (a1 : Int32)  (x3 : Int32) (y_th : Int32) (y_pf : (Nat → Int32)) (y_of : (Nat → Int32)) (y_sz : Int32) (y_bg : Int32) : Option (Int32 × (Nat → Int32) × (Nat → Int32) × Int32 × Int32) :=
  if a0 = 2 then (f_M_operands_L216 w_th w_pf w_of w_sz w_bg a0 a1  x3 y_th y_pf y_of y_sz y_bg) else (if a0 = 12 then (f_M_operands_L216 w_th w_pf w_of w_sz w_bg a0 a1  x3 y_th y_pf y_of y_sz y_bg) else (if a0 = 15 then (f_M_operands_L216 w_th w_pf w_of w_sz w_bg a0 a1  x3 y_th y_pf y_of y_sz y_bg) else (if a0 = 16 then (f_M_operands_L216 w_th w_pf w_of w_sz w_bg a0 a1  x3 y_th y_pf y_of y_sz y_bg) else (f_M_operands_L220 w_th w_pf w_of w_sz w_bg a0 a1  x3 y_th y_pf y_of y_sz y_bg))))
def f_M_operands_L188 (w_th : Int32) (w_pf : Nat → Int32) (w_of : Nat → Int32) (w_sz : Int32) (w_bg : Int32) (a0 : Int32) (a1 : Int32)  (x3 : Int32) (y_th : Int32) (y_pf : (Nat → Int32)) (y_of : (Nat → Int32)) (y_sz : Int32) (y_bg : Int32) : Option (Int32 × (Nat → Int32) × (Nat → Int32) × Int32 × Int32) :=
  (f_M_offset y_th y_pf y_of y_sz y_bg 2).bind fun r_20 => f_M_operands_L193 w_th w_pf w_of w_sz w_bg a0 a1  x3 r_20.1 r_20.2.1 r_20.2.2.1 r_20.2.2.2.1 r_20.2.2.2.2
def f_M_operands_L176 (w_th : Int32) (w_pf : Nat → Int32) (w_of : Nat → Int32) (w_sz : Int32) (w_bg : Int32) (a0 : Int32) (a1 : Int32)  (x3 : Int32) (y_th : Int32) (y_pf : (Nat → Int32)) (y_of : (Nat → Int32)) (y_sz : Int32) (y_bg : Int32) : Option (Int32 × (Nat → Int32) × (Nat → Int32) × Int32 × Int32) :=
  if a0 = 13 then (f_M_operands_L188 w_th w_pf w_of w_sz w_bg a0 a1  x3 y_th y_pf y_of y_sz y_bg) else (if a0 = 14 then (f_M_operands_L188 w_th w_pf w_of w_sz w_bg a0 a1  x3 y_th y_pf y_of y_sz y_bg) else (f_M_operands_L193 w_th w_pf w_of w_sz w_bg a0 a1  x3 y_th y_pf y_of y_sz y_bg))
def f_M_operands_L166 (w_th : Int32) (w_pf : Nat → Int32) (w_of : Nat → Int32) (w_sz : Int32) (w_bg : Int32) (a0 : Int32) (a1 : Int32)  (x3 : Int32) (y_th : Int32) (y_pf : (Nat → Int32)) (y_of : (Nat → Int32)) (y_sz : Int32) (y_bg : Int32) : Option (Int32 × (Nat → Int32) × (Nat → Int32) × Int32 × Int32) :=
  if (1 : Int32) < 0 ∨ 4 ≤ (1 : Int32).toNatClampNeg then none else (f_M_offset y_th y_pf y_of y_sz y_bg (y_pf (1 : Int32).toNatClampNeg)).bind fun r_17 => f_M_operands_L176 w_th w_pf w_of w_sz w_bg a0 a1  x3 r_17.1 r_17.2.1 r_17.2.2.1 r_17.2.2.2.1 r_17.2.2.2.2
def f_M_operands_L156 (w_th : Int32) (w_pf : Nat → Int32) (w_of : Nat → Int32) (w_sz : Int32) (w_bg : Int32) (a0 : Int32) (a1 : Int32)  (x3 : Int32) (y_th : Int32) (y_pf : (Nat → Int32)) (y_of : (Nat → Int32)) (y_sz : Int32) (y_bg : Int32) : Option (Int32 × (Nat → Int32) × (Nat → Int32) × Int32 × Int32) :=
  if a0 = 3 then (f_M_operands_L166 w_th w_pf w_of w_sz w_bg a0 a1  x3 y_th y_pf y_of y_sz y_bg) else (if a0 = 4 then (f_M_operands_L166 w_th w_pf w_of w_sz w_bg a0 a1  x3 y_th y_pf y_of y_sz y_bg) else (f_M_operands_L176 w_th w_pf w_of w_sz w_bg a0 a1  x3 y_th y_pf y_of y_sz y_bg))
def f_M_operands_L151 (w_th : Int32) (w_pf : Nat → Int32) (w_of : Nat → Int32) (w_sz : Int32) (w_bg : Int32) (a0 : Int32) (a1 : Int32)  (x3 : Int32) (y_th : Int32) (y_pf : (Nat → Int32)) (y_of : (Nat → Int32)) (y_sz : Int32) (y_bg : Int32) : Option (Int32 × (Nat → Int32) × (Nat → Int32) × Int32 × Int32) :=
  (f_M_register y_th y_pf y_of y_sz y_bg 2).bind fun r_13 => f_M_operands_L156 w_th w_pf w_of w_sz w_bg a0 a1  x3 r_13.1 r_13.2.1 r_13.2.2.1 r_13.2.2.2.1 r_13.2.2.2.2
def f_M_operands_L139 (w_th : Int32) (w_pf : Nat → Int32) (w_of : Nat → Int32) (w_sz : Int32) (w_bg : Int32) (a0 : Int32) (a1 : Int32)  (x3 : Int32) (y_th : Int32) (y_pf : (Nat → Int32)) (y_of : (Nat → Int32)) (y_sz : Int32) (y_bg : Int32) : Option (Int32 × (Nat → Int32) × (Nat → Int32) × Int32 × Int32) :=
  if a0 = 15 then (f_M_operands_L151 w_th w_pf w_of w_sz w_bg a0 a1  x3 y_th y_pf y_of y_sz y_bg) else (if a0 = 16 then (f_M_operands_L151 w_th w_pf w_of w_sz w_bg a0 a1  x3 y_th y_pf y_of y_sz y_bg) else (f_M_operands_L156 w_th w_pf w_of w_sz w_bg a0 a1  x3 y_th y_pf y_of y_sz y_bg))
def f_M_operands_L129 (w_th : Int32) (w_pf : Nat → Int32) (w_of : Nat → Int32) (w_sz : Int32) (w_bg : Int32) (a0 : Int32) (a1 : Int32)  (x3 : Int32) (y_th : Int32) (y_pf : (Nat → Int32)) (y_of : (Nat → Int32)) (y_sz : Int32) (y_bg : Int32) : Option (Int32 × (Nat → Int32) × (Nat → Int32) × Int32 × Int32) :=
  if (2 : Int32) < 0 ∨ 4 ≤ (2 : Int32).toNatClampNeg then none else (f_M_register y_th y_pf y_of y_sz y_bg (y_pf (2 : Int32).toNatClampNeg)).bind fun r_10 => f_M_operands_L139 w_th w_pf w_of w_sz w_bg a0 a1  x3 r_10.1 r_10.2.1 r_10.2.2.1 r_10.2.2.2.1 r_10.2.2.2.2
def f_M_operands_L102 (w_th : Int32) (w_pf : Nat → Int32) (w_of : Nat → Int32) (w_sz : Int32) (w_bg : Int32) (a0 : Int32) (a1 : Int32)  (x3 : Int32) (y_th : Int32) (y_pf : (Nat → Int32)) (y_of : (Nat → Int32)) (y_sz : Int32) (y_bg : Int32) : Option (Int32 × (Nat → Int32) × (Nat → Int32) × Int32 × Int32) :=
  if a0 = 1 then (f_M_operands_L129 w_th w_pf w_of w_sz w_bg a0 a1  x3 y_th y_pf y_of y_sz y_bg) else (if a0 = 4 then (f_M_operands_L129 w_th w_pf w_of w_sz w_bg a0 a1  x3 y_th y_pf y_of y_sz y_bg) else (if a0 = 5 then (f_M_operands_L129 w_th w_pf w_of w_sz w_bg a0 a1  x3 y_th y_pf y_of y_sz y_bg) else (if a0 = 10 then (f_M_operands_L129 w_th w_pf w_of w_sz w_bg a0 a1  x3 y_th y_pf y_of y_sz y_bg) else (if a0 = 14 then (f_M_operands_L129 w_th w_pf w_of w_sz w_bg a0 a1  x3 y_th y_pf y_of y_sz y_bg) else (f_M_operands_L139 w_th w_pf w_of w_sz w_bg a0 a1  x3 y_th y_pf y_of y_sz y_bg)))))
def f_M_operands_L92 (w_th : Int32) (w_pf : Nat → Int32) (w_of : Nat → Int32) (w_sz : Int32) (w_bg : Int32) (a0 : Int32) (a1 : Int32)  (x3 : Int32) (y_th : Int32) (y_pf : (Nat → Int32)) (y_of : (Nat → Int32)) (y_sz : Int32) (y_bg : Int32) : Option (Int32 × (Nat → Int32) × (Nat → Int32) × Int32 × Int32) :=
  if (1 : Int32) < 0 ∨ 4 ≤ (1 : Int32).toNatClampNeg then none else (f_M_register y_th y_pf y_of y_sz y_bg (y_pf (1 : Int32).toNatClampNeg)).bind fun r_6 => f_M_operands_L102 w_th w_pf w_of w_sz w_bg a0 a1  x3 r_6.1 r_6.2.1 r_6.2.2.1 r_6.2.2.2.1 r_6.2.2.2.2
def f_M_operands_L65 (w_th : Int32) (w_pf : Nat → Int32) (w_of : Nat → Int32) (w_sz : Int32) (w_bg : Int32) (a0 : Int32) (a1 : Int32)  (x3 : Int32) (y_th : Int32) (y_pf : (Nat → Int32)) (y_of : (Nat → Int32)) (y_sz : Int32) (y_bg : Int32) : Option (Int32 × (Nat → Int32) × (Nat → Int32) × Int32 × Int32) :=
  if a0 = 1 then (f_M_operands_L92 w_th w_pf w_of w_sz w_bg a0 a1  x3 y_th y_pf y_of y_sz y_bg) else (if a0 = 2 then (f_M_operands_L92 w_th w_pf w_of w_sz w_bg a0 a1  x3 y_th y_pf y_of y_sz y_bg) else (if a0 = 5 then (f_M_operands_L92 w_th w_pf w_of w_sz w_bg a0 a1  x3 y_th y_pf y_of y_sz y_bg) else (if a0 = 9 then (f_M_operands_L92 w_th w_pf w_of w_sz w_bg a0 a1  x3 y_th y_pf y_of y_sz y_bg) else (if a0 = 11 then (f_M_operands_L92 w_th w_pf w_of w_sz w_bg a0 a1  x3 y_th y_pf y_of y_sz y_bg) else (f_M_operands_L102 w_th w_pf w_of w_sz w_bg a0 a1  x3 y_th y_pf y_of y_sz y_bg)))))
def f_M_operands_L50 (w_th : Int32) (w_pf : Nat → Int32) (w_of : Nat → Int32) (w_sz : Int32) (w_bg : Int32) (a0 : Int32) (a1 : Int32)  (t0 : Int32) (y_th : Int32) (y_pf : (Nat → Int32)) (y_of : (Nat → Int32)) (y_sz : Int32) (y_bg : Int32) : Option (Int32 × (Nat → Int32) × (Nat → Int32) × Int32 × Int32) :=
  if t0 = 0 then (f_M_operands_L65 w_th w_pf w_of w_sz w_bg a0 a1  t0 y_th y_pf y_of y_sz y_bg) else (if (0 : Int32) < 0 ∨ 4 ≤ (0 : Int32).toNatClampNeg then none else (f_M_register y_th y_pf y_of y_sz y_bg (y_pf (0 : Int32).toNatClampNeg)).bind fun r_52 => f_M_operands_L65 w_th w_pf w_of w_sz w_bg a0 a1  t0 r_52.1 r_52.2.1 r_52.2.2.1 r_52.2.2.2.1 r_52.2.2.2.2)
def f_M_operands_L45 (w_th : Int32) (w_pf : Nat → Int32) (w_of : Nat → Int32) (w_sz : Int32) (w_bg : Int32) (a0 : Int32) (a1 : Int32)  (y_th : Int32) (y_pf : (Nat → Int32)) (y_of : (Nat → Int32)) (y_sz : Int32) (y_bg : Int32) : Option (Int32 × (Nat → Int32) × (Nat → Int32) × Int32 × Int32) :=
  f_M_operands_L50 w_th w_pf w_of w_sz w_bg a0 a1  1 y_th y_pf y_of y_sz y_bg
def f_M_operands_L9 (w_th : Int32) (w_pf : Nat → Int32) (w_of : Nat → Int32) (w_sz : Int32) (w_bg : Int32) (a0 : Int32) (a1 : Int32)  (y_th : Int32) (y_pf : (Nat → Int32)) (y_of : (Nat → Int32)) (y_sz : Int32) (y_bg : Int32) : Option (Int32 × (Nat → Int32) × (Nat → Int32) × Int32 × Int32) :=
  if a0 = 6 then (f_M_operands_L45 w_th w_pf w_of w_sz w_bg a0 a1  y_th y_pf y_of y_sz y_bg) else (if a0 = 7 then (f_M_operands_L45 w_th w_pf w_of w_sz w_bg a0 a1  y_th y_pf y_of y_sz y_bg) else (if a0 = 10 then (f_M_operands_L45 w_th w_pf w_of w_sz w_bg a0 a1  y_th y_pf y_of y_sz y_bg) else (if a0 = 12 then (f_M_operands_L45 w_th w_pf w_of w_sz w_bg a0 a1  y_th y_pf y_of y_sz y_bg) else (if a0 = 13 then (f_M_operands_L45 w_th w_pf w_of w_sz w_bg a0 a1  y_th y_pf y_of y_sz y_bg) else (if a0 = 15 then (f_M_operands_L45 w_th w_pf w_of w_sz w_bg a0 a1  y_th y_pf y_of y_sz y_bg) else (f_M_operands_L50 w_th w_pf w_of w_sz w_bg a0 a1  0 y_th y_pf y_of y_sz y_bg))))))
def f_M_operands (w_th : Int32) (w_pf : Nat → Int32) (w_of : Nat → Int32) (w_sz : Int32) (w_bg : Int32) (a0 : Int32) (a1 : Int32) : Option (Int32 × (Nat → Int32) × (Nat → Int32) × Int32 × Int32) :=
  if a0 ≤ 0 then (f_M_operands_L9 w_th w_pf w_of w_sz w_bg a0 a1  w_th w_pf w_of w_sz w_bg) else (if a0 < 4 then (f_M_operands_L45 w_th w_pf w_of w_sz w_bg a0 a1  w_th w_pf w_of w_sz w_bg) else (f_M_operands_L9 w_th w_pf w_of w_sz w_bg a0 a1  w_th w_pf w_of w_sz w_bg))
set_option maxHeartbeats 1000000 in
set_option maxRecDepth 100000 in
theorem c_M_operands (l : Launch) {ad sk sv : Nat → Nat} {tK : Nat} (dC : Nat → ClassId) (dI : Nat → Nat → Nat) (cI : ClassId) (h0 rw pt ou : Nat) (w_th : Int32) (w_pf : Nat → Int32) (w_of : Nat → Int32) (w_sz : Int32) (w_bg : Int32) (a0 : Int32) (a1 : Int32)  (r : Int32 × (Nat → Int32) × (Nat → Int32) × Int32 × Int32) (hf : f_M_operands w_th w_pf w_of w_sz w_bg a0 a1 = some r) : Met l y_M_operands (Cond.code y_M_operands b_M_operands 4 (Option.none : Option FieldType) :: aw) ({ frames := 3, cells := 0, slots := 0, locals := 72 } : Room) (va_Pc [.ref (h0), .int (a0), .int (a1)] (fun U => va_P (dC, dI) cls2 (wM cI h0 rw pt ou w_th mR w_pf w_of w_sz w_bg) U.heap ∧ va_K (dC, dI) cls2 [(cI, .int)] U ∧ va_D (aM h0 rw pt ou) (wM cI h0 rw pt ou w_th mR w_pf w_of w_sz w_bg) ∧ tb ad sk sv tK (aM h0 rw pt ou) U U.heap)) (va_Qv (fun u => u = r) (fun (u : Int32 × (Nat → Int32) × (Nat → Int32) × Int32 × Int32) t => va_P (dC, dI) cls2 (wM cI h0 rw pt ou u.1 mR u.2.1 u.2.2.1 u.2.2.2.1 u.2.2.2.2) t.heap) (aM h0 rw pt ou)) 0 0 (aM h0 rw pt ou) := by
  refine Met.ofW (cc := b_M_operands) (maxL := 4) (ret := (Option.none : Option FieldType)) (by decide) rfl ?_
  intro p e s m args below meth c s₁ B hml hv
  obtain ⟨rfl, hP, hK, hD, hT⟩ := hv
  have hD0 := hD
  have hx := B.exec
  have hb := B.bytes
  have hr := B.returns
  have hts := atoms_spec (ws := (Cond.code y_M_operands b_M_operands 4 (Option.none : Option FieldType) :: aw)) B.pre
  have ht : ∀ {w : Cond}, w ∈ aw → w.before ([.ref (h0), .int (a0), .int (a1)] : List Value).toArray s = true := fun h => hts _ (List.mem_cons_of_mem _ h)
  have hown : s.vm.findClass "CodeWordsModel" = some m.cls := findClass_of_methodNamed B.named
  have hlocks := B.notSynchronized
  have hS : va_S (aM h0 rw pt ou) s.heap s.heap [] := va_S.rf
  have hl := lv_entry ([.ref (h0), .int (a0), .int (a1)]) (n := 4) (Nat.le_of_ble_eq_true rfl)
  rw [lg_entry_eq]
  generalize (lg_sl ([.ref (h0), .int (a0), .int (a1)]) ++ List.replicate (4 - (lg_sl ([.ref (h0), .int (a0), .int (a1)])).length) Slot.unset).toArray = ls at hl ⊢
  have hl : lv_has ls 4 [(0, .ref (h0)), (1, .int (a0)), (2, .int (a1))] := hl
  have J248 : ∀ (x3 : Int32) (y_th : Int32) (y_pf : (Nat → Int32)) (y_of : (Nat → Int32)) (y_sz : Int32) (y_bg : Int32) (H : Heap) (locs : List Loc) (ls : Array Slot), va_P (dC, dI) cls2 (wM cI h0 rw pt ou y_th mR y_pf y_of y_sz y_bg) H → va_S (aM h0 rw pt ou) s.heap H locs → lv_has ls 4 [(0, .ref (h0)), (1, .int (a0)), (2, .int (a1)), (3, .int (x3))] → f_M_operands_L248 w_th w_pf w_of w_sz w_bg a0 a1  x3 y_th y_pf y_of y_sz y_bg = some r → wW p l e (headSpec (Cond.code y_M_operands b_M_operands 4 (Option.none : Option FieldType) :: aw) ({ frames := 3, cells := 0, slots := 0, locals := 72 } : Room)).room s m ([.ref (h0), .int (a0), .int (a1)] : List Value).toArray below meth c (va_Qv (fun u => u = r) (fun (u : Int32 × (Nat → Int32) × (Nat → Int32) × Int32 × Int32) t => va_P (dC, dI) cls2 (wM cI h0 rw pt ou u.1 mR u.2.1 u.2.2.1 u.2.2.2.1 u.2.2.2.2) t.heap) (aM h0 rw pt ou)) (aM h0 rw pt ou) H locs (F0 m 248 ls []) := by
    intro x3 y_th y_pf y_of y_sz y_bg H locs ls hP hS hl hf
    rw [f_M_operands_L248] at hf
    have hD : va_D (aM h0 rw pt ou) (wM cI h0 rw pt ou y_th mR y_pf y_of y_sz y_bg) := dD hD0 rfl
    refine lv_iload_n hx hb d_M_operands_248 rfl (lv_at hl 1 rfl) ?_
    refine lv_bipush (v := 6) hx hb d_M_operands_249 (by decide) ?_
    refine lv_icmp_eq (tgt := 255) hx hb d_M_operands_251 (by decide) (fun c_28 => ?_) (fun c_28 => ?_)
    · replace hf := (if_pos c_28).symm.trans hf
      refine lv_aload_n hx hb d_M_operands_255 rfl (lv_at hl 0 rfl) ?_
      obtain ⟨r_29, g_30, hf⟩ := Option.bind_eq_some_iff.mp hf
      refine va_callv (va_runV (As := []) (rest := []) ⟨hx, hb, hml, hown, hts⟩ (c_M_ahead l (ad := ad) (sk := sk) (sv := sv) (tK := tK) dC dI cI h0 rw pt ou y_th y_pf y_of y_sz y_bg   r_29 g_30) (cwV 0 hts (aw_V aw_679 aw_681 aw_p36 aw_2 aw_682) rfl rfl rfl (by decide +kernel) ⟨Nat.le_of_ble_eq_true rfl, Nat.le_of_ble_eq_true rfl⟩) ⟨wBlind, va_recv hK hP (ci := 1) (q0 := 0) rfl rfl, fun U hU hW => ⟨rfl, by rw [hU]; exact hP, va_K.moved hW.alike hK, hD, hT.at hS hU hW (fun _ z => z)⟩⟩ rfl rfl hl.1 rfl (lv_room (Nat.le_of_ble_eq_true rfl)) d_M_operands_256 ⟨Nat.le_refl _, Nat.le_refl _⟩) hS (fun _ _ h => h) (fun _ h => h) (fun u t H1 locs ht1 hvm hw hB hz1 hk1 hS => ?_)
      rw [hw] at hB
      rw [ht1] at hB
      have hP : va_P (dC, dI) cls2 (wM cI h0 rw pt ou r_29.1 mR r_29.2.1 r_29.2.2.1 r_29.2.2.2.1 r_29.2.2.2.2) H1 := hB
      have hD : va_D (aM h0 rw pt ou) (wM cI h0 rw pt ou r_29.1 mR r_29.2.1 r_29.2.2.1 r_29.2.2.2.1 r_29.2.2.2.2) := dD hD0 rfl
      refine lv_aload_n hx hb d_M_operands_259 rfl (lv_at hl 0 rfl) ?_
      refine lv_aload_n hx hb d_M_operands_260 rfl (lv_at hl 0 rfl) ?_
      refine va_get (D := (dC, dI)) (ci := 1) (v := .ref (pt)) (C := "CodeWordsModel") (T := F_M) (N := 6) hx hb hts (in_M _) hown hK hP 0 rfl rfl 2 (by decide) (ht aw_441) (fun _ h9 => h9) rfl d_M_operands_261 ?_
      refine lv_iconst (v := 3) hx hb d_M_operands_264 (by decide) ?_
      obtain ⟨z_31, hf⟩ := ju_gd hf
      refine va_iald hx hb hK hP 2 0 rfl rfl z_31 d_M_operands_265 ?_
      obtain ⟨r_32, g_33, hf⟩ := Option.bind_eq_some_iff.mp hf
      refine va_callv (va_runV (As := [.int (r_29.2.1 (3 : Int32).toNatClampNeg)]) (rest := []) ⟨hx, hb, hml, hown, hts⟩ (c_M_sayHexadecimal l (ad := ad) (sk := sk) (sv := sv) (tK := tK) dC dI cI h0 rw pt ou r_29.1 r_29.2.1 r_29.2.2.1 r_29.2.2.2.1 r_29.2.2.2.2 (r_29.2.1 (3 : Int32).toNatClampNeg)  r_32 g_33) (cwV 1 hts (aw_V aw_736 aw_738 aw_p41 aw_2 aw_739) rfl rfl rfl (by decide +kernel) ⟨Nat.le_of_ble_eq_true rfl, Nat.le_of_ble_eq_true rfl⟩) ⟨wBlind, va_recv hK hP (ci := 1) (q0 := 0) rfl rfl, fun U hU hW => ⟨rfl, by rw [hU]; exact hP, va_K.moved hW.alike hK, hD, hT.at hS hU hW (fun _ z => z)⟩⟩ rfl rfl hl.1 rfl (lv_room (Nat.le_of_ble_eq_true rfl)) d_M_operands_266 ⟨Nat.le_refl _, Nat.le_refl _⟩) hS (fun _ _ h => h) (fun _ h => h) (fun u t H1 locs ht1 hvm hw hB hz1 hk1 hS => ?_)
      rw [hw] at hB
      rw [ht1] at hB
      have hP : va_P (dC, dI) cls2 (wM cI h0 rw pt ou r_32.1 mR r_32.2.1 r_32.2.2.1 r_32.2.2.2.1 r_32.2.2.2.2) H1 := hB
      have hD : va_D (aM h0 rw pt ou) (wM cI h0 rw pt ou r_32.1 mR r_32.2.1 r_32.2.2.1 r_32.2.2.2.1 r_32.2.2.2.2) := dD hD0 rfl
      exact W.vret hx hb hr (fun t ht hW => ⟨⟨(r_32.1, r_32.2.1, r_32.2.2.1, r_32.2.2.2.1, r_32.2.2.2.2), rfl, Option.some.inj hf, by rw [← ht] at hP; exact hP⟩, hS.F ht⟩) hS.2.2 d_M_operands_269
    · replace hf := (if_neg c_28).symm.trans hf
      exact W.vret hx hb hr (fun t ht hW => ⟨⟨(y_th, y_pf, y_of, y_sz, y_bg), rfl, Option.some.inj hf, by rw [← ht] at hP; exact hP⟩, hS.F ht⟩) hS.2.2 d_M_operands_254
  have J243 : ∀ (x3 : Int32) (y_th : Int32) (y_pf : (Nat → Int32)) (y_of : (Nat → Int32)) (y_sz : Int32) (y_bg : Int32) (H : Heap) (locs : List Loc) (ls : Array Slot), va_P (dC, dI) cls2 (wM cI h0 rw pt ou y_th mR y_pf y_of y_sz y_bg) H → va_S (aM h0 rw pt ou) s.heap H locs → lv_has ls 4 [(0, .ref (h0)), (1, .int (a0)), (2, .int (a1)), (3, .int (x3))] → f_M_operands_L243 w_th w_pf w_of w_sz w_bg a0 a1  x3 y_th y_pf y_of y_sz y_bg = some r → wW p l e (headSpec (Cond.code y_M_operands b_M_operands 4 (Option.none : Option FieldType) :: aw) ({ frames := 3, cells := 0, slots := 0, locals := 72 } : Room)).room s m ([.ref (h0), .int (a0), .int (a1)] : List Value).toArray below meth c (va_Qv (fun u => u = r) (fun (u : Int32 × (Nat → Int32) × (Nat → Int32) × Int32 × Int32) t => va_P (dC, dI) cls2 (wM cI h0 rw pt ou u.1 mR u.2.1 u.2.2.1 u.2.2.2.1 u.2.2.2.2) t.heap) (aM h0 rw pt ou)) (aM h0 rw pt ou) H locs (F0 m 243 ls []) := by
    intro x3 y_th y_pf y_of y_sz y_bg H locs ls hP hS hl hf
    rw [f_M_operands_L243] at hf
    have hD : va_D (aM h0 rw pt ou) (wM cI h0 rw pt ou y_th mR y_pf y_of y_sz y_bg) := dD hD0 rfl
    refine lv_aload_n hx hb d_M_operands_243 rfl (lv_at hl 0 rfl) ?_
    refine lv_iload_n hx hb d_M_operands_244 rfl (lv_at hl 2 rfl) ?_
    obtain ⟨r_26, g_27, hf⟩ := Option.bind_eq_some_iff.mp hf
    refine va_callv (va_runV (As := [.int (a1)]) (rest := []) ⟨hx, hb, hml, hown, hts⟩ (c_M_place l (ad := ad) (sk := sk) (sv := sv) (tK := tK) dC dI cI h0 rw pt ou y_th y_pf y_of y_sz y_bg a1  r_26 g_27) (cwV 1 hts (aw_V aw_732 aw_734 aw_p40 aw_2 aw_735) rfl rfl rfl (by decide +kernel) ⟨Nat.le_of_ble_eq_true rfl, Nat.le_of_ble_eq_true rfl⟩) ⟨wBlind, va_recv hK hP (ci := 1) (q0 := 0) rfl rfl, fun U hU hW => ⟨rfl, by rw [hU]; exact hP, va_K.moved hW.alike hK, hD, hT.at hS hU hW (fun _ z => z)⟩⟩ rfl rfl hl.1 rfl (lv_room (Nat.le_of_ble_eq_true rfl)) d_M_operands_245 ⟨Nat.le_refl _, Nat.le_refl _⟩) hS (fun _ _ h => h) (fun _ h => h) (fun u t H1 locs ht1 hvm hw hB hz1 hk1 hS => ?_)
    rw [hw] at hB
    rw [ht1] at hB
    have hP : va_P (dC, dI) cls2 (wM cI h0 rw pt ou r_26.1 mR r_26.2.1 r_26.2.2.1 r_26.2.2.2.1 r_26.2.2.2.2) H1 := hB
    have hD : va_D (aM h0 rw pt ou) (wM cI h0 rw pt ou r_26.1 mR r_26.2.1 r_26.2.2.1 r_26.2.2.2.1 r_26.2.2.2.2) := dD hD0 rfl
    exact J248 x3 r_26.1 r_26.2.1 r_26.2.2.1 r_26.2.2.2.1 r_26.2.2.2.2 _ _ _ hP hS (lv_sub hl [0, 1, 2, 3] rfl) hf
  have J220 : ∀ (x3 : Int32) (y_th : Int32) (y_pf : (Nat → Int32)) (y_of : (Nat → Int32)) (y_sz : Int32) (y_bg : Int32) (H : Heap) (locs : List Loc) (ls : Array Slot), va_P (dC, dI) cls2 (wM cI h0 rw pt ou y_th mR y_pf y_of y_sz y_bg) H → va_S (aM h0 rw pt ou) s.heap H locs → lv_has ls 4 [(0, .ref (h0)), (1, .int (a0)), (2, .int (a1)), (3, .int (x3))] → f_M_operands_L220 w_th w_pf w_of w_sz w_bg a0 a1  x3 y_th y_pf y_of y_sz y_bg = some r → wW p l e (headSpec (Cond.code y_M_operands b_M_operands 4 (Option.none : Option FieldType) :: aw) ({ frames := 3, cells := 0, slots := 0, locals := 72 } : Room)).room s m ([.ref (h0), .int (a0), .int (a1)] : List Value).toArray below meth c (va_Qv (fun u => u = r) (fun (u : Int32 × (Nat → Int32) × (Nat → Int32) × Int32 × Int32) t => va_P (dC, dI) cls2 (wM cI h0 rw pt ou u.1 mR u.2.1 u.2.2.1 u.2.2.2.1 u.2.2.2.2) t.heap) (aM h0 rw pt ou)) (aM h0 rw pt ou) H locs (F0 m 220 ls []) := by
    intro x3 y_th y_pf y_of y_sz y_bg H locs ls hP hS hl hf
    rw [f_M_operands_L220] at hf
    have hD : va_D (aM h0 rw pt ou) (wM cI h0 rw pt ou y_th mR y_pf y_of y_sz y_bg) := dD hD0 rfl
    refine lv_iload_n hx hb d_M_operands_220 rfl (lv_at hl 1 rfl) ?_
    refine lv_iconst (v := 5) hx hb d_M_operands_221 (by decide) ?_
    refine lv_icmp_eq (tgt := 243) hx hb d_M_operands_222 (by decide) (fun c_25 => ?_) (fun c_25 => ?_)
    · replace hf := (if_pos c_25).symm.trans hf
      exact J243 x3 y_th y_pf y_of y_sz y_bg _ _ _ hP hS (lv_sub hl [0, 1, 2, 3] rfl) hf
    · replace hf := (if_neg c_25).symm.trans hf
      refine lv_iload_n hx hb d_M_operands_225 rfl (lv_at hl 1 rfl) ?_
      refine lv_bipush (v := 7) hx hb d_M_operands_226 (by decide) ?_
      refine lv_icmp_eq (tgt := 243) hx hb d_M_operands_228 (by decide) (fun c_34 => ?_) (fun c_34 => ?_)
      · replace hf := (if_pos c_34).symm.trans hf
        exact J243 x3 y_th y_pf y_of y_sz y_bg _ _ _ hP hS (lv_sub hl [0, 1, 2, 3] rfl) hf
      · replace hf := (if_neg c_34).symm.trans hf
        refine lv_iload_n hx hb d_M_operands_231 rfl (lv_at hl 1 rfl) ?_
        refine lv_bipush (v := 8) hx hb d_M_operands_232 (by decide) ?_
        refine lv_icmp_eq (tgt := 243) hx hb d_M_operands_234 (by decide) (fun c_35 => ?_) (fun c_35 => ?_)
        · replace hf := (if_pos c_35).symm.trans hf
          exact J243 x3 y_th y_pf y_of y_sz y_bg _ _ _ hP hS (lv_sub hl [0, 1, 2, 3] rfl) hf
        · replace hf := (if_neg c_35).symm.trans hf
          refine lv_iload_n hx hb d_M_operands_237 rfl (lv_at hl 1 rfl) ?_
          refine lv_bipush (v := 9) hx hb d_M_operands_238 (by decide) ?_
          refine lv_icmp_ne (tgt := 248) hx hb d_M_operands_240 (by decide) (fun c_36 => ?_) (fun c_36 => ?_)
          · replace hf := (if_neg c_36).symm.trans hf
            exact J248 x3 y_th y_pf y_of y_sz y_bg _ _ _ hP hS (lv_sub hl [0, 1, 2, 3] rfl) hf
          · replace hf := (if_pos c_36).symm.trans hf
            exact J243 x3 y_th y_pf y_of y_sz y_bg _ _ _ hP hS (lv_sub hl [0, 1, 2, 3] rfl) hf
  have J216 : ∀ (x3 : Int32) (y_th : Int32) (y_pf : (Nat → Int32)) (y_of : (Nat → Int32)) (y_sz : Int32) (y_bg : Int32) (H : Heap) (locs : List Loc) (ls : Array Slot), va_P (dC, dI) cls2 (wM cI h0 rw pt ou y_th mR y_pf y_of y_sz y_bg) H → va_S (aM h0 rw pt ou) s.heap H locs → lv_has ls 4 [(0, .ref (h0)), (1, .int (a0)), (2, .int (a1)), (3, .int (x3))] → f_M_operands_L216 w_th w_pf w_of w_sz w_bg a0 a1  x3 y_th y_pf y_of y_sz y_bg = some r → wW p l e (headSpec (Cond.code y_M_operands b_M_operands 4 (Option.none : Option FieldType) :: aw) ({ frames := 3, cells := 0, slots := 0, locals := 72 } : Room)).room s m ([.ref (h0), .int (a0), .int (a1)] : List Value).toArray below meth c (va_Qv (fun u => u = r) (fun (u : Int32 × (Nat → Int32) × (Nat → Int32) × Int32 × Int32) t => va_P (dC, dI) cls2 (wM cI h0 rw pt ou u.1 mR u.2.1 u.2.2.1 u.2.2.2.1 u.2.2.2.2) t.heap) (aM h0 rw pt ou)) (aM h0 rw pt ou) H locs (F0 m 216 ls []) := by
    intro x3 y_th y_pf y_of y_sz y_bg H locs ls hP hS hl hf
    rw [f_M_operands_L216] at hf
    have hD : va_D (aM h0 rw pt ou) (wM cI h0 rw pt ou y_th mR y_pf y_of y_sz y_bg) := dD hD0 rfl
    refine lv_aload_n hx hb d_M_operands_216 rfl (lv_at hl 0 rfl) ?_
    obtain ⟨r_23, g_24, hf⟩ := Option.bind_eq_some_iff.mp hf
    refine va_callv (va_runV (As := []) (rest := []) ⟨hx, hb, hml, hown, hts⟩ (c_M_number l (ad := ad) (sk := sk) (sv := sv) (tK := tK) dC dI cI h0 rw pt ou y_th y_pf y_of y_sz y_bg   r_23 g_24) (cwV 0 hts (aw_V aw_728 aw_730 aw_p39 aw_2 aw_731) rfl rfl rfl (by decide +kernel) ⟨Nat.le_of_ble_eq_true rfl, Nat.le_of_ble_eq_true rfl⟩) ⟨wBlind, va_recv hK hP (ci := 1) (q0 := 0) rfl rfl, fun U hU hW => ⟨rfl, by rw [hU]; exact hP, va_K.moved hW.alike hK, hD, hT.at hS hU hW (fun _ z => z)⟩⟩ rfl rfl hl.1 rfl (lv_room (Nat.le_of_ble_eq_true rfl)) d_M_operands_217 ⟨Nat.le_refl _, Nat.le_refl _⟩) hS (fun _ _ h => h) (fun _ h => h) (fun u t H1 locs ht1 hvm hw hB hz1 hk1 hS => ?_)
    rw [hw] at hB
    rw [ht1] at hB
    have hP : va_P (dC, dI) cls2 (wM cI h0 rw pt ou r_23.1 mR r_23.2.1 r_23.2.2.1 r_23.2.2.2.1 r_23.2.2.2.2) H1 := hB
    have hD : va_D (aM h0 rw pt ou) (wM cI h0 rw pt ou r_23.1 mR r_23.2.1 r_23.2.2.1 r_23.2.2.2.1 r_23.2.2.2.2) := dD hD0 rfl
    exact J220 x3 r_23.1 r_23.2.1 r_23.2.2.1 r_23.2.2.2.1 r_23.2.2.2.2 _ _ _ hP hS (lv_sub hl [0, 1, 2, 3] rfl) hf
  have J193 : ∀ (x3 : Int32) (y_th : Int32) (y_pf : (Nat → Int32)) (y_of : (Nat → Int32)) (y_sz : Int32) (y_bg : Int32) (H : Heap) (locs : List Loc) (ls : Array Slot), va_P (dC, dI) cls2 (wM cI h0 rw pt ou y_th mR y_pf y_of y_sz y_bg) H → va_S (aM h0 rw pt ou) s.heap H locs → lv_has ls 4 [(0, .ref (h0)), (1, .int (a0)), (2, .int (a1)), (3, .int (x3))] → f_M_operands_L193 w_th w_pf w_of w_sz w_bg a0 a1  x3 y_th y_pf y_of y_sz y_bg = some r → wW p l e (headSpec (Cond.code y_M_operands b_M_operands 4 (Option.none : Option FieldType) :: aw) ({ frames := 3, cells := 0, slots := 0, locals := 72 } : Room)).room s m ([.ref (h0), .int (a0), .int (a1)] : List Value).toArray below meth c (va_Qv (fun u => u = r) (fun (u : Int32 × (Nat → Int32) × (Nat → Int32) × Int32 × Int32) t => va_P (dC, dI) cls2 (wM cI h0 rw pt ou u.1 mR u.2.1 u.2.2.1 u.2.2.2.1 u.2.2.2.2) t.heap) (aM h0 rw pt ou)) (aM h0 rw pt ou) H locs (F0 m 193 ls []) := by
    intro x3 y_th y_pf y_of y_sz y_bg H locs ls hP hS hl hf
    rw [f_M_operands_L193] at hf
    have hD : va_D (aM h0 rw pt ou) (wM cI h0 rw pt ou y_th mR y_pf y_of y_sz y_bg) := dD hD0 rfl
    refine lv_iload_n hx hb d_M_operands_193 rfl (lv_at hl 1 rfl) ?_
    refine lv_iconst (v := 2) hx hb d_M_operands_194 (by decide) ?_
    refine lv_icmp_eq (tgt := 216) hx hb d_M_operands_195 (by decide) (fun c_22 => ?_) (fun c_22 => ?_)
    · replace hf := (if_pos c_22).symm.trans hf
      exact J216 x3 y_th y_pf y_of y_sz y_bg _ _ _ hP hS (lv_sub hl [0, 1, 2, 3] rfl) hf
    · replace hf := (if_neg c_22).symm.trans hf
      refine lv_iload_n hx hb d_M_operands_198 rfl (lv_at hl 1 rfl) ?_
      refine lv_bipush (v := 12) hx hb d_M_operands_199 (by decide) ?_
      refine lv_icmp_eq (tgt := 216) hx hb d_M_operands_201 (by decide) (fun c_37 => ?_) (fun c_37 => ?_)
      · replace hf := (if_pos c_37).symm.trans hf
        exact J216 x3 y_th y_pf y_of y_sz y_bg _ _ _ hP hS (lv_sub hl [0, 1, 2, 3] rfl) hf
      · replace hf := (if_neg c_37).symm.trans hf
        refine lv_iload_n hx hb d_M_operands_204 rfl (lv_at hl 1 rfl) ?_
        refine lv_bipush (v := 15) hx hb d_M_operands_205 (by decide) ?_
        refine lv_icmp_eq (tgt := 216) hx hb d_M_operands_207 (by decide) (fun c_38 => ?_) (fun c_38 => ?_)
        · replace hf := (if_pos c_38).symm.trans hf
          exact J216 x3 y_th y_pf y_of y_sz y_bg _ _ _ hP hS (lv_sub hl [0, 1, 2, 3] rfl) hf
        · replace hf := (if_neg c_38).symm.trans hf
          refine lv_iload_n hx hb d_M_operands_210 rfl (lv_at hl 1 rfl) ?_
          refine lv_bipush (v := 16) hx hb d_M_operands_211 (by decide) ?_
          refine lv_icmp_ne (tgt := 220) hx hb d_M_operands_213 (by decide) (fun c_39 => ?_) (fun c_39 => ?_)
          · replace hf := (if_neg c_39).symm.trans hf
            exact J220 x3 y_th y_pf y_of y_sz y_bg _ _ _ hP hS (lv_sub hl [0, 1, 2, 3] rfl) hf
          · replace hf := (if_pos c_39).symm.trans hf
            exact J216 x3 y_th y_pf y_of y_sz y_bg _ _ _ hP hS (lv_sub hl [0, 1, 2, 3] rfl) hf
  have J188 : ∀ (x3 : Int32) (y_th : Int32) (y_pf : (Nat → Int32)) (y_of : (Nat → Int32)) (y_sz : Int32) (y_bg : Int32) (H : Heap) (locs : List Loc) (ls : Array Slot), va_P (dC, dI) cls2 (wM cI h0 rw pt ou y_th mR y_pf y_of y_sz y_bg) H → va_S (aM h0 rw pt ou) s.heap H locs → lv_has ls 4 [(0, .ref (h0)), (1, .int (a0)), (2, .int (a1)), (3, .int (x3))] → f_M_operands_L188 w_th w_pf w_of w_sz w_bg a0 a1  x3 y_th y_pf y_of y_sz y_bg = some r → wW p l e (headSpec (Cond.code y_M_operands b_M_operands 4 (Option.none : Option FieldType) :: aw) ({ frames := 3, cells := 0, slots := 0, locals := 72 } : Room)).room s m ([.ref (h0), .int (a0), .int (a1)] : List Value).toArray below meth c (va_Qv (fun u => u = r) (fun (u : Int32 × (Nat → Int32) × (Nat → Int32) × Int32 × Int32) t => va_P (dC, dI) cls2 (wM cI h0 rw pt ou u.1 mR u.2.1 u.2.2.1 u.2.2.2.1 u.2.2.2.2) t.heap) (aM h0 rw pt ou)) (aM h0 rw pt ou) H locs (F0 m 188 ls []) := by
    intro x3 y_th y_pf y_of y_sz y_bg H locs ls hP hS hl hf
    rw [f_M_operands_L188] at hf
    have hD : va_D (aM h0 rw pt ou) (wM cI h0 rw pt ou y_th mR y_pf y_of y_sz y_bg) := dD hD0 rfl
    refine lv_aload_n hx hb d_M_operands_188 rfl (lv_at hl 0 rfl) ?_
    refine lv_iconst (v := 2) hx hb d_M_operands_189 (by decide) ?_
    obtain ⟨r_20, g_21, hf⟩ := Option.bind_eq_some_iff.mp hf
    refine va_callv (va_runV (As := [.int (2)]) (rest := []) ⟨hx, hb, hml, hown, hts⟩ (c_M_offset l (ad := ad) (sk := sk) (sv := sv) (tK := tK) dC dI cI h0 rw pt ou y_th y_pf y_of y_sz y_bg 2  r_20 g_21) (cwV 1 hts (aw_V aw_718 aw_720 aw_p37 aw_2 aw_721) rfl rfl rfl (by decide +kernel) ⟨Nat.le_of_ble_eq_true rfl, Nat.le_of_ble_eq_true rfl⟩) ⟨wBlind, va_recv hK hP (ci := 1) (q0 := 0) rfl rfl, fun U hU hW => ⟨rfl, by rw [hU]; exact hP, va_K.moved hW.alike hK, hD, hT.at hS hU hW (fun _ z => z)⟩⟩ rfl rfl hl.1 rfl (lv_room (Nat.le_of_ble_eq_true rfl)) d_M_operands_190 ⟨Nat.le_refl _, Nat.le_refl _⟩) hS (fun _ _ h => h) (fun _ h => h) (fun u t H1 locs ht1 hvm hw hB hz1 hk1 hS => ?_)
    rw [hw] at hB
    rw [ht1] at hB
    have hP : va_P (dC, dI) cls2 (wM cI h0 rw pt ou r_20.1 mR r_20.2.1 r_20.2.2.1 r_20.2.2.2.1 r_20.2.2.2.2) H1 := hB
    have hD : va_D (aM h0 rw pt ou) (wM cI h0 rw pt ou r_20.1 mR r_20.2.1 r_20.2.2.1 r_20.2.2.2.1 r_20.2.2.2.2) := dD hD0 rfl
    exact J193 x3 r_20.1 r_20.2.1 r_20.2.2.1 r_20.2.2.2.1 r_20.2.2.2.2 _ _ _ hP hS (lv_sub hl [0, 1, 2, 3] rfl) hf
  have J176 : ∀ (x3 : Int32) (y_th : Int32) (y_pf : (Nat → Int32)) (y_of : (Nat → Int32)) (y_sz : Int32) (y_bg : Int32) (H : Heap) (locs : List Loc) (ls : Array Slot), va_P (dC, dI) cls2 (wM cI h0 rw pt ou y_th mR y_pf y_of y_sz y_bg) H → va_S (aM h0 rw pt ou) s.heap H locs → lv_has ls 4 [(0, .ref (h0)), (1, .int (a0)), (2, .int (a1)), (3, .int (x3))] → f_M_operands_L176 w_th w_pf w_of w_sz w_bg a0 a1  x3 y_th y_pf y_of y_sz y_bg = some r → wW p l e (headSpec (Cond.code y_M_operands b_M_operands 4 (Option.none : Option FieldType) :: aw) ({ frames := 3, cells := 0, slots := 0, locals := 72 } : Room)).room s m ([.ref (h0), .int (a0), .int (a1)] : List Value).toArray below meth c (va_Qv (fun u => u = r) (fun (u : Int32 × (Nat → Int32) × (Nat → Int32) × Int32 × Int32) t => va_P (dC, dI) cls2 (wM cI h0 rw pt ou u.1 mR u.2.1 u.2.2.1 u.2.2.2.1 u.2.2.2.2) t.heap) (aM h0 rw pt ou)) (aM h0 rw pt ou) H locs (F0 m 176 ls []) := by
    intro x3 y_th y_pf y_of y_sz y_bg H locs ls hP hS hl hf
    rw [f_M_operands_L176] at hf
    have hD : va_D (aM h0 rw pt ou) (wM cI h0 rw pt ou y_th mR y_pf y_of y_sz y_bg) := dD hD0 rfl
    refine lv_iload_n hx hb d_M_operands_176 rfl (lv_at hl 1 rfl) ?_
    refine lv_bipush (v := 13) hx hb d_M_operands_177 (by decide) ?_
    refine lv_icmp_eq (tgt := 188) hx hb d_M_operands_179 (by decide) (fun c_19 => ?_) (fun c_19 => ?_)
    · replace hf := (if_pos c_19).symm.trans hf
      exact J188 x3 y_th y_pf y_of y_sz y_bg _ _ _ hP hS (lv_sub hl [0, 1, 2, 3] rfl) hf
    · replace hf := (if_neg c_19).symm.trans hf
      refine lv_iload_n hx hb d_M_operands_182 rfl (lv_at hl 1 rfl) ?_
      refine lv_bipush (v := 14) hx hb d_M_operands_183 (by decide) ?_
      refine lv_icmp_ne (tgt := 193) hx hb d_M_operands_185 (by decide) (fun c_40 => ?_) (fun c_40 => ?_)
      · replace hf := (if_neg c_40).symm.trans hf
        exact J193 x3 y_th y_pf y_of y_sz y_bg _ _ _ hP hS (lv_sub hl [0, 1, 2, 3] rfl) hf
      · replace hf := (if_pos c_40).symm.trans hf
        exact J188 x3 y_th y_pf y_of y_sz y_bg _ _ _ hP hS (lv_sub hl [0, 1, 2, 3] rfl) hf
  have J166 : ∀ (x3 : Int32) (y_th : Int32) (y_pf : (Nat → Int32)) (y_of : (Nat → Int32)) (y_sz : Int32) (y_bg : Int32) (H : Heap) (locs : List Loc) (ls : Array Slot), va_P (dC, dI) cls2 (wM cI h0 rw pt ou y_th mR y_pf y_of y_sz y_bg) H → va_S (aM h0 rw pt ou) s.heap H locs → lv_has ls 4 [(0, .ref (h0)), (1, .int (a0)), (2, .int (a1)), (3, .int (x3))] → f_M_operands_L166 w_th w_pf w_of w_sz w_bg a0 a1  x3 y_th y_pf y_of y_sz y_bg = some r → wW p l e (headSpec (Cond.code y_M_operands b_M_operands 4 (Option.none : Option FieldType) :: aw) ({ frames := 3, cells := 0, slots := 0, locals := 72 } : Room)).room s m ([.ref (h0), .int (a0), .int (a1)] : List Value).toArray below meth c (va_Qv (fun u => u = r) (fun (u : Int32 × (Nat → Int32) × (Nat → Int32) × Int32 × Int32) t => va_P (dC, dI) cls2 (wM cI h0 rw pt ou u.1 mR u.2.1 u.2.2.1 u.2.2.2.1 u.2.2.2.2) t.heap) (aM h0 rw pt ou)) (aM h0 rw pt ou) H locs (F0 m 166 ls []) := by
    intro x3 y_th y_pf y_of y_sz y_bg H locs ls hP hS hl hf
    rw [f_M_operands_L166] at hf
    have hD : va_D (aM h0 rw pt ou) (wM cI h0 rw pt ou y_th mR y_pf y_of y_sz y_bg) := dD hD0 rfl
    refine lv_aload_n hx hb d_M_operands_166 rfl (lv_at hl 0 rfl) ?_
    refine lv_aload_n hx hb d_M_operands_167 rfl (lv_at hl 0 rfl) ?_
    refine va_get (D := (dC, dI)) (ci := 1) (v := .ref (pt)) (C := "CodeWordsModel") (T := F_M) (N := 6) hx hb hts (in_M _) hown hK hP 0 rfl rfl 2 (by decide) (ht aw_441) (fun _ h9 => h9) rfl d_M_operands_168 ?_
    refine lv_iconst (v := 1) hx hb d_M_operands_171 (by decide) ?_
    obtain ⟨z_16, hf⟩ := ju_gd hf
    refine va_iald hx hb hK hP 2 0 rfl rfl z_16 d_M_operands_172 ?_
    obtain ⟨r_17, g_18, hf⟩ := Option.bind_eq_some_iff.mp hf
    refine va_callv (va_runV (As := [.int (y_pf (1 : Int32).toNatClampNeg)]) (rest := []) ⟨hx, hb, hml, hown, hts⟩ (c_M_offset l (ad := ad) (sk := sk) (sv := sv) (tK := tK) dC dI cI h0 rw pt ou y_th y_pf y_of y_sz y_bg (y_pf (1 : Int32).toNatClampNeg)  r_17 g_18) (cwV 1 hts (aw_V aw_718 aw_720 aw_p37 aw_2 aw_721) rfl rfl rfl (by decide +kernel) ⟨Nat.le_of_ble_eq_true rfl, Nat.le_of_ble_eq_true rfl⟩) ⟨wBlind, va_recv hK hP (ci := 1) (q0 := 0) rfl rfl, fun U hU hW => ⟨rfl, by rw [hU]; exact hP, va_K.moved hW.alike hK, hD, hT.at hS hU hW (fun _ z => z)⟩⟩ rfl rfl hl.1 rfl (lv_room (Nat.le_of_ble_eq_true rfl)) d_M_operands_173 ⟨Nat.le_refl _, Nat.le_refl _⟩) hS (fun _ _ h => h) (fun _ h => h) (fun u t H1 locs ht1 hvm hw hB hz1 hk1 hS => ?_)
    rw [hw] at hB
    rw [ht1] at hB
    have hP : va_P (dC, dI) cls2 (wM cI h0 rw pt ou r_17.1 mR r_17.2.1 r_17.2.2.1 r_17.2.2.2.1 r_17.2.2.2.2) H1 := hB
    have hD : va_D (aM h0 rw pt ou) (wM cI h0 rw pt ou r_17.1 mR r_17.2.1 r_17.2.2.1 r_17.2.2.2.1 r_17.2.2.2.2) := dD hD0 rfl
    exact J176 x3 r_17.1 r_17.2.1 r_17.2.2.1 r_17.2.2.2.1 r_17.2.2.2.2 _ _ _ hP hS (lv_sub hl [0, 1, 2, 3] rfl) hf
  have J156 : ∀ (x3 : Int32) (y_th : Int32) (y_pf : (Nat → Int32)) (y_of : (Nat → Int32)) (y_sz : Int32) (y_bg : Int32) (H : Heap) (locs : List Loc) (ls : Array Slot), va_P (dC, dI) cls2 (wM cI h0 rw pt ou y_th mR y_pf y_of y_sz y_bg) H → va_S (aM h0 rw pt ou) s.heap H locs → lv_has ls 4 [(0, .ref (h0)), (1, .int (a0)), (2, .int (a1)), (3, .int (x3))] → f_M_operands_L156 w_th w_pf w_of w_sz w_bg a0 a1  x3 y_th y_pf y_of y_sz y_bg = some r → wW p l e (headSpec (Cond.code y_M_operands b_M_operands 4 (Option.none : Option FieldType) :: aw) ({ frames := 3, cells := 0, slots := 0, locals := 72 } : Room)).room s m ([.ref (h0), .int (a0), .int (a1)] : List Value).toArray below meth c (va_Qv (fun u => u = r) (fun (u : Int32 × (Nat → Int32) × (Nat → Int32) × Int32 × Int32) t => va_P (dC, dI) cls2 (wM cI h0 rw pt ou u.1 mR u.2.1 u.2.2.1 u.2.2.2.1 u.2.2.2.2) t.heap) (aM h0 rw pt ou)) (aM h0 rw pt ou) H locs (F0 m 156 ls []) := by
    intro x3 y_th y_pf y_of y_sz y_bg H locs ls hP hS hl hf
    rw [f_M_operands_L156] at hf
    have hD : va_D (aM h0 rw pt ou) (wM cI h0 rw pt ou y_th mR y_pf y_of y_sz y_bg) := dD hD0 rfl
    refine lv_iload_n hx hb d_M_operands_156 rfl (lv_at hl 1 rfl) ?_
    refine lv_iconst (v := 3) hx hb d_M_operands_157 (by decide) ?_
    refine lv_icmp_eq (tgt := 166) hx hb d_M_operands_158 (by decide) (fun c_15 => ?_) (fun c_15 => ?_)
    · replace hf := (if_pos c_15).symm.trans hf
      exact J166 x3 y_th y_pf y_of y_sz y_bg _ _ _ hP hS (lv_sub hl [0, 1, 2, 3] rfl) hf
    · replace hf := (if_neg c_15).symm.trans hf
      refine lv_iload_n hx hb d_M_operands_161 rfl (lv_at hl 1 rfl) ?_
      refine lv_iconst (v := 4) hx hb d_M_operands_162 (by decide) ?_
      refine lv_icmp_ne (tgt := 176) hx hb d_M_operands_163 (by decide) (fun c_41 => ?_) (fun c_41 => ?_)
      · replace hf := (if_neg c_41).symm.trans hf
        exact J176 x3 y_th y_pf y_of y_sz y_bg _ _ _ hP hS (lv_sub hl [0, 1, 2, 3] rfl) hf
      · replace hf := (if_pos c_41).symm.trans hf
        exact J166 x3 y_th y_pf y_of y_sz y_bg _ _ _ hP hS (lv_sub hl [0, 1, 2, 3] rfl) hf
  have J151 : ∀ (x3 : Int32) (y_th : Int32) (y_pf : (Nat → Int32)) (y_of : (Nat → Int32)) (y_sz : Int32) (y_bg : Int32) (H : Heap) (locs : List Loc) (ls : Array Slot), va_P (dC, dI) cls2 (wM cI h0 rw pt ou y_th mR y_pf y_of y_sz y_bg) H → va_S (aM h0 rw pt ou) s.heap H locs → lv_has ls 4 [(0, .ref (h0)), (1, .int (a0)), (2, .int (a1)), (3, .int (x3))] → f_M_operands_L151 w_th w_pf w_of w_sz w_bg a0 a1  x3 y_th y_pf y_of y_sz y_bg = some r → wW p l e (headSpec (Cond.code y_M_operands b_M_operands 4 (Option.none : Option FieldType) :: aw) ({ frames := 3, cells := 0, slots := 0, locals := 72 } : Room)).room s m ([.ref (h0), .int (a0), .int (a1)] : List Value).toArray below meth c (va_Qv (fun u => u = r) (fun (u : Int32 × (Nat → Int32) × (Nat → Int32) × Int32 × Int32) t => va_P (dC, dI) cls2 (wM cI h0 rw pt ou u.1 mR u.2.1 u.2.2.1 u.2.2.2.1 u.2.2.2.2) t.heap) (aM h0 rw pt ou)) (aM h0 rw pt ou) H locs (F0 m 151 ls []) := by
    intro x3 y_th y_pf y_of y_sz y_bg H locs ls hP hS hl hf
    rw [f_M_operands_L151] at hf
    have hD : va_D (aM h0 rw pt ou) (wM cI h0 rw pt ou y_th mR y_pf y_of y_sz y_bg) := dD hD0 rfl
    refine lv_aload_n hx hb d_M_operands_151 rfl (lv_at hl 0 rfl) ?_
    refine lv_iconst (v := 2) hx hb d_M_operands_152 (by decide) ?_
    obtain ⟨r_13, g_14, hf⟩ := Option.bind_eq_some_iff.mp hf
    refine va_callv (va_runV (As := [.int (2)]) (rest := []) ⟨hx, hb, hml, hown, hts⟩ (c_M_register l (ad := ad) (sk := sk) (sv := sv) (tK := tK) dC dI cI h0 rw pt ou y_th y_pf y_of y_sz y_bg 2  r_13 g_14) (cwV 1 hts (aw_V aw_675 aw_677 aw_p35 aw_2 aw_678) rfl rfl rfl (by decide +kernel) ⟨Nat.le_of_ble_eq_true rfl, Nat.le_of_ble_eq_true rfl⟩) ⟨wBlind, va_recv hK hP (ci := 1) (q0 := 0) rfl rfl, fun U hU hW => ⟨rfl, by rw [hU]; exact hP, va_K.moved hW.alike hK, hD, hT.at hS hU hW (fun _ z => z)⟩⟩ rfl rfl hl.1 rfl (lv_room (Nat.le_of_ble_eq_true rfl)) d_M_operands_153 ⟨Nat.le_refl _, Nat.le_refl _⟩) hS (fun _ _ h => h) (fun _ h => h) (fun u t H1 locs ht1 hvm hw hB hz1 hk1 hS => ?_)
    rw [hw] at hB
    rw [ht1] at hB
    have hP : va_P (dC, dI) cls2 (wM cI h0 rw pt ou r_13.1 mR r_13.2.1 r_13.2.2.1 r_13.2.2.2.1 r_13.2.2.2.2) H1 := hB
    have hD : va_D (aM h0 rw pt ou) (wM cI h0 rw pt ou r_13.1 mR r_13.2.1 r_13.2.2.1 r_13.2.2.2.1 r_13.2.2.2.2) := dD hD0 rfl
    exact J156 x3 r_13.1 r_13.2.1 r_13.2.2.1 r_13.2.2.2.1 r_13.2.2.2.2 _ _ _ hP hS (lv_sub hl [0, 1, 2, 3] rfl) hf
  have J139 : ∀ (x3 : Int32) (y_th : Int32) (y_pf : (Nat → Int32)) (y_of : (Nat → Int32)) (y_sz : Int32) (y_bg : Int32) (H : Heap) (locs : List Loc) (ls : Array Slot), va_P (dC, dI) cls2 (wM cI h0 rw pt ou y_th mR y_pf y_of y_sz y_bg) H → va_S (aM h0 rw pt ou) s.heap H locs → lv_has ls 4 [(0, .ref (h0)), (1, .int (a0)), (2, .int (a1)), (3, .int (x3))] → f_M_operands_L139 w_th w_pf w_of w_sz w_bg a0 a1  x3 y_th y_pf y_of y_sz y_bg = some r → wW p l e (headSpec (Cond.code y_M_operands b_M_operands 4 (Option.none : Option FieldType) :: aw) ({ frames := 3, cells := 0, slots := 0, locals := 72 } : Room)).room s m ([.ref (h0), .int (a0), .int (a1)] : List Value).toArray below meth c (va_Qv (fun u => u = r) (fun (u : Int32 × (Nat → Int32) × (Nat → Int32) × Int32 × Int32) t => va_P (dC, dI) cls2 (wM cI h0 rw pt ou u.1 mR u.2.1 u.2.2.1 u.2.2.2.1 u.2.2.2.2) t.heap) (aM h0 rw pt ou)) (aM h0 rw pt ou) H locs (F0 m 139 ls []) := by
    intro x3 y_th y_pf y_of y_sz y_bg H locs ls hP hS hl hf
    rw [f_M_operands_L139] at hf
    have hD : va_D (aM h0 rw pt ou) (wM cI h0 rw pt ou y_th mR y_pf y_of y_sz y_bg) := dD hD0 rfl
    refine lv_iload_n hx hb d_M_operands_139 rfl (lv_at hl 1 rfl) ?_
    refine lv_bipush (v := 15) hx hb d_M_operands_140 (by decide) ?_
    refine lv_icmp_eq (tgt := 151) hx hb d_M_operands_142 (by decide) (fun c_12 => ?_) (fun c_12 => ?_)
    · replace hf := (if_pos c_12).symm.trans hf
      exact J151 x3 y_th y_pf y_of y_sz y_bg _ _ _ hP hS (lv_sub hl [0, 1, 2, 3] rfl) hf
    · replace hf := (if_neg c_12).symm.trans hf
      refine lv_iload_n hx hb d_M_operands_145 rfl (lv_at hl 1 rfl) ?_
      refine lv_bipush (v := 16) hx hb d_M_operands_146 (by decide) ?_
      refine lv_icmp_ne (tgt := 156) hx hb d_M_operands_148 (by decide) (fun c_42 => ?_) (fun c_42 => ?_)
      · replace hf := (if_neg c_42).symm.trans hf
        exact J156 x3 y_th y_pf y_of y_sz y_bg _ _ _ hP hS (lv_sub hl [0, 1, 2, 3] rfl) hf
      · replace hf := (if_pos c_42).symm.trans hf
        exact J151 x3 y_th y_pf y_of y_sz y_bg _ _ _ hP hS (lv_sub hl [0, 1, 2, 3] rfl) hf
  have J129 : ∀ (x3 : Int32) (y_th : Int32) (y_pf : (Nat → Int32)) (y_of : (Nat → Int32)) (y_sz : Int32) (y_bg : Int32) (H : Heap) (locs : List Loc) (ls : Array Slot), va_P (dC, dI) cls2 (wM cI h0 rw pt ou y_th mR y_pf y_of y_sz y_bg) H → va_S (aM h0 rw pt ou) s.heap H locs → lv_has ls 4 [(0, .ref (h0)), (1, .int (a0)), (2, .int (a1)), (3, .int (x3))] → f_M_operands_L129 w_th w_pf w_of w_sz w_bg a0 a1  x3 y_th y_pf y_of y_sz y_bg = some r → wW p l e (headSpec (Cond.code y_M_operands b_M_operands 4 (Option.none : Option FieldType) :: aw) ({ frames := 3, cells := 0, slots := 0, locals := 72 } : Room)).room s m ([.ref (h0), .int (a0), .int (a1)] : List Value).toArray below meth c (va_Qv (fun u => u = r) (fun (u : Int32 × (Nat → Int32) × (Nat → Int32) × Int32 × Int32) t => va_P (dC, dI) cls2 (wM cI h0 rw pt ou u.1 mR u.2.1 u.2.2.1 u.2.2.2.1 u.2.2.2.2) t.heap) (aM h0 rw pt ou)) (aM h0 rw pt ou) H locs (F0 m 129 ls []) := by
    intro x3 y_th y_pf y_of y_sz y_bg H locs ls hP hS hl hf
    rw [f_M_operands_L129] at hf
    have hD : va_D (aM h0 rw pt ou) (wM cI h0 rw pt ou y_th mR y_pf y_of y_sz y_bg) := dD hD0 rfl
    refine lv_aload_n hx hb d_M_operands_129 rfl (lv_at hl 0 rfl) ?_
    refine lv_aload_n hx hb d_M_operands_130 rfl (lv_at hl 0 rfl) ?_
    refine va_get (D := (dC, dI)) (ci := 1) (v := .ref (pt)) (C := "CodeWordsModel") (T := F_M) (N := 6) hx hb hts (in_M _) hown hK hP 0 rfl rfl 2 (by decide) (ht aw_441) (fun _ h9 => h9) rfl d_M_operands_131 ?_
    refine lv_iconst (v := 2) hx hb d_M_operands_134 (by decide) ?_
    obtain ⟨z_9, hf⟩ := ju_gd hf
    refine va_iald hx hb hK hP 2 0 rfl rfl z_9 d_M_operands_135 ?_
    obtain ⟨r_10, g_11, hf⟩ := Option.bind_eq_some_iff.mp hf
    refine va_callv (va_runV (As := [.int (y_pf (2 : Int32).toNatClampNeg)]) (rest := []) ⟨hx, hb, hml, hown, hts⟩ (c_M_register l (ad := ad) (sk := sk) (sv := sv) (tK := tK) dC dI cI h0 rw pt ou y_th y_pf y_of y_sz y_bg (y_pf (2 : Int32).toNatClampNeg)  r_10 g_11) (cwV 1 hts (aw_V aw_675 aw_677 aw_p35 aw_2 aw_678) rfl rfl rfl (by decide +kernel) ⟨Nat.le_of_ble_eq_true rfl, Nat.le_of_ble_eq_true rfl⟩) ⟨wBlind, va_recv hK hP (ci := 1) (q0 := 0) rfl rfl, fun U hU hW => ⟨rfl, by rw [hU]; exact hP, va_K.moved hW.alike hK, hD, hT.at hS hU hW (fun _ z => z)⟩⟩ rfl rfl hl.1 rfl (lv_room (Nat.le_of_ble_eq_true rfl)) d_M_operands_136 ⟨Nat.le_refl _, Nat.le_refl _⟩) hS (fun _ _ h => h) (fun _ h => h) (fun u t H1 locs ht1 hvm hw hB hz1 hk1 hS => ?_)
    rw [hw] at hB
    rw [ht1] at hB
    have hP : va_P (dC, dI) cls2 (wM cI h0 rw pt ou r_10.1 mR r_10.2.1 r_10.2.2.1 r_10.2.2.2.1 r_10.2.2.2.2) H1 := hB
    have hD : va_D (aM h0 rw pt ou) (wM cI h0 rw pt ou r_10.1 mR r_10.2.1 r_10.2.2.1 r_10.2.2.2.1 r_10.2.2.2.2) := dD hD0 rfl
    exact J139 x3 r_10.1 r_10.2.1 r_10.2.2.1 r_10.2.2.2.1 r_10.2.2.2.2 _ _ _ hP hS (lv_sub hl [0, 1, 2, 3] rfl) hf
  have J102 : ∀ (x3 : Int32) (y_th : Int32) (y_pf : (Nat → Int32)) (y_of : (Nat → Int32)) (y_sz : Int32) (y_bg : Int32) (H : Heap) (locs : List Loc) (ls : Array Slot), va_P (dC, dI) cls2 (wM cI h0 rw pt ou y_th mR y_pf y_of y_sz y_bg) H → va_S (aM h0 rw pt ou) s.heap H locs → lv_has ls 4 [(0, .ref (h0)), (1, .int (a0)), (2, .int (a1)), (3, .int (x3))] → f_M_operands_L102 w_th w_pf w_of w_sz w_bg a0 a1  x3 y_th y_pf y_of y_sz y_bg = some r → wW p l e (headSpec (Cond.code y_M_operands b_M_operands 4 (Option.none : Option FieldType) :: aw) ({ frames := 3, cells := 0, slots := 0, locals := 72 } : Room)).room s m ([.ref (h0), .int (a0), .int (a1)] : List Value).toArray below meth c (va_Qv (fun u => u = r) (fun (u : Int32 × (Nat → Int32) × (Nat → Int32) × Int32 × Int32) t => va_P (dC, dI) cls2 (wM cI h0 rw pt ou u.1 mR u.2.1 u.2.2.1 u.2.2.2.1 u.2.2.2.2) t.heap) (aM h0 rw pt ou)) (aM h0 rw pt ou) H locs (F0 m 102 ls []) := by
    intro x3 y_th y_pf y_of y_sz y_bg H locs ls hP hS hl hf
    rw [f_M_operands_L102] at hf
    have hD : va_D (aM h0 rw pt ou) (wM cI h0 rw pt ou y_th mR y_pf y_of y_sz y_bg) := dD hD0 rfl
    refine lv_iload_n hx hb d_M_operands_102 rfl (lv_at hl 1 rfl) ?_
    refine lv_iconst (v := 1) hx hb d_M_operands_103 (by decide) ?_
    refine lv_icmp_eq (tgt := 129) hx hb d_M_operands_104 (by decide) (fun c_8 => ?_) (fun c_8 => ?_)
    · replace hf := (if_pos c_8).symm.trans hf
      exact J129 x3 y_th y_pf y_of y_sz y_bg _ _ _ hP hS (lv_sub hl [0, 1, 2, 3] rfl) hf
    · replace hf := (if_neg c_8).symm.trans hf
      refine lv_iload_n hx hb d_M_operands_107 rfl (lv_at hl 1 rfl) ?_
      refine lv_iconst (v := 4) hx hb d_M_operands_108 (by decide) ?_
      refine lv_icmp_eq (tgt := 129) hx hb d_M_operands_109 (by decide) (fun c_43 => ?_) (fun c_43 => ?_)
      · replace hf := (if_pos c_43).symm.trans hf
        exact J129 x3 y_th y_pf y_of y_sz y_bg _ _ _ hP hS (lv_sub hl [0, 1, 2, 3] rfl) hf
      · replace hf := (if_neg c_43).symm.trans hf
        refine lv_iload_n hx hb d_M_operands_112 rfl (lv_at hl 1 rfl) ?_
        refine lv_iconst (v := 5) hx hb d_M_operands_113 (by decide) ?_
        refine lv_icmp_eq (tgt := 129) hx hb d_M_operands_114 (by decide) (fun c_44 => ?_) (fun c_44 => ?_)
        · replace hf := (if_pos c_44).symm.trans hf
          exact J129 x3 y_th y_pf y_of y_sz y_bg _ _ _ hP hS (lv_sub hl [0, 1, 2, 3] rfl) hf
        · replace hf := (if_neg c_44).symm.trans hf
          refine lv_iload_n hx hb d_M_operands_117 rfl (lv_at hl 1 rfl) ?_
          refine lv_bipush (v := 10) hx hb d_M_operands_118 (by decide) ?_
          refine lv_icmp_eq (tgt := 129) hx hb d_M_operands_120 (by decide) (fun c_45 => ?_) (fun c_45 => ?_)
          · replace hf := (if_pos c_45).symm.trans hf
            exact J129 x3 y_th y_pf y_of y_sz y_bg _ _ _ hP hS (lv_sub hl [0, 1, 2, 3] rfl) hf
          · replace hf := (if_neg c_45).symm.trans hf
            refine lv_iload_n hx hb d_M_operands_123 rfl (lv_at hl 1 rfl) ?_
            refine lv_bipush (v := 14) hx hb d_M_operands_124 (by decide) ?_
            refine lv_icmp_ne (tgt := 139) hx hb d_M_operands_126 (by decide) (fun c_46 => ?_) (fun c_46 => ?_)
            · replace hf := (if_neg c_46).symm.trans hf
              exact J139 x3 y_th y_pf y_of y_sz y_bg _ _ _ hP hS (lv_sub hl [0, 1, 2, 3] rfl) hf
            · replace hf := (if_pos c_46).symm.trans hf
              exact J129 x3 y_th y_pf y_of y_sz y_bg _ _ _ hP hS (lv_sub hl [0, 1, 2, 3] rfl) hf
  have J92 : ∀ (x3 : Int32) (y_th : Int32) (y_pf : (Nat → Int32)) (y_of : (Nat → Int32)) (y_sz : Int32) (y_bg : Int32) (H : Heap) (locs : List Loc) (ls : Array Slot), va_P (dC, dI) cls2 (wM cI h0 rw pt ou y_th mR y_pf y_of y_sz y_bg) H → va_S (aM h0 rw pt ou) s.heap H locs → lv_has ls 4 [(0, .ref (h0)), (1, .int (a0)), (2, .int (a1)), (3, .int (x3))] → f_M_operands_L92 w_th w_pf w_of w_sz w_bg a0 a1  x3 y_th y_pf y_of y_sz y_bg = some r → wW p l e (headSpec (Cond.code y_M_operands b_M_operands 4 (Option.none : Option FieldType) :: aw) ({ frames := 3, cells := 0, slots := 0, locals := 72 } : Room)).room s m ([.ref (h0), .int (a0), .int (a1)] : List Value).toArray below meth c (va_Qv (fun u => u = r) (fun (u : Int32 × (Nat → Int32) × (Nat → Int32) × Int32 × Int32) t => va_P (dC, dI) cls2 (wM cI h0 rw pt ou u.1 mR u.2.1 u.2.2.1 u.2.2.2.1 u.2.2.2.2) t.heap) (aM h0 rw pt ou)) (aM h0 rw pt ou) H locs (F0 m 92 ls []) := by
    intro x3 y_th y_pf y_of y_sz y_bg H locs ls hP hS hl hf
    rw [f_M_operands_L92] at hf
    have hD : va_D (aM h0 rw pt ou) (wM cI h0 rw pt ou y_th mR y_pf y_of y_sz y_bg) := dD hD0 rfl
    refine lv_aload_n hx hb d_M_operands_92 rfl (lv_at hl 0 rfl) ?_
    refine lv_aload_n hx hb d_M_operands_93 rfl (lv_at hl 0 rfl) ?_
    refine va_get (D := (dC, dI)) (ci := 1) (v := .ref (pt)) (C := "CodeWordsModel") (T := F_M) (N := 6) hx hb hts (in_M _) hown hK hP 0 rfl rfl 2 (by decide) (ht aw_441) (fun _ h9 => h9) rfl d_M_operands_94 ?_
    refine lv_iconst (v := 1) hx hb d_M_operands_97 (by decide) ?_
    obtain ⟨z_5, hf⟩ := ju_gd hf
    refine va_iald hx hb hK hP 2 0 rfl rfl z_5 d_M_operands_98 ?_
    obtain ⟨r_6, g_7, hf⟩ := Option.bind_eq_some_iff.mp hf
    refine va_callv (va_runV (As := [.int (y_pf (1 : Int32).toNatClampNeg)]) (rest := []) ⟨hx, hb, hml, hown, hts⟩ (c_M_register l (ad := ad) (sk := sk) (sv := sv) (tK := tK) dC dI cI h0 rw pt ou y_th y_pf y_of y_sz y_bg (y_pf (1 : Int32).toNatClampNeg)  r_6 g_7) (cwV 1 hts (aw_V aw_675 aw_677 aw_p35 aw_2 aw_678) rfl rfl rfl (by decide +kernel) ⟨Nat.le_of_ble_eq_true rfl, Nat.le_of_ble_eq_true rfl⟩) ⟨wBlind, va_recv hK hP (ci := 1) (q0 := 0) rfl rfl, fun U hU hW => ⟨rfl, by rw [hU]; exact hP, va_K.moved hW.alike hK, hD, hT.at hS hU hW (fun _ z => z)⟩⟩ rfl rfl hl.1 rfl (lv_room (Nat.le_of_ble_eq_true rfl)) d_M_operands_99 ⟨Nat.le_refl _, Nat.le_refl _⟩) hS (fun _ _ h => h) (fun _ h => h) (fun u t H1 locs ht1 hvm hw hB hz1 hk1 hS => ?_)
    rw [hw] at hB
    rw [ht1] at hB
    have hP : va_P (dC, dI) cls2 (wM cI h0 rw pt ou r_6.1 mR r_6.2.1 r_6.2.2.1 r_6.2.2.2.1 r_6.2.2.2.2) H1 := hB
    have hD : va_D (aM h0 rw pt ou) (wM cI h0 rw pt ou r_6.1 mR r_6.2.1 r_6.2.2.1 r_6.2.2.2.1 r_6.2.2.2.2) := dD hD0 rfl
    exact J102 x3 r_6.1 r_6.2.1 r_6.2.2.1 r_6.2.2.2.1 r_6.2.2.2.2 _ _ _ hP hS (lv_sub hl [0, 1, 2, 3] rfl) hf
  have J65 : ∀ (x3 : Int32) (y_th : Int32) (y_pf : (Nat → Int32)) (y_of : (Nat → Int32)) (y_sz : Int32) (y_bg : Int32) (H : Heap) (locs : List Loc) (ls : Array Slot), va_P (dC, dI) cls2 (wM cI h0 rw pt ou y_th mR y_pf y_of y_sz y_bg) H → va_S (aM h0 rw pt ou) s.heap H locs → lv_has ls 4 [(0, .ref (h0)), (1, .int (a0)), (2, .int (a1)), (3, .int (x3))] → f_M_operands_L65 w_th w_pf w_of w_sz w_bg a0 a1  x3 y_th y_pf y_of y_sz y_bg = some r → wW p l e (headSpec (Cond.code y_M_operands b_M_operands 4 (Option.none : Option FieldType) :: aw) ({ frames := 3, cells := 0, slots := 0, locals := 72 } : Room)).room s m ([.ref (h0), .int (a0), .int (a1)] : List Value).toArray below meth c (va_Qv (fun u => u = r) (fun (u : Int32 × (Nat → Int32) × (Nat → Int32) × Int32 × Int32) t => va_P (dC, dI) cls2 (wM cI h0 rw pt ou u.1 mR u.2.1 u.2.2.1 u.2.2.2.1 u.2.2.2.2) t.heap) (aM h0 rw pt ou)) (aM h0 rw pt ou) H locs (F0 m 65 ls []) := by
    intro x3 y_th y_pf y_of y_sz y_bg H locs ls hP hS hl hf
    rw [f_M_operands_L65] at hf
    have hD : va_D (aM h0 rw pt ou) (wM cI h0 rw pt ou y_th mR y_pf y_of y_sz y_bg) := dD hD0 rfl
    refine lv_iload_n hx hb d_M_operands_65 rfl (lv_at hl 1 rfl) ?_
    refine lv_iconst (v := 1) hx hb d_M_operands_66 (by decide) ?_
    refine lv_icmp_eq (tgt := 92) hx hb d_M_operands_67 (by decide) (fun c_4 => ?_) (fun c_4 => ?_)
    · replace hf := (if_pos c_4).symm.trans hf
      exact J92 x3 y_th y_pf y_of y_sz y_bg _ _ _ hP hS (lv_sub hl [0, 1, 2, 3] rfl) hf
    · replace hf := (if_neg c_4).symm.trans hf
      refine lv_iload_n hx hb d_M_operands_70 rfl (lv_at hl 1 rfl) ?_
      refine lv_iconst (v := 2) hx hb d_M_operands_71 (by decide) ?_
      refine lv_icmp_eq (tgt := 92) hx hb d_M_operands_72 (by decide) (fun c_47 => ?_) (fun c_47 => ?_)
      · replace hf := (if_pos c_47).symm.trans hf
        exact J92 x3 y_th y_pf y_of y_sz y_bg _ _ _ hP hS (lv_sub hl [0, 1, 2, 3] rfl) hf
      · replace hf := (if_neg c_47).symm.trans hf
        refine lv_iload_n hx hb d_M_operands_75 rfl (lv_at hl 1 rfl) ?_
        refine lv_iconst (v := 5) hx hb d_M_operands_76 (by decide) ?_
        refine lv_icmp_eq (tgt := 92) hx hb d_M_operands_77 (by decide) (fun c_48 => ?_) (fun c_48 => ?_)
        · replace hf := (if_pos c_48).symm.trans hf
          exact J92 x3 y_th y_pf y_of y_sz y_bg _ _ _ hP hS (lv_sub hl [0, 1, 2, 3] rfl) hf
        · replace hf := (if_neg c_48).symm.trans hf
          refine lv_iload_n hx hb d_M_operands_80 rfl (lv_at hl 1 rfl) ?_
          refine lv_bipush (v := 9) hx hb d_M_operands_81 (by decide) ?_
          refine lv_icmp_eq (tgt := 92) hx hb d_M_operands_83 (by decide) (fun c_49 => ?_) (fun c_49 => ?_)
          · replace hf := (if_pos c_49).symm.trans hf
            exact J92 x3 y_th y_pf y_of y_sz y_bg _ _ _ hP hS (lv_sub hl [0, 1, 2, 3] rfl) hf
          · replace hf := (if_neg c_49).symm.trans hf
            refine lv_iload_n hx hb d_M_operands_86 rfl (lv_at hl 1 rfl) ?_
            refine lv_bipush (v := 11) hx hb d_M_operands_87 (by decide) ?_
            refine lv_icmp_ne (tgt := 102) hx hb d_M_operands_89 (by decide) (fun c_50 => ?_) (fun c_50 => ?_)
            · replace hf := (if_neg c_50).symm.trans hf
              exact J102 x3 y_th y_pf y_of y_sz y_bg _ _ _ hP hS (lv_sub hl [0, 1, 2, 3] rfl) hf
            · replace hf := (if_pos c_50).symm.trans hf
              exact J92 x3 y_th y_pf y_of y_sz y_bg _ _ _ hP hS (lv_sub hl [0, 1, 2, 3] rfl) hf
  have J50 : ∀ (t0 : Int32) (y_th : Int32) (y_pf : (Nat → Int32)) (y_of : (Nat → Int32)) (y_sz : Int32) (y_bg : Int32) (H : Heap) (locs : List Loc) (ls : Array Slot), va_P (dC, dI) cls2 (wM cI h0 rw pt ou y_th mR y_pf y_of y_sz y_bg) H → va_S (aM h0 rw pt ou) s.heap H locs → lv_has ls 4 [(0, .ref (h0)), (1, .int (a0)), (2, .int (a1))] → f_M_operands_L50 w_th w_pf w_of w_sz w_bg a0 a1  t0 y_th y_pf y_of y_sz y_bg = some r → wW p l e (headSpec (Cond.code y_M_operands b_M_operands 4 (Option.none : Option FieldType) :: aw) ({ frames := 3, cells := 0, slots := 0, locals := 72 } : Room)).room s m ([.ref (h0), .int (a0), .int (a1)] : List Value).toArray below meth c (va_Qv (fun u => u = r) (fun (u : Int32 × (Nat → Int32) × (Nat → Int32) × Int32 × Int32) t => va_P (dC, dI) cls2 (wM cI h0 rw pt ou u.1 mR u.2.1 u.2.2.1 u.2.2.2.1 u.2.2.2.2) t.heap) (aM h0 rw pt ou)) (aM h0 rw pt ou) H locs (F0 m 50 ls [.int (t0)]) := by
    intro t0 y_th y_pf y_of y_sz y_bg H locs ls hP hS hl hf
    rw [f_M_operands_L50] at hf
    have hD : va_D (aM h0 rw pt ou) (wM cI h0 rw pt ou y_th mR y_pf y_of y_sz y_bg) := dD hD0 rfl
    refine lv_istore_n (lv' := [(3, .int (t0)), (0, .ref (h0)), (1, .int (a0)), (2, .int (a1))]) hx hb d_M_operands_50 rfl hl (by decide) rfl (fun ls hl => ?_)
    refine lv_iload_n hx hb d_M_operands_51 rfl (lv_at hl 0 rfl) ?_
    refine lv_if_eq (tgt := 65) hx hb d_M_operands_52 (by decide) (fun c_3 => ?_) (fun c_3 => ?_)
    · replace hf := (if_pos c_3).symm.trans hf
      exact J65 t0 y_th y_pf y_of y_sz y_bg _ _ _ hP hS (lv_sub hl [1, 2, 3, 0] rfl) hf
    · replace hf := (if_neg c_3).symm.trans hf
      refine lv_aload_n hx hb d_M_operands_55 rfl (lv_at hl 1 rfl) ?_
      refine lv_aload_n hx hb d_M_operands_56 rfl (lv_at hl 1 rfl) ?_
      refine va_get (D := (dC, dI)) (ci := 1) (v := .ref (pt)) (C := "CodeWordsModel") (T := F_M) (N := 6) hx hb hts (in_M _) hown hK hP 0 rfl rfl 2 (by decide) (ht aw_441) (fun _ h9 => h9) rfl d_M_operands_57 ?_
      refine lv_iconst (v := 0) hx hb d_M_operands_60 (by decide) ?_
      obtain ⟨z_51, hf⟩ := ju_gd hf
      refine va_iald hx hb hK hP 2 0 rfl rfl z_51 d_M_operands_61 ?_
      obtain ⟨r_52, g_53, hf⟩ := Option.bind_eq_some_iff.mp hf
      refine va_callv (va_runV (As := [.int (y_pf (0 : Int32).toNatClampNeg)]) (rest := []) ⟨hx, hb, hml, hown, hts⟩ (c_M_register l (ad := ad) (sk := sk) (sv := sv) (tK := tK) dC dI cI h0 rw pt ou y_th y_pf y_of y_sz y_bg (y_pf (0 : Int32).toNatClampNeg)  r_52 g_53) (cwV 1 hts (aw_V aw_675 aw_677 aw_p35 aw_2 aw_678) rfl rfl rfl (by decide +kernel) ⟨Nat.le_of_ble_eq_true rfl, Nat.le_of_ble_eq_true rfl⟩) ⟨wBlind, va_recv hK hP (ci := 1) (q0 := 0) rfl rfl, fun U hU hW => ⟨rfl, by rw [hU]; exact hP, va_K.moved hW.alike hK, hD, hT.at hS hU hW (fun _ z => z)⟩⟩ rfl rfl hl.1 rfl (lv_room (Nat.le_of_ble_eq_true rfl)) d_M_operands_62 ⟨Nat.le_refl _, Nat.le_refl _⟩) hS (fun _ _ h => h) (fun _ h => h) (fun u t H1 locs ht1 hvm hw hB hz1 hk1 hS => ?_)
      rw [hw] at hB
      rw [ht1] at hB
      have hP : va_P (dC, dI) cls2 (wM cI h0 rw pt ou r_52.1 mR r_52.2.1 r_52.2.2.1 r_52.2.2.2.1 r_52.2.2.2.2) H1 := hB
      have hD : va_D (aM h0 rw pt ou) (wM cI h0 rw pt ou r_52.1 mR r_52.2.1 r_52.2.2.1 r_52.2.2.2.1 r_52.2.2.2.2) := dD hD0 rfl
      exact J65 t0 r_52.1 r_52.2.1 r_52.2.2.1 r_52.2.2.2.1 r_52.2.2.2.2 _ _ _ hP hS (lv_sub hl [1, 2, 3, 0] rfl) hf
  have J45 : ∀ (y_th : Int32) (y_pf : (Nat → Int32)) (y_of : (Nat → Int32)) (y_sz : Int32) (y_bg : Int32) (H : Heap) (locs : List Loc) (ls : Array Slot), va_P (dC, dI) cls2 (wM cI h0 rw pt ou y_th mR y_pf y_of y_sz y_bg) H → va_S (aM h0 rw pt ou) s.heap H locs → lv_has ls 4 [(0, .ref (h0)), (1, .int (a0)), (2, .int (a1))] → f_M_operands_L45 w_th w_pf w_of w_sz w_bg a0 a1  y_th y_pf y_of y_sz y_bg = some r → wW p l e (headSpec (Cond.code y_M_operands b_M_operands 4 (Option.none : Option FieldType) :: aw) ({ frames := 3, cells := 0, slots := 0, locals := 72 } : Room)).room s m ([.ref (h0), .int (a0), .int (a1)] : List Value).toArray below meth c (va_Qv (fun u => u = r) (fun (u : Int32 × (Nat → Int32) × (Nat → Int32) × Int32 × Int32) t => va_P (dC, dI) cls2 (wM cI h0 rw pt ou u.1 mR u.2.1 u.2.2.1 u.2.2.2.1 u.2.2.2.2) t.heap) (aM h0 rw pt ou)) (aM h0 rw pt ou) H locs (F0 m 45 ls []) := by
    intro y_th y_pf y_of y_sz y_bg H locs ls hP hS hl hf
    rw [f_M_operands_L45] at hf
    have hD : va_D (aM h0 rw pt ou) (wM cI h0 rw pt ou y_th mR y_pf y_of y_sz y_bg) := dD hD0 rfl
    refine lv_iconst (v := 1) hx hb d_M_operands_45 (by decide) ?_
    refine lv_goto (tgt := 50) hx hb d_M_operands_46 (by decide) ?_
    exact J50 1 y_th y_pf y_of y_sz y_bg _ _ _ hP hS (lv_sub hl [0, 1, 2] rfl) hf
  have J9 : ∀ (y_th : Int32) (y_pf : (Nat → Int32)) (y_of : (Nat → Int32)) (y_sz : Int32) (y_bg : Int32) (H : Heap) (locs : List Loc) (ls : Array Slot), va_P (dC, dI) cls2 (wM cI h0 rw pt ou y_th mR y_pf y_of y_sz y_bg) H → va_S (aM h0 rw pt ou) s.heap H locs → lv_has ls 4 [(0, .ref (h0)), (1, .int (a0)), (2, .int (a1))] → f_M_operands_L9 w_th w_pf w_of w_sz w_bg a0 a1  y_th y_pf y_of y_sz y_bg = some r → wW p l e (headSpec (Cond.code y_M_operands b_M_operands 4 (Option.none : Option FieldType) :: aw) ({ frames := 3, cells := 0, slots := 0, locals := 72 } : Room)).room s m ([.ref (h0), .int (a0), .int (a1)] : List Value).toArray below meth c (va_Qv (fun u => u = r) (fun (u : Int32 × (Nat → Int32) × (Nat → Int32) × Int32 × Int32) t => va_P (dC, dI) cls2 (wM cI h0 rw pt ou u.1 mR u.2.1 u.2.2.1 u.2.2.2.1 u.2.2.2.2) t.heap) (aM h0 rw pt ou)) (aM h0 rw pt ou) H locs (F0 m 9 ls []) := by
    intro y_th y_pf y_of y_sz y_bg H locs ls hP hS hl hf
    rw [f_M_operands_L9] at hf
    have hD : va_D (aM h0 rw pt ou) (wM cI h0 rw pt ou y_th mR y_pf y_of y_sz y_bg) := dD hD0 rfl
    refine lv_iload_n hx hb d_M_operands_9 rfl (lv_at hl 1 rfl) ?_
    refine lv_bipush (v := 6) hx hb d_M_operands_10 (by decide) ?_
    refine lv_icmp_eq (tgt := 45) hx hb d_M_operands_12 (by decide) (fun c_2 => ?_) (fun c_2 => ?_)
    · replace hf := (if_pos c_2).symm.trans hf
      exact J45 y_th y_pf y_of y_sz y_bg _ _ _ hP hS (lv_sub hl [0, 1, 2] rfl) hf
    · replace hf := (if_neg c_2).symm.trans hf
      refine lv_iload_n hx hb d_M_operands_15 rfl (lv_at hl 1 rfl) ?_
      refine lv_bipush (v := 7) hx hb d_M_operands_16 (by decide) ?_
      refine lv_icmp_eq (tgt := 45) hx hb d_M_operands_18 (by decide) (fun c_54 => ?_) (fun c_54 => ?_)
      · replace hf := (if_pos c_54).symm.trans hf
        exact J45 y_th y_pf y_of y_sz y_bg _ _ _ hP hS (lv_sub hl [0, 1, 2] rfl) hf
      · replace hf := (if_neg c_54).symm.trans hf
        refine lv_iload_n hx hb d_M_operands_21 rfl (lv_at hl 1 rfl) ?_
        refine lv_bipush (v := 10) hx hb d_M_operands_22 (by decide) ?_
        refine lv_icmp_eq (tgt := 45) hx hb d_M_operands_24 (by decide) (fun c_55 => ?_) (fun c_55 => ?_)
        · replace hf := (if_pos c_55).symm.trans hf
          exact J45 y_th y_pf y_of y_sz y_bg _ _ _ hP hS (lv_sub hl [0, 1, 2] rfl) hf
        · replace hf := (if_neg c_55).symm.trans hf
          refine lv_iload_n hx hb d_M_operands_27 rfl (lv_at hl 1 rfl) ?_
          refine lv_bipush (v := 12) hx hb d_M_operands_28 (by decide) ?_
          refine lv_icmp_eq (tgt := 45) hx hb d_M_operands_30 (by decide) (fun c_56 => ?_) (fun c_56 => ?_)
          · replace hf := (if_pos c_56).symm.trans hf
            exact J45 y_th y_pf y_of y_sz y_bg _ _ _ hP hS (lv_sub hl [0, 1, 2] rfl) hf
          · replace hf := (if_neg c_56).symm.trans hf
            refine lv_iload_n hx hb d_M_operands_33 rfl (lv_at hl 1 rfl) ?_
            refine lv_bipush (v := 13) hx hb d_M_operands_34 (by decide) ?_
            refine lv_icmp_eq (tgt := 45) hx hb d_M_operands_36 (by decide) (fun c_57 => ?_) (fun c_57 => ?_)
            · replace hf := (if_pos c_57).symm.trans hf
              exact J45 y_th y_pf y_of y_sz y_bg _ _ _ hP hS (lv_sub hl [0, 1, 2] rfl) hf
            · replace hf := (if_neg c_57).symm.trans hf
              refine lv_iload_n hx hb d_M_operands_39 rfl (lv_at hl 1 rfl) ?_
              refine lv_bipush (v := 15) hx hb d_M_operands_40 (by decide) ?_
              refine lv_icmp_ne (tgt := 49) hx hb d_M_operands_42 (by decide) (fun c_58 => ?_) (fun c_58 => ?_)
              · replace hf := (if_neg c_58).symm.trans hf
                refine lv_iconst (v := 0) hx hb d_M_operands_49 (by decide) ?_
                exact J50 0 y_th y_pf y_of y_sz y_bg _ _ _ hP hS (lv_sub hl [0, 1, 2] rfl) hf
              · replace hf := (if_pos c_58).symm.trans hf
                exact J45 y_th y_pf y_of y_sz y_bg _ _ _ hP hS (lv_sub hl [0, 1, 2] rfl) hf
  rw [f_M_operands] at hf
  refine lv_iload_n hx hb d_M_operands_0 rfl (lv_at hl 1 rfl) ?_
  refine lv_if_le (tgt := 9) hx hb d_M_operands_1 (by decide) (fun c_1 => ?_) (fun c_1 => ?_)
  · replace hf := (if_pos c_1).symm.trans hf
    exact J9 w_th w_pf w_of w_sz w_bg _ _ _ hP hS (lv_sub hl [0, 1, 2] rfl) hf
  · replace hf := (if_neg c_1).symm.trans hf
    refine lv_iload_n hx hb d_M_operands_4 rfl (lv_at hl 1 rfl) ?_
    refine lv_iconst (v := 4) hx hb d_M_operands_5 (by decide) ?_
    refine lv_icmp_lt (tgt := 45) hx hb d_M_operands_6 (by decide) (fun c_59 => ?_) (fun c_59 => ?_)
    · replace hf := (if_pos c_59).symm.trans hf
      exact J45 w_th w_pf w_of w_sz w_bg _ _ _ hP hS (lv_sub hl [0, 1, 2] rfl) hf
    · replace hf := (if_neg c_59).symm.trans hf
      exact J9 w_th w_pf w_of w_sz w_bg _ _ _ hP hS (lv_sub hl [0, 1, 2] rfl) hf

def f_M_tell_L71 (w_th : Int32) (w_pf : Nat → Int32) (w_of : Nat → Int32) (w_sz : Int32) (w_bg : Int32) (a0 : Int32) (a1 : Int32)  (x3 : Int32) (t0 : Int64) (y_th : Int32) (y_pf : (Nat → Int32)) (y_of : (Nat → Int32)) (y_sz : Int32) (y_bg : Int32) : Option (Int32 × Int32 × (Nat → Int32) × (Nat → Int32) × Int32 × Int32) :=
  (f_M_sayName y_th y_pf y_of y_sz y_bg t0).bind fun r_9 => (f_M_say r_9.1 r_9.2.1 r_9.2.2.1 r_9.2.2.2.1 r_9.2.2.2.2 32).bind fun r_11 => (f_M_isLong a0).bind fun r_13 => if (bI r_13) = 0 then ((f_M_sayHexadecimal r_11.1 r_11.2.1 r_11.2.2.1 r_11.2.2.2.1 r_11.2.2.2.2 (a0 &&& 65535)).bind fun r_16 => some (r_16.2.2.2.1, r_16.1, r_16.2.1, r_16.2.2.1, r_16.2.2.2.1, r_16.2.2.2.2)) else ((f_M_sayHexadecimal r_11.1 r_11.2.1 r_11.2.2.1 r_11.2.2.2.1 r_11.2.2.2.2 a0).bind fun r_18 => some (r_18.2.2.2.1, r_18.1, r_18.2.1, r_18.2.2.1, r_18.2.2.2.1, r_18.2.2.2.2))
def f_M_tell (w_th : Int32) (w_pf : Nat → Int32) (w_of : Nat → Int32) (w_sz : Int32) (w_bg : Int32) (a0 : Int32) (a1 : Int32) : Option (Int32 × Int32 × (Nat → Int32) × (Nat → Int32) × Int32 × Int32) :=
  (f_M_find 0 w_pf w_of 0 0 a0).bind fun r_1 => if r_1.1 = ((-1)) then ((f_M_say r_1.2.1 r_1.2.2.1 r_1.2.2.2.1 r_1.2.2.2.2.1 r_1.2.2.2.2.2 46).bind fun r_4 => (f_M_isLong a0).bind fun r_6 => if (bI r_6) = 0 then (f_M_tell_L71 w_th w_pf w_of w_sz w_bg a0 a1  r_1.1 514086 r_4.1 r_4.2.1 r_4.2.2.1 r_4.2.2.2.1 r_4.2.2.2.2) else (f_M_tell_L71 w_th w_pf w_of w_sz w_bg a0 a1  r_1.1 1496724 r_4.1 r_4.2.1 r_4.2.2.1 r_4.2.2.2.1 r_4.2.2.2.2)) else ((f_M_nameOf r_1.1).bind fun r_20 => (f_M_sayName r_1.2.1 r_1.2.2.1 r_1.2.2.2.1 r_1.2.2.2.2.1 r_1.2.2.2.2.2 r_20).bind fun r_22 => (f_M_patternOf r_1.1).bind fun r_24 => (f_M_operands r_22.1 r_22.2.1 r_22.2.2.1 r_22.2.2.2.1 r_22.2.2.2.2 r_24 a1).bind fun r_26 => some (r_26.2.2.2.1, r_26.1, r_26.2.1, r_26.2.2.1, r_26.2.2.2.1, r_26.2.2.2.2))
set_option maxHeartbeats 1000000 in
set_option maxRecDepth 100000 in
theorem c_M_tell (l : Launch) {ad sk sv : Nat → Nat} {tK : Nat} (dC : Nat → ClassId) (dI : Nat → Nat → Nat) (cI : ClassId) (h0 rw pt ou : Nat) (w_th : Int32) (w_pf : Nat → Int32) (w_of : Nat → Int32) (w_sz : Int32) (w_bg : Int32) (a0 : Int32) (a1 : Int32)  (r : Int32 × Int32 × (Nat → Int32) × (Nat → Int32) × Int32 × Int32) (hf : f_M_tell w_th w_pf w_of w_sz w_bg a0 a1 = some r) : Met l y_M_tell (Cond.code y_M_tell b_M_tell 4 (Option.some FieldType.int) :: aw) ({ frames := 6, cells := 0, slots := 0, locals := 137 } : Room) (va_Pc [.ref (h0), .int (a0), .int (a1)] (fun U => va_P (dC, dI) cls2 (wM cI h0 rw pt ou w_th mR w_pf w_of w_sz w_bg) U.heap ∧ va_K (dC, dI) cls2 [(cI, .int)] U ∧ va_D (aM h0 rw pt ou) (wM cI h0 rw pt ou w_th mR w_pf w_of w_sz w_bg) ∧ tb ad sk sv tK (aM h0 rw pt ou) U U.heap)) (va_Qi (fun v u => v = r.1 ∧ u = r.2) (fun (u : Int32 × (Nat → Int32) × (Nat → Int32) × Int32 × Int32) t => va_P (dC, dI) cls2 (wM cI h0 rw pt ou u.1 mR u.2.1 u.2.2.1 u.2.2.2.1 u.2.2.2.2) t.heap) (aM h0 rw pt ou)) 0 0 (aM h0 rw pt ou) := by
  refine Met.ofW (cc := b_M_tell) (maxL := 4) (ret := (Option.some FieldType.int)) (by decide) rfl ?_
  intro p e s m args below meth c s₁ B hml hv
  obtain ⟨rfl, hP, hK, hD, hT⟩ := hv
  have hD0 := hD
  have hx := B.exec
  have hb := B.bytes
  have hr := B.returns
  have hts := atoms_spec (ws := (Cond.code y_M_tell b_M_tell 4 (Option.some FieldType.int) :: aw)) B.pre
  have ht : ∀ {w : Cond}, w ∈ aw → w.before ([.ref (h0), .int (a0), .int (a1)] : List Value).toArray s = true := fun h => hts _ (List.mem_cons_of_mem _ h)
  have hown : s.vm.findClass "CodeWordsModel" = some m.cls := findClass_of_methodNamed B.named
  have hlocks := B.notSynchronized
  have hS : va_S (aM h0 rw pt ou) s.heap s.heap [] := va_S.rf
  have hl := lv_entry ([.ref (h0), .int (a0), .int (a1)]) (n := 4) (Nat.le_of_ble_eq_true rfl)
  rw [lg_entry_eq]
  generalize (lg_sl ([.ref (h0), .int (a0), .int (a1)]) ++ List.replicate (4 - (lg_sl ([.ref (h0), .int (a0), .int (a1)])).length) Slot.unset).toArray = ls at hl ⊢
  have hl : lv_has ls 4 [(0, .ref (h0)), (1, .int (a0)), (2, .int (a1))] := hl
  have J71 : ∀ (x3 : Int32) (t0 : Int64) (y_th : Int32) (y_pf : (Nat → Int32)) (y_of : (Nat → Int32)) (y_sz : Int32) (y_bg : Int32) (H : Heap) (locs : List Loc) (ls : Array Slot), va_P (dC, dI) cls2 (wM cI h0 rw pt ou y_th mR y_pf y_of y_sz y_bg) H → va_S (aM h0 rw pt ou) s.heap H locs → lv_has ls 4 [(0, .ref (h0)), (1, .int (a0)), (2, .int (a1)), (3, .int (x3))] → f_M_tell_L71 w_th w_pf w_of w_sz w_bg a0 a1  x3 t0 y_th y_pf y_of y_sz y_bg = some r → wW p l e (headSpec (Cond.code y_M_tell b_M_tell 4 (Option.some FieldType.int) :: aw) ({ frames := 6, cells := 0, slots := 0, locals := 137 } : Room)).room s m ([.ref (h0), .int (a0), .int (a1)] : List Value).toArray below meth c (va_Qi (fun v u => v = r.1 ∧ u = r.2) (fun (u : Int32 × (Nat → Int32) × (Nat → Int32) × Int32 × Int32) t => va_P (dC, dI) cls2 (wM cI h0 rw pt ou u.1 mR u.2.1 u.2.2.1 u.2.2.2.1 u.2.2.2.2) t.heap) (aM h0 rw pt ou)) (aM h0 rw pt ou) H locs (F0 m 71 ls [.long (t0), .ref (h0)]) := by
    intro x3 t0 y_th y_pf y_of y_sz y_bg H locs ls hP hS hl hf
    rw [f_M_tell_L71] at hf
    have hD : va_D (aM h0 rw pt ou) (wM cI h0 rw pt ou y_th mR y_pf y_of y_sz y_bg) := dD hD0 rfl
    obtain ⟨r_9, g_10, hf⟩ := Option.bind_eq_some_iff.mp hf
    refine va_callv (va_runV (As := [.long (t0)]) (rest := []) ⟨hx, hb, hml, hown, hts⟩ (c_M_sayName l (ad := ad) (sk := sk) (sv := sv) (tK := tK) dC dI cI h0 rw pt ou y_th y_pf y_of y_sz y_bg t0  r_9 g_10) (cwV 1 hts (aw_V aw_656 aw_658 aw_p32 aw_2 aw_659) rfl rfl rfl (by decide +kernel) ⟨Nat.le_of_ble_eq_true rfl, Nat.le_of_ble_eq_true rfl⟩) ⟨wBlind, va_recv hK hP (ci := 1) (q0 := 0) rfl rfl, fun U hU hW => ⟨rfl, by rw [hU]; exact hP, va_K.moved hW.alike hK, hD, hT.at hS hU hW (fun _ z => z)⟩⟩ rfl rfl hl.1 rfl (lv_room (Nat.le_of_ble_eq_true rfl)) d_M_tell_71 ⟨Nat.le_refl _, Nat.le_refl _⟩) hS (fun _ _ h => h) (fun _ h => h) (fun u t H1 locs ht1 hvm hw hB hz1 hk1 hS => ?_)
    rw [hw] at hB
    rw [ht1] at hB
    have hP : va_P (dC, dI) cls2 (wM cI h0 rw pt ou r_9.1 mR r_9.2.1 r_9.2.2.1 r_9.2.2.2.1 r_9.2.2.2.2) H1 := hB
    have hD : va_D (aM h0 rw pt ou) (wM cI h0 rw pt ou r_9.1 mR r_9.2.1 r_9.2.2.1 r_9.2.2.2.1 r_9.2.2.2.2) := dD hD0 rfl
    refine lv_aload_n hx hb d_M_tell_74 rfl (lv_at hl 0 rfl) ?_
    refine lv_bipush (v := 32) hx hb d_M_tell_75 (by decide) ?_
    obtain ⟨r_11, g_12, hf⟩ := Option.bind_eq_some_iff.mp hf
    refine va_callv (va_runV (As := [.int (32)]) (rest := []) ⟨hx, hb, hml, hown, hts⟩ (c_M_say l (ad := ad) (sk := sk) (sv := sv) (tK := tK) dC dI cI h0 rw pt ou r_9.1 r_9.2.1 r_9.2.2.1 r_9.2.2.2.1 r_9.2.2.2.2 32  r_11 g_12) (cwV 1 hts (aw_V aw_664 aw_666 aw_p33 aw_2 aw_667) rfl rfl rfl (by decide +kernel) ⟨Nat.le_of_ble_eq_true rfl, Nat.le_of_ble_eq_true rfl⟩) ⟨wBlind, va_recv hK hP (ci := 1) (q0 := 0) rfl rfl, fun U hU hW => ⟨rfl, by rw [hU]; exact hP, va_K.moved hW.alike hK, hD, hT.at hS hU hW (fun _ z => z)⟩⟩ rfl rfl hl.1 rfl (lv_room (Nat.le_of_ble_eq_true rfl)) d_M_tell_77 ⟨Nat.le_refl _, Nat.le_refl _⟩) hS (fun _ _ h => h) (fun _ h => h) (fun u t H1 locs ht1 hvm hw hB hz1 hk1 hS => ?_)
    rw [hw] at hB
    rw [ht1] at hB
    have hP : va_P (dC, dI) cls2 (wM cI h0 rw pt ou r_11.1 mR r_11.2.1 r_11.2.2.1 r_11.2.2.2.1 r_11.2.2.2.2) H1 := hB
    have hD : va_D (aM h0 rw pt ou) (wM cI h0 rw pt ou r_11.1 mR r_11.2.1 r_11.2.2.1 r_11.2.2.2.1 r_11.2.2.2.2) := dD hD0 rfl
    refine lv_aload_n hx hb d_M_tell_80 rfl (lv_at hl 0 rfl) ?_
    refine lv_iload_n hx hb d_M_tell_81 rfl (lv_at hl 1 rfl) ?_
    obtain ⟨r_13, g_14, hf⟩ := Option.bind_eq_some_iff.mp hf
    refine ju_calli (W.runS (As := [.int (a0)]) (rest := [.ref (h0)]) ⟨hx, hb, hml, hown, hts⟩ (c_M_isLong l (ad := ad) (sk := sk) (sv := sv) (tK := tK)  a0  r_13 g_14) (va_cwS 1 hts (aw_S aw_528 aw_529 aw_2 aw_530) rfl rfl rfl (by decide +kernel) ⟨Nat.le_of_ble_eq_true rfl, Nat.le_of_ble_eq_true rfl⟩) ⟨fun a U g mk q => ⟨q.1, q.2.call⟩, fun U hU hW => ⟨rfl, hT.at hS hU hW (fun _ z => z.elim)⟩⟩ rfl rfl hl.1 rfl (lv_room (Nat.le_of_ble_eq_true rfl)) d_M_tell_82 ⟨Nat.le_refl _, Nat.le_refl _⟩) ?_
    refine lv_if_eq (tgt := 92) hx hb d_M_tell_85 (by decide) (fun c_15 => ?_) (fun c_15 => ?_)
    · replace hf := (if_pos c_15).symm.trans hf
      refine lv_iload_n hx hb d_M_tell_92 rfl (lv_at hl 1 rfl) ?_
      refine lv_ldcw (v := 65535) hx hb hown (ht aw_742) d_M_tell_93 ?_
      refine lv_iand hx hb d_M_tell_96 ?_
      obtain ⟨r_16, g_17, hf⟩ := Option.bind_eq_some_iff.mp hf
      refine va_callv (va_runV (As := [.int (a0 &&& 65535)]) (rest := []) ⟨hx, hb, hml, hown, hts⟩ (c_M_sayHexadecimal l (ad := ad) (sk := sk) (sv := sv) (tK := tK) dC dI cI h0 rw pt ou r_11.1 r_11.2.1 r_11.2.2.1 r_11.2.2.2.1 r_11.2.2.2.2 (a0 &&& 65535)  r_16 g_17) (cwV 1 hts (aw_V aw_736 aw_738 aw_p41 aw_2 aw_739) rfl rfl rfl (by decide +kernel) ⟨Nat.le_of_ble_eq_true rfl, Nat.le_of_ble_eq_true rfl⟩) ⟨wBlind, va_recv hK hP (ci := 1) (q0 := 0) rfl rfl, fun U hU hW => ⟨rfl, by rw [hU]; exact hP, va_K.moved hW.alike hK, hD, hT.at hS hU hW (fun _ z => z)⟩⟩ rfl rfl hl.1 rfl (lv_room (Nat.le_of_ble_eq_true rfl)) d_M_tell_97 ⟨Nat.le_refl _, Nat.le_refl _⟩) hS (fun _ _ h => h) (fun _ h => h) (fun u t H1 locs ht1 hvm hw hB hz1 hk1 hS => ?_)
      rw [hw] at hB
      rw [ht1] at hB
      have hP : va_P (dC, dI) cls2 (wM cI h0 rw pt ou r_16.1 mR r_16.2.1 r_16.2.2.1 r_16.2.2.2.1 r_16.2.2.2.2) H1 := hB
      have hD : va_D (aM h0 rw pt ou) (wM cI h0 rw pt ou r_16.1 mR r_16.2.1 r_16.2.2.1 r_16.2.2.2.1 r_16.2.2.2.2) := dD hD0 rfl
      refine lv_aload_n hx hb d_M_tell_100 rfl (lv_at hl 0 rfl) ?_
      refine va_get (D := (dC, dI)) (ci := 1) (v := .int (r_16.2.2.2.1)) (C := "CodeWordsModel") (T := F_M) (N := 6) hx hb hts (in_M _) hown hK hP 0 rfl rfl 4 (by decide) (ht aw_443) (fun _ h9 => h9) rfl d_M_tell_101 ?_
      exact W.iret (v := r_16.2.2.2.1) hx hb hr (fun t ht hW => ⟨⟨_, (r_16.1, r_16.2.1, r_16.2.2.1, r_16.2.2.2.1, r_16.2.2.2.2), rfl, ⟨congrArg (fun z => z.1) (Option.some.inj hf), congrArg (fun z => z.2) (Option.some.inj hf)⟩, by rw [← ht] at hP; exact hP⟩, hS.F ht⟩) hS.2.2 d_M_tell_104
    · replace hf := (if_neg c_15).symm.trans hf
      refine lv_iload_n hx hb d_M_tell_88 rfl (lv_at hl 1 rfl) ?_
      refine lv_goto (tgt := 97) hx hb d_M_tell_89 (by decide) ?_
      obtain ⟨r_18, g_19, hf⟩ := Option.bind_eq_some_iff.mp hf
      refine va_callv (va_runV (As := [.int (a0)]) (rest := []) ⟨hx, hb, hml, hown, hts⟩ (c_M_sayHexadecimal l (ad := ad) (sk := sk) (sv := sv) (tK := tK) dC dI cI h0 rw pt ou r_11.1 r_11.2.1 r_11.2.2.1 r_11.2.2.2.1 r_11.2.2.2.2 a0  r_18 g_19) (cwV 1 hts (aw_V aw_736 aw_738 aw_p41 aw_2 aw_739) rfl rfl rfl (by decide +kernel) ⟨Nat.le_of_ble_eq_true rfl, Nat.le_of_ble_eq_true rfl⟩) ⟨wBlind, va_recv hK hP (ci := 1) (q0 := 0) rfl rfl, fun U hU hW => ⟨rfl, by rw [hU]; exact hP, va_K.moved hW.alike hK, hD, hT.at hS hU hW (fun _ z => z)⟩⟩ rfl rfl hl.1 rfl (lv_room (Nat.le_of_ble_eq_true rfl)) d_M_tell_97 ⟨Nat.le_refl _, Nat.le_refl _⟩) hS (fun _ _ h => h) (fun _ h => h) (fun u t H1 locs ht1 hvm hw hB hz1 hk1 hS => ?_)
      rw [hw] at hB
      rw [ht1] at hB
      have hP : va_P (dC, dI) cls2 (wM cI h0 rw pt ou r_18.1 mR r_18.2.1 r_18.2.2.1 r_18.2.2.2.1 r_18.2.2.2.2) H1 := hB
      have hD : va_D (aM h0 rw pt ou) (wM cI h0 rw pt ou r_18.1 mR r_18.2.1 r_18.2.2.1 r_18.2.2.2.1 r_18.2.2.2.2) := dD hD0 rfl
      refine lv_aload_n hx hb d_M_tell_100 rfl (lv_at hl 0 rfl) ?_
      refine va_get (D := (dC, dI)) (ci := 1) (v := .int (r_18.2.2.2.1)) (C := "CodeWordsModel") (T := F_M) (N := 6) hx hb hts (in_M _) hown hK hP 0 rfl rfl 4 (by decide) (ht aw_443) (fun _ h9 => h9) rfl d_M_tell_101 ?_
      exact W.iret (v := r_18.2.2.2.1) hx hb hr (fun t ht hW => ⟨⟨_, (r_18.1, r_18.2.1, r_18.2.2.1, r_18.2.2.2.1, r_18.2.2.2.2), rfl, ⟨congrArg (fun z => z.1) (Option.some.inj hf), congrArg (fun z => z.2) (Option.some.inj hf)⟩, by rw [← ht] at hP; exact hP⟩, hS.F ht⟩) hS.2.2 d_M_tell_104
  rw [f_M_tell] at hf
  refine lv_aload_n hx hb d_M_tell_0 rfl (lv_at hl 0 rfl) ?_
  refine lv_iconst (v := 0) hx hb d_M_tell_1 (by decide) ?_
  refine va_put (D := (dC, dI)) (ci := 1) (v := .int (0)) (ty := .int) (C := "CodeWordsModel") (T := F_M) (N := 6) hx hb hts (in_M _) ty_M tyok_M nm_M hown hK hP hD hS 0 rfl rfl 0 (by decide) (ht aw_439) (fun _ h9 => h9) rfl (by decide +kernel) rfl rfl (Nat.le_of_ble_eq_true rfl) d_M_tell_2 (fun H locs hP hD hS => ?_)
  have hP : va_P (dC, dI) cls2 (wM cI h0 rw pt ou 0 mR w_pf w_of w_sz w_bg) H := hP
  have hD : va_D (aM h0 rw pt ou) (wM cI h0 rw pt ou 0 mR w_pf w_of w_sz w_bg) := hD
  refine lv_aload_n hx hb d_M_tell_5 rfl (lv_at hl 0 rfl) ?_
  refine lv_iconst (v := 0) hx hb d_M_tell_6 (by decide) ?_
  refine va_put (D := (dC, dI)) (ci := 1) (v := .int (0)) (ty := .int) (C := "CodeWordsModel") (T := F_M) (N := 6) hx hb hts (in_M _) ty_M tyok_M nm_M hown hK hP hD hS 0 rfl rfl 4 (by decide) (ht aw_443) (fun _ h9 => h9) rfl (by decide +kernel) rfl rfl (Nat.le_of_ble_eq_true rfl) d_M_tell_7 (fun H locs hP hD hS => ?_)
  have hP : va_P (dC, dI) cls2 (wM cI h0 rw pt ou 0 mR w_pf w_of 0 w_bg) H := hP
  have hD : va_D (aM h0 rw pt ou) (wM cI h0 rw pt ou 0 mR w_pf w_of 0 w_bg) := hD
  refine lv_aload_n hx hb d_M_tell_10 rfl (lv_at hl 0 rfl) ?_
  refine lv_iconst (v := 0) hx hb d_M_tell_11 (by decide) ?_
  refine va_put (D := (dC, dI)) (ci := 1) (v := .int (0)) (ty := .boolean) (C := "CodeWordsModel") (T := F_M) (N := 6) hx hb hts (in_M _) ty_M tyok_M nm_M hown hK hP hD hS 0 rfl rfl 5 (by decide) (ht aw_444) (fun _ h9 => h9) rfl (by decide +kernel) rfl rfl (Nat.le_of_ble_eq_true rfl) d_M_tell_12 (fun H locs hP hD hS => ?_)
  have hP : va_P (dC, dI) cls2 (wM cI h0 rw pt ou 0 mR w_pf w_of 0 0) H := hP
  have hD : va_D (aM h0 rw pt ou) (wM cI h0 rw pt ou 0 mR w_pf w_of 0 0) := hD
  refine lv_aload_n hx hb d_M_tell_15 rfl (lv_at hl 0 rfl) ?_
  refine lv_iload_n hx hb d_M_tell_16 rfl (lv_at hl 1 rfl) ?_
  obtain ⟨r_1, g_2, hf⟩ := Option.bind_eq_some_iff.mp hf
  refine va_calli (va_runV (As := [.int (a0)]) (rest := []) ⟨hx, hb, hml, hown, hts⟩ (c_M_find l (ad := ad) (sk := sk) (sv := sv) (tK := tK) dC dI cI h0 rw pt ou 0 w_pf w_of 0 0 a0  r_1 g_2) (cwV 1 hts (aw_V aw_524 aw_526 aw_p28 aw_2 aw_527) rfl rfl rfl (by decide +kernel) ⟨Nat.le_of_ble_eq_true rfl, Nat.le_of_ble_eq_true rfl⟩) ⟨wBlind, va_recv hK hP (ci := 1) (q0 := 0) rfl rfl, fun U hU hW => ⟨rfl, by rw [hU]; exact hP, va_K.moved hW.alike hK, hD, hT.at hS hU hW (fun _ z => z)⟩⟩ rfl rfl hl.1 rfl (lv_room (Nat.le_of_ble_eq_true rfl)) d_M_tell_17 ⟨Nat.le_refl _, Nat.le_refl _⟩) hS (fun _ _ h => h) (fun _ h => h) (fun v1 u t H1 locs ht1 hvm hw hB hz1 hk1 hS => ?_)
  obtain ⟨hw1, hw2⟩ := hw
  rw [hw1]
  rw [hw2] at hB
  rw [ht1] at hB
  have hP : va_P (dC, dI) cls2 (wM cI h0 rw pt ou r_1.2.1 mR r_1.2.2.1 r_1.2.2.2.1 r_1.2.2.2.2.1 r_1.2.2.2.2.2) H1 := hB
  have hD : va_D (aM h0 rw pt ou) (wM cI h0 rw pt ou r_1.2.1 mR r_1.2.2.1 r_1.2.2.2.1 r_1.2.2.2.2.1 r_1.2.2.2.2.2) := dD hD0 rfl
  refine lv_istore_n (lv' := [(3, .int (r_1.1)), (0, .ref (h0)), (1, .int (a0)), (2, .int (a1))]) hx hb d_M_tell_20 rfl hl (by decide) rfl (fun ls hl => ?_)
  refine lv_iload_n hx hb d_M_tell_21 rfl (lv_at hl 0 rfl) ?_
  refine lv_iconst (v := (-1)) hx hb d_M_tell_22 (by decide) ?_
  refine lv_icmp_eq (tgt := 48) hx hb d_M_tell_23 (by decide) (fun c_3 => ?_) (fun c_3 => ?_)
  · replace hf := (if_pos c_3).symm.trans hf
    refine lv_aload_n hx hb d_M_tell_48 rfl (lv_at hl 1 rfl) ?_
    refine lv_bipush (v := 46) hx hb d_M_tell_49 (by decide) ?_
    obtain ⟨r_4, g_5, hf⟩ := Option.bind_eq_some_iff.mp hf
    refine va_callv (va_runV (As := [.int (46)]) (rest := []) ⟨hx, hb, hml, hown, hts⟩ (c_M_say l (ad := ad) (sk := sk) (sv := sv) (tK := tK) dC dI cI h0 rw pt ou r_1.2.1 r_1.2.2.1 r_1.2.2.2.1 r_1.2.2.2.2.1 r_1.2.2.2.2.2 46  r_4 g_5) (cwV 1 hts (aw_V aw_664 aw_666 aw_p33 aw_2 aw_667) rfl rfl rfl (by decide +kernel) ⟨Nat.le_of_ble_eq_true rfl, Nat.le_of_ble_eq_true rfl⟩) ⟨wBlind, va_recv hK hP (ci := 1) (q0 := 0) rfl rfl, fun U hU hW => ⟨rfl, by rw [hU]; exact hP, va_K.moved hW.alike hK, hD, hT.at hS hU hW (fun _ z => z)⟩⟩ rfl rfl hl.1 rfl (lv_room (Nat.le_of_ble_eq_true rfl)) d_M_tell_51 ⟨Nat.le_refl _, Nat.le_refl _⟩) hS (fun _ _ h => h) (fun _ h => h) (fun u t H1 locs ht1 hvm hw hB hz1 hk1 hS => ?_)
    rw [hw] at hB
    rw [ht1] at hB
    have hP : va_P (dC, dI) cls2 (wM cI h0 rw pt ou r_4.1 mR r_4.2.1 r_4.2.2.1 r_4.2.2.2.1 r_4.2.2.2.2) H1 := hB
    have hD : va_D (aM h0 rw pt ou) (wM cI h0 rw pt ou r_4.1 mR r_4.2.1 r_4.2.2.1 r_4.2.2.2.1 r_4.2.2.2.2) := dD hD0 rfl
    refine lv_aload_n hx hb d_M_tell_54 rfl (lv_at hl 1 rfl) ?_
    refine lv_iload_n hx hb d_M_tell_55 rfl (lv_at hl 2 rfl) ?_
    obtain ⟨r_6, g_7, hf⟩ := Option.bind_eq_some_iff.mp hf
    refine ju_calli (W.runS (As := [.int (a0)]) (rest := [.ref (h0)]) ⟨hx, hb, hml, hown, hts⟩ (c_M_isLong l (ad := ad) (sk := sk) (sv := sv) (tK := tK)  a0  r_6 g_7) (va_cwS 1 hts (aw_S aw_528 aw_529 aw_2 aw_530) rfl rfl rfl (by decide +kernel) ⟨Nat.le_of_ble_eq_true rfl, Nat.le_of_ble_eq_true rfl⟩) ⟨fun a U g mk q => ⟨q.1, q.2.call⟩, fun U hU hW => ⟨rfl, hT.at hS hU hW (fun _ z => z.elim)⟩⟩ rfl rfl hl.1 rfl (lv_room (Nat.le_of_ble_eq_true rfl)) d_M_tell_56 ⟨Nat.le_refl _, Nat.le_refl _⟩) ?_
    refine lv_if_eq (tgt := 68) hx hb d_M_tell_59 (by decide) (fun c_8 => ?_) (fun c_8 => ?_)
    · replace hf := (if_pos c_8).symm.trans hf
      refine lv_ldc2 (v := 514086) hx hb hown (ht aw_741) d_M_tell_68 ?_
      exact J71 r_1.1 514086 r_4.1 r_4.2.1 r_4.2.2.1 r_4.2.2.2.1 r_4.2.2.2.2 _ _ _ hP hS (lv_sub hl [1, 2, 3, 0] rfl) hf
    · replace hf := (if_neg c_8).symm.trans hf
      refine lv_ldc2 (v := 1496724) hx hb hown (ht aw_740) d_M_tell_62 ?_
      refine lv_goto (tgt := 71) hx hb d_M_tell_65 (by decide) ?_
      exact J71 r_1.1 1496724 r_4.1 r_4.2.1 r_4.2.2.1 r_4.2.2.2.1 r_4.2.2.2.2 _ _ _ hP hS (lv_sub hl [1, 2, 3, 0] rfl) hf
  · replace hf := (if_neg c_3).symm.trans hf
    refine lv_aload_n hx hb d_M_tell_26 rfl (lv_at hl 1 rfl) ?_
    refine lv_iload_n hx hb d_M_tell_27 rfl (lv_at hl 0 rfl) ?_
    obtain ⟨r_20, g_21, hf⟩ := Option.bind_eq_some_iff.mp hf
    refine ju_calll (W.runS (As := [.int (r_1.1)]) (rest := [.ref (h0)]) ⟨hx, hb, hml, hown, hts⟩ (c_M_nameOf l (ad := ad) (sk := sk) (sv := sv) (tK := tK)  r_1.1  r_20 g_21) (va_cwS 1 hts (aw_S aw_578 aw_579 aw_2 aw_580) rfl rfl rfl (by decide +kernel) ⟨Nat.le_of_ble_eq_true rfl, Nat.le_of_ble_eq_true rfl⟩) ⟨fun a U g mk q => ⟨q.1, q.2.call⟩, fun U hU hW => ⟨rfl, hT.at hS hU hW (fun _ z => z.elim)⟩⟩ rfl rfl hl.1 rfl (lv_room (Nat.le_of_ble_eq_true rfl)) d_M_tell_28 ⟨Nat.le_refl _, Nat.le_refl _⟩) ?_
    obtain ⟨r_22, g_23, hf⟩ := Option.bind_eq_some_iff.mp hf
    refine va_callv (va_runV (As := [.long (r_20)]) (rest := []) ⟨hx, hb, hml, hown, hts⟩ (c_M_sayName l (ad := ad) (sk := sk) (sv := sv) (tK := tK) dC dI cI h0 rw pt ou r_1.2.1 r_1.2.2.1 r_1.2.2.2.1 r_1.2.2.2.2.1 r_1.2.2.2.2.2 r_20  r_22 g_23) (cwV 1 hts (aw_V aw_656 aw_658 aw_p32 aw_2 aw_659) rfl rfl rfl (by decide +kernel) ⟨Nat.le_of_ble_eq_true rfl, Nat.le_of_ble_eq_true rfl⟩) ⟨wBlind, va_recv hK hP (ci := 1) (q0 := 0) rfl rfl, fun U hU hW => ⟨rfl, by rw [hU]; exact hP, va_K.moved hW.alike hK, hD, hT.at hS hU hW (fun _ z => z)⟩⟩ rfl rfl hl.1 rfl (lv_room (Nat.le_of_ble_eq_true rfl)) d_M_tell_31 ⟨Nat.le_refl _, Nat.le_refl _⟩) hS (fun _ _ h => h) (fun _ h => h) (fun u t H1 locs ht1 hvm hw hB hz1 hk1 hS => ?_)
    rw [hw] at hB
    rw [ht1] at hB
    have hP : va_P (dC, dI) cls2 (wM cI h0 rw pt ou r_22.1 mR r_22.2.1 r_22.2.2.1 r_22.2.2.2.1 r_22.2.2.2.2) H1 := hB
    have hD : va_D (aM h0 rw pt ou) (wM cI h0 rw pt ou r_22.1 mR r_22.2.1 r_22.2.2.1 r_22.2.2.2.1 r_22.2.2.2.2) := dD hD0 rfl
    refine lv_aload_n hx hb d_M_tell_34 rfl (lv_at hl 1 rfl) ?_
    refine lv_iload_n hx hb d_M_tell_35 rfl (lv_at hl 0 rfl) ?_
    obtain ⟨r_24, g_25, hf⟩ := Option.bind_eq_some_iff.mp hf
    refine ju_calli (W.runS (As := [.int (r_1.1)]) (rest := [.ref (h0)]) ⟨hx, hb, hml, hown, hts⟩ (c_M_patternOf l (ad := ad) (sk := sk) (sv := sv) (tK := tK)  r_1.1  r_24 g_25) (va_cwS 1 hts (aw_S aw_668 aw_669 aw_2 aw_670) rfl rfl rfl (by decide +kernel) ⟨Nat.le_of_ble_eq_true rfl, Nat.le_of_ble_eq_true rfl⟩) ⟨fun a U g mk q => ⟨q.1, q.2.call⟩, fun U hU hW => ⟨rfl, hT.at hS hU hW (fun _ z => z.elim)⟩⟩ rfl rfl hl.1 rfl (lv_room (Nat.le_of_ble_eq_true rfl)) d_M_tell_36 ⟨Nat.le_refl _, Nat.le_refl _⟩) ?_
    refine lv_iload_n hx hb d_M_tell_39 rfl (lv_at hl 3 rfl) ?_
    obtain ⟨r_26, g_27, hf⟩ := Option.bind_eq_some_iff.mp hf
    refine va_callv (va_runV (As := [.int (r_24), .int (a1)]) (rest := []) ⟨hx, hb, hml, hown, hts⟩ (c_M_operands l (ad := ad) (sk := sk) (sv := sv) (tK := tK) dC dI cI h0 rw pt ou r_22.1 r_22.2.1 r_22.2.2.1 r_22.2.2.2.1 r_22.2.2.2.2 r_24 a1  r_26 g_27) (cwV 2 hts (aw_V aw_671 aw_673 aw_p34 aw_2 aw_674) rfl rfl rfl (by decide +kernel) ⟨Nat.le_of_ble_eq_true rfl, Nat.le_of_ble_eq_true rfl⟩) ⟨wBlind, va_recv hK hP (ci := 1) (q0 := 0) rfl rfl, fun U hU hW => ⟨rfl, by rw [hU]; exact hP, va_K.moved hW.alike hK, hD, hT.at hS hU hW (fun _ z => z)⟩⟩ rfl rfl hl.1 rfl (lv_room (Nat.le_of_ble_eq_true rfl)) d_M_tell_40 ⟨Nat.le_refl _, Nat.le_refl _⟩) hS (fun _ _ h => h) (fun _ h => h) (fun u t H1 locs ht1 hvm hw hB hz1 hk1 hS => ?_)
    rw [hw] at hB
    rw [ht1] at hB
    have hP : va_P (dC, dI) cls2 (wM cI h0 rw pt ou r_26.1 mR r_26.2.1 r_26.2.2.1 r_26.2.2.2.1 r_26.2.2.2.2) H1 := hB
    have hD : va_D (aM h0 rw pt ou) (wM cI h0 rw pt ou r_26.1 mR r_26.2.1 r_26.2.2.1 r_26.2.2.2.1 r_26.2.2.2.2) := dD hD0 rfl
    refine lv_aload_n hx hb d_M_tell_43 rfl (lv_at hl 1 rfl) ?_
    refine va_get (D := (dC, dI)) (ci := 1) (v := .int (r_26.2.2.2.1)) (C := "CodeWordsModel") (T := F_M) (N := 6) hx hb hts (in_M _) hown hK hP 0 rfl rfl 4 (by decide) (ht aw_443) (fun _ h9 => h9) rfl d_M_tell_44 ?_
    exact W.iret (v := r_26.2.2.2.1) hx hb hr (fun t ht hW => ⟨⟨_, (r_26.1, r_26.2.1, r_26.2.2.1, r_26.2.2.2.1, r_26.2.2.2.2), rfl, ⟨congrArg (fun z => z.1) (Option.some.inj hf), congrArg (fun z => z.2) (Option.some.inj hf)⟩, by rw [← ht] at hP; exact hP⟩, hS.F ht⟩) hS.2.2 d_M_tell_47

