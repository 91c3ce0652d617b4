def f_M_take_L189 (w_th : Int32) (w_pf : Nat → Int32) (w_of : Nat → Int32) (w_sz : Int32) (w_bg : Int32) (a0 : Int32) (a1 : Int32)  (x3 : Int32) (y_th : Int32) (y_pf : (Nat → Int32)) (y_of : (Nat → Int32)) (y_sz : Int32) (y_bg : Int32) : Option (Bool × Int32 × (Nat → Int32) × (Nat → Int32) × Int32 × Int32) :=
  if a0 = 56 then (if (3 : Int32) < 0 ∨ 4 ≤ (3 : Int32).toNatClampNeg then none else if (3 : Int32) < 0 ∨ 4 ≤ (3 : Int32).toNatClampNeg then none else (f_M_areGood y_th (upd y_pf (3 : Int32).toNatClampNeg ((y_pf (3 : Int32).toNatClampNeg) &&& 1048575)) y_of y_sz y_bg a0).bind fun r_13 => some (r_13, y_th, upd y_pf (3 : Int32).toNatClampNeg ((y_pf (3 : Int32).toNatClampNeg) &&& 1048575), y_of, y_sz, y_bg)) else ((f_M_areGood y_th y_pf y_of y_sz y_bg a0).bind fun r_9 => some (r_9, y_th, y_pf, y_of, y_sz, y_bg))
def f_M_take_L121 (w_th : Int32) (w_pf : Nat → Int32) (w_of : Nat → Int32) (w_sz : Int32) (w_bg : Int32) (a0 : Int32) (a1 : Int32) (k41 : Int32 → Int32 → (Nat → Int32) → (Nat → Int32) → Int32 → Int32 → Option (Bool × Int32 × (Nat → Int32) × (Nat → Int32) × Int32 × Int32)) (x3 : Int32) (x4 : Int32) (x5 : Int32) (y_th : Int32) (y_pf : (Nat → Int32)) (y_of : (Nat → Int32)) (y_sz : Int32) (y_bg : Int32) : Option (Bool × Int32 × (Nat → Int32) × (Nat → Int32) × Int32 × Int32) :=
  if x4 < 500 then (k41 (x3 + 1) y_th y_pf y_of y_sz y_bg) else (if ((x4 / 100) - 5) < 0 ∨ 4 ≤ ((x4 / 100) - 5).toNatClampNeg then none else if ((x4 / 100) - 5) < 0 ∨ 4 ≤ ((x4 / 100) - 5).toNatClampNeg then none else k41 (x3 + 1) y_th (upd y_pf ((x4 / 100) - 5).toNatClampNeg ((y_pf ((x4 / 100) - 5).toNatClampNeg) + (x5 <<< ((x4 - x4 / 100 * 100) &&& 31)))) y_of y_sz y_bg)
def f_M_take_L84 (w_th : Int32) (w_pf : Nat → Int32) (w_of : Nat → Int32) (w_sz : Int32) (w_bg : Int32) (a0 : Int32) (a1 : Int32) (k41 : Int32 → Int32 → (Nat → Int32) → (Nat → Int32) → Int32 → Int32 → Option (Bool × Int32 × (Nat → Int32) × (Nat → Int32) × Int32 × Int32)) (x3 : Int32) (x4 : Int32) (x5 : Int32) (y_th : Int32) (y_pf : (Nat → Int32)) (y_of : (Nat → Int32)) (y_sz : Int32) (y_bg : Int32) : Option (Bool × Int32 × (Nat → Int32) × (Nat → Int32) × Int32 × Int32) :=
  if x4 ≤ 1 then (f_M_take_L121 w_th w_pf w_of w_sz w_bg a0 a1 k41 x3 x4 x5 y_th y_pf y_of y_sz y_bg) else (if 500 ≤ x4 then (f_M_take_L121 w_th w_pf w_of w_sz w_bg a0 a1 k41 x3 x4 x5 y_th y_pf y_of y_sz y_bg) else (if ((x4 / 100) - 1) < 0 ∨ 4 ≤ ((x4 / 100) - 1).toNatClampNeg then none else if ((x4 / 100) - 1) < 0 ∨ 4 ≤ ((x4 / 100) - 1).toNatClampNeg then none else f_M_take_L121 w_th w_pf w_of w_sz w_bg a0 a1 k41 x3 x4 x5 y_th (upd y_pf ((x4 / 100) - 1).toNatClampNeg ((y_pf ((x4 / 100) - 1).toNatClampNeg) + (x5 <<< ((x4 - x4 / 100 * 100) &&& 31)))) y_of y_sz y_bg))
def f_M_take_L41 (w_th : Int32) (w_pf : Nat → Int32) (w_of : Nat → Int32) (w_sz : Int32) (w_bg : Int32) (a0 : Int32) (a1 : Int32)  : Nat → Int32 → Int32 → (Nat → Int32) → (Nat → Int32) → Int32 → Int32 → Option (Bool × Int32 × (Nat → Int32) × (Nat → Int32) × Int32 × Int32)
  | 0, _, _, _, _, _, _ => none
  | n + 1, x3, y_th, y_pf, y_of, y_sz, y_bg =>
    (f_M_bitsOf a0).bind fun r_2 => if r_2 ≤ x3 then ((f_M_signOf a0).bind fun r_5 => if r_5 < 0 then (f_M_take_L189 w_th w_pf w_of w_sz w_bg a0 a1  r_5 y_th y_pf y_of y_sz y_bg) else (if (3 : Int32) < 0 ∨ 4 ≤ (3 : Int32).toNatClampNeg then none else if (3 : Int32) < 0 ∨ 4 ≤ (3 : Int32).toNatClampNeg then none else f_M_take_L189 w_th w_pf w_of w_sz w_bg a0 a1  r_5 y_th (upd y_pf (3 : Int32).toNatClampNeg (((y_pf (3 : Int32).toNatClampNeg) <<< ((31 - r_5) &&& 31)) >>> ((31 - r_5) &&& 31))) y_of y_sz y_bg)) else (if ((32 * a0) + x3) < 0 ∨ 2400 ≤ ((32 * a0) + x3).toNatClampNeg then none else if 2 ≤ (mR ((32 * a0) + x3).toNatClampNeg) then (f_M_take_L84 w_th w_pf w_of w_sz w_bg a0 a1 (fun y0 y1 y2 y3 y4 y5 => f_M_take_L41 w_th w_pf w_of w_sz w_bg a0 a1  n y0 y1 y2 y3 y4 y5) x3 (mR ((32 * a0) + x3).toNatClampNeg) ((a1 >>> (x3 &&& 31)) &&& 1) y_th y_pf y_of y_sz y_bg) else (if (mR ((32 * a0) + x3).toNatClampNeg) = ((a1 >>> (x3 &&& 31)) &&& 1) then (f_M_take_L84 w_th w_pf w_of w_sz w_bg a0 a1 (fun y0 y1 y2 y3 y4 y5 => f_M_take_L41 w_th w_pf w_of w_sz w_bg a0 a1  n y0 y1 y2 y3 y4 y5) x3 (mR ((32 * a0) + x3).toNatClampNeg) ((a1 >>> (x3 &&& 31)) &&& 1) y_th y_pf y_of y_sz y_bg) else (some (false, y_th, y_pf, y_of, y_sz, y_bg))))
def f_M_take_L2 (w_th : Int32) (w_pf : Nat → Int32) (w_of : Nat → Int32) (w_sz : Int32) (w_bg : Int32) (a0 : Int32) (a1 : Int32)  : Nat → Int32 → Int32 → (Nat → Int32) → (Nat → Int32) → Int32 → Int32 → Option (Bool × Int32 × (Nat → Int32) × (Nat → Int32) × Int32 × Int32)
  | 0, _, _, _, _, _, _ => none
  | n + 1, x3, y_th, y_pf, y_of, y_sz, y_bg =>
    if 4 ≤ x3 then (f_M_take_L41 w_th w_pf w_of w_sz w_bg a0 a1  80 0 y_th y_pf y_of y_sz y_bg) else (if 3 ≤ x3 then (if x3 < 0 ∨ 4 ≤ x3.toNatClampNeg then none else f_M_take_L2 w_th w_pf w_of w_sz w_bg a0 a1  n (x3 + 1) y_th (upd y_pf x3.toNatClampNeg 0) y_of y_sz y_bg) else ((f_M_isShortPart y_th y_pf y_of y_sz y_bg a0 x3).bind fun r_29 => if (bI r_29) = 0 then (if x3 < 0 ∨ 4 ≤ x3.toNatClampNeg then none else f_M_take_L2 w_th w_pf w_of w_sz w_bg a0 a1  n (x3 + 1) y_th (upd y_pf x3.toNatClampNeg 0) y_of y_sz y_bg) else (if x3 < 0 ∨ 4 ≤ x3.toNatClampNeg then none else f_M_take_L2 w_th w_pf w_of w_sz w_bg a0 a1  n (x3 + 1) y_th (upd y_pf x3.toNatClampNeg 8) y_of y_sz y_bg)))
def f_M_take (w_th : Int32) (w_pf : Nat → Int32) (w_of : Nat → Int32) (w_sz : Int32) (w_bg : Int32) (a0 : Int32) (a1 : Int32) : Option (Bool × Int32 × (Nat → Int32) × (Nat → Int32) × Int32 × Int32) :=
  f_M_take_L2 w_th w_pf w_of w_sz w_bg a0 a1  80 0 w_th w_pf w_of w_sz w_bg
set_option maxHeartbeats 1000000 in
set_option maxRecDepth 100000 in
theorem c_M_take (l : Launch) {ad sk sv : Nat → Nat} {tK : Nat} (dC : Nat → ClassId) (dI : Nat → Nat → Nat) (cI : ClassId) (h0 rw pt ou : Nat) (w_th : Int32) (w_pf : Nat → Int32) (w_of : Nat → Int32) (w_sz : Int32) (w_bg : Int32) (a0 : Int32) (a1 : Int32)  (r : Bool × Int32 × (Nat → Int32) × (Nat → Int32) × Int32 × Int32) (hf : f_M_take w_th w_pf w_of w_sz w_bg a0 a1 = some r) : Met l y_M_take (Cond.code y_M_take b_M_take 6 (Option.some FieldType.boolean) :: aw) ({ frames := 4, cells := 0, slots := 0, locals := 88 } : Room) (va_Pc [.ref (h0), .int (a0), .int (a1)] (fun U => va_P (dC, dI) cls2 (wM cI h0 rw pt ou w_th mR w_pf w_of w_sz w_bg) U.heap ∧ va_K (dC, dI) cls2 [(cI, .int)] U ∧ va_D (aM h0 rw pt ou) (wM cI h0 rw pt ou w_th mR w_pf w_of w_sz w_bg) ∧ tb ad sk sv tK (aM h0 rw pt ou) U U.heap)) (va_Qi (fun v u => v = bI r.1 ∧ u = r.2) (fun (u : Int32 × (Nat → Int32) × (Nat → Int32) × Int32 × Int32) t => va_P (dC, dI) cls2 (wM cI h0 rw pt ou u.1 mR u.2.1 u.2.2.1 u.2.2.2.1 u.2.2.2.2) t.heap) (aM h0 rw pt ou)) 0 0 (aM h0 rw pt ou) := by
  refine Met.ofW (cc := b_M_take) (maxL := 6) (ret := (Option.some FieldType.boolean)) (by decide) rfl ?_
  intro p e s m args below meth c s₁ B hml hv
  obtain ⟨rfl, hP, hK, hD, hT⟩ := hv
  have hD0 := hD
  have hx := B.exec
  have hb := B.bytes
  have hr := B.returns
  have hts := atoms_spec (ws := (Cond.code y_M_take b_M_take 6 (Option.some FieldType.boolean) :: aw)) B.pre
  have ht : ∀ {w : Cond}, w ∈ aw → w.before ([.ref (h0), .int (a0), .int (a1)] : List Value).toArray s = true := fun h => hts _ (List.mem_cons_of_mem _ h)
  have hown : s.vm.findClass "CodeWordsModel" = some m.cls := findClass_of_methodNamed B.named
  have hlocks := B.notSynchronized
  have hS : va_S (aM h0 rw pt ou) s.heap s.heap [] := va_S.rf
  have hl := lv_entry ([.ref (h0), .int (a0), .int (a1)]) (n := 6) (Nat.le_of_ble_eq_true rfl)
  rw [lg_entry_eq]
  generalize (lg_sl ([.ref (h0), .int (a0), .int (a1)]) ++ List.replicate (6 - (lg_sl ([.ref (h0), .int (a0), .int (a1)])).length) Slot.unset).toArray = ls at hl ⊢
  have hl : lv_has ls 6 [(0, .ref (h0)), (1, .int (a0)), (2, .int (a1))] := hl
  have J189 : ∀ (x3 : Int32) (y_th : Int32) (y_pf : (Nat → Int32)) (y_of : (Nat → Int32)) (y_sz : Int32) (y_bg : Int32) (H : Heap) (locs : List Loc) (ls : Array Slot), va_P (dC, dI) cls2 (wM cI h0 rw pt ou y_th mR y_pf y_of y_sz y_bg) H → va_S (aM h0 rw pt ou) s.heap H locs → lv_has ls 6 [(0, .ref (h0)), (1, .int (a0)), (2, .int (a1)), (3, .int (x3))] → f_M_take_L189 w_th w_pf w_of w_sz w_bg a0 a1  x3 y_th y_pf y_of y_sz y_bg = some r → wW p l e (headSpec (Cond.code y_M_take b_M_take 6 (Option.some FieldType.boolean) :: aw) ({ frames := 4, cells := 0, slots := 0, locals := 88 } : Room)).room s m ([.ref (h0), .int (a0), .int (a1)] : List Value).toArray below meth c (va_Qi (fun v u => v = bI r.1 ∧ u = r.2) (fun (u : Int32 × (Nat → Int32) × (Nat → Int32) × Int32 × Int32) t => va_P (dC, dI) cls2 (wM cI h0 rw pt ou u.1 mR u.2.1 u.2.2.1 u.2.2.2.1 u.2.2.2.2) t.heap) (aM h0 rw pt ou)) (aM h0 rw pt ou) H locs (F0 m 189 ls []) := by
    intro x3 y_th y_pf y_of y_sz y_bg H locs ls hP hS hl hf
    rw [f_M_take_L189] at hf
    have hD : va_D (aM h0 rw pt ou) (wM cI h0 rw pt ou y_th mR y_pf y_of y_sz y_bg) := dD hD0 rfl
    refine lv_iload_n hx hb d_M_take_189 rfl (lv_at hl 1 rfl) ?_
    refine lv_bipush (v := 56) hx hb d_M_take_190 (by decide) ?_
    refine lv_icmp_ne (tgt := 210) hx hb d_M_take_192 (by decide) (fun c_8 => ?_) (fun c_8 => ?_)
    · replace hf := (if_neg c_8).symm.trans hf
      refine lv_aload_n hx hb d_M_take_210 rfl (lv_at hl 0 rfl) ?_
      refine lv_iload_n hx hb d_M_take_211 rfl (lv_at hl 1 rfl) ?_
      obtain ⟨r_9, g_10, hf⟩ := Option.bind_eq_some_iff.mp hf
      refine ju_calli (W.runV (As := [.int (a0)]) (rest := []) ⟨hx, hb, hml, hown, hts⟩ (c_M_areGood l (ad := ad) (sk := sk) (sv := sv) (tK := tK) dC dI cI h0 rw pt ou y_th y_pf y_of y_sz y_bg a0  r_9 g_10) (cwV 1 hts (aw_V aw_470 aw_472 aw_p23 aw_2 aw_473) rfl rfl rfl (by decide +kernel) ⟨Nat.le_of_ble_eq_true rfl, Nat.le_of_ble_eq_true rfl⟩) ⟨wBlind, va_recv hK hP (ci := 1) (q0 := 0) rfl rfl, fun U hU hW => ⟨rfl, by rw [hU]; exact hP, va_K.moved hW.alike hK, hD, hT.at hS hU hW (fun _ z => z)⟩⟩ rfl rfl hl.1 rfl (lv_room (Nat.le_of_ble_eq_true rfl)) d_M_take_212 ⟨Nat.le_refl _, Nat.le_refl _⟩) ?_
      exact W.zret (v := bI r_9) hx hb hr (ju_nz r_9) (fun t ht hW => ⟨⟨_, (y_th, y_pf, y_of, y_sz, y_bg), rfl, ⟨congrArg (fun z : Bool × Int32 × (Nat → Int32) × (Nat → Int32) × Int32 × Int32 => bI z.1) (Option.some.inj hf), congrArg (fun z => z.2) (Option.some.inj hf)⟩, by rw [← ht] at hP; exact hP⟩, hS.F ht⟩) hS.2.2 d_M_take_215
    · replace hf := (if_pos c_8).symm.trans hf
      refine lv_aload_n hx hb d_M_take_195 rfl (lv_at hl 0 rfl) ?_
      refine va_get (D := (dC, dI)) (ci := 1) (v := .ref (pt)) (C := "CodeWordsModel") (T := F_M) (N := 6) hx hb hts (in_M _) hown hK hP 0 rfl rfl 2 (by decide) (ht aw_441) (fun _ h9 => h9) rfl d_M_take_196 ?_
      refine lv_iconst (v := 3) hx hb d_M_take_199 (by decide) ?_
      refine lv_aload_n hx hb d_M_take_200 rfl (lv_at hl 0 rfl) ?_
      refine va_get (D := (dC, dI)) (ci := 1) (v := .ref (pt)) (C := "CodeWordsModel") (T := F_M) (N := 6) hx hb hts (in_M _) hown hK hP 0 rfl rfl 2 (by decide) (ht aw_441) (fun _ h9 => h9) rfl d_M_take_201 ?_
      refine lv_iconst (v := 3) hx hb d_M_take_204 (by decide) ?_
      obtain ⟨z_11, hf⟩ := ju_gd hf
      refine va_iald hx hb hK hP 2 0 rfl rfl z_11 d_M_take_205 ?_
      refine lv_ldc (v := 1048575) hx hb hown (ht aw_538) d_M_take_206 ?_
      refine lv_iand hx hb d_M_take_208 ?_
      obtain ⟨z_12, hf⟩ := ju_gd hf
      refine va_iast hx hb hK hP hD hS 2 0 rfl rfl z_12 d_M_take_209 (fun H locs hP hD hS => ?_)
      have hP : va_P (dC, dI) cls2 (wM cI h0 rw pt ou y_th mR (upd y_pf (3 : Int32).toNatClampNeg ((y_pf (3 : Int32).toNatClampNeg) &&& 1048575)) y_of y_sz y_bg) H := hP
      have hD : va_D (aM h0 rw pt ou) (wM cI h0 rw pt ou y_th mR (upd y_pf (3 : Int32).toNatClampNeg ((y_pf (3 : Int32).toNatClampNeg) &&& 1048575)) y_of y_sz y_bg) := hD
      refine lv_aload_n hx hb d_M_take_210 rfl (lv_at hl 0 rfl) ?_
      refine lv_iload_n hx hb d_M_take_211 rfl (lv_at hl 1 rfl) ?_
      obtain ⟨r_13, g_14, hf⟩ := Option.bind_eq_some_iff.mp hf
      refine ju_calli (W.runV (As := [.int (a0)]) (rest := []) ⟨hx, hb, hml, hown, hts⟩ (c_M_areGood l (ad := ad) (sk := sk) (sv := sv) (tK := tK) dC dI cI h0 rw pt ou y_th (upd y_pf (3 : Int32).toNatClampNeg ((y_pf (3 : Int32).toNatClampNeg) &&& 1048575)) y_of y_sz y_bg a0  r_13 g_14) (cwV 1 hts (aw_V aw_470 aw_472 aw_p23 aw_2 aw_473) rfl rfl rfl (by decide +kernel) ⟨Nat.le_of_ble_eq_true rfl, Nat.le_of_ble_eq_true rfl⟩) ⟨wBlind, va_recv hK hP (ci := 1) (q0 := 0) rfl rfl, fun U hU hW => ⟨rfl, by rw [hU]; exact hP, va_K.moved hW.alike hK, hD, hT.at hS hU hW (fun _ z => z)⟩⟩ rfl rfl hl.1 rfl (lv_room (Nat.le_of_ble_eq_true rfl)) d_M_take_212 ⟨Nat.le_refl _, Nat.le_refl _⟩) ?_
      exact W.zret (v := bI r_13) hx hb hr (ju_nz r_13) (fun t ht hW => ⟨⟨_, (y_th, upd y_pf (3 : Int32).toNatClampNeg ((y_pf (3 : Int32).toNatClampNeg) &&& 1048575), y_of, y_sz, y_bg), rfl, ⟨congrArg (fun z : Bool × Int32 × (Nat → Int32) × (Nat → Int32) × Int32 × Int32 => bI z.1) (Option.some.inj hf), congrArg (fun z => z.2) (Option.some.inj hf)⟩, by rw [← ht] at hP; exact hP⟩, hS.F ht⟩) hS.2.2 d_M_take_215
  have J41 : ∀ (n : Nat) (x3 : Int32) (y_th : Int32) (y_pf : (Nat → Int32)) (y_of : (Nat → Int32)) (y_sz : Int32) (y_bg : Int32) (H : Heap) (locs : List Loc) (ls : Array Slot), va_P (dC, dI) cls2 (wM cI h0 rw pt ou y_th mR y_pf y_of y_sz y_bg) H → va_S (aM h0 rw pt ou) s.heap H locs → lv_has ls 6 [(0, .ref (h0)), (1, .int (a0)), (2, .int (a1)), (3, .int (x3))] → f_M_take_L41 w_th w_pf w_of w_sz w_bg a0 a1  n x3 y_th y_pf y_of y_sz y_bg = some r → wW p l e (headSpec (Cond.code y_M_take b_M_take 6 (Option.some FieldType.boolean) :: aw) ({ frames := 4, cells := 0, slots := 0, locals := 88 } : Room)).room s m ([.ref (h0), .int (a0), .int (a1)] : List Value).toArray below meth c (va_Qi (fun v u => v = bI r.1 ∧ u = r.2) (fun (u : Int32 × (Nat → Int32) × (Nat → Int32) × Int32 × Int32) t => va_P (dC, dI) cls2 (wM cI h0 rw pt ou u.1 mR u.2.1 u.2.2.1 u.2.2.2.1 u.2.2.2.2) t.heap) (aM h0 rw pt ou)) (aM h0 rw pt ou) H locs (F0 m 41 ls []) := by
    intro n
    induction n with
    | zero =>
      intro x3 y_th y_pf y_of y_sz y_bg H locs ls hP hS hl hf
      rw [f_M_take_L41] at hf
      cases hf
    | succ n ih =>
      intro x3 y_th y_pf y_of y_sz y_bg H locs ls hP hS hl hf
      rw [f_M_take_L41] at hf
      have hD : va_D (aM h0 rw pt ou) (wM cI h0 rw pt ou y_th mR y_pf y_of y_sz y_bg) := dD hD0 rfl
      have J121 : ∀ (x3 : Int32) (x4 : Int32) (x5 : Int32) (y_th : Int32) (y_pf : (Nat → Int32)) (y_of : (Nat → Int32)) (y_sz : Int32) (y_bg : Int32) (H : Heap) (locs : List Loc) (ls : Array Slot), va_P (dC, dI) cls2 (wM cI h0 rw pt ou y_th mR y_pf y_of y_sz y_bg) H → va_S (aM h0 rw pt ou) s.heap H locs → lv_has ls 6 [(0, .ref (h0)), (1, .int (a0)), (2, .int (a1)), (3, .int (x3)), (4, .int (x4)), (5, .int (x5))] → f_M_take_L121 w_th w_pf w_of w_sz w_bg a0 a1 (fun y0 y1 y2 y3 y4 y5 => f_M_take_L41 w_th w_pf w_of w_sz w_bg a0 a1  n y0 y1 y2 y3 y4 y5) x3 x4 x5 y_th y_pf y_of y_sz y_bg = some r → wW p l e (headSpec (Cond.code y_M_take b_M_take 6 (Option.some FieldType.boolean) :: aw) ({ frames := 4, cells := 0, slots := 0, locals := 88 } : Room)).room s m ([.ref (h0), .int (a0), .int (a1)] : List Value).toArray below meth c (va_Qi (fun v u => v = bI r.1 ∧ u = r.2) (fun (u : Int32 × (Nat → Int32) × (Nat → Int32) × Int32 × Int32) t => va_P (dC, dI) cls2 (wM cI h0 rw pt ou u.1 mR u.2.1 u.2.2.1 u.2.2.2.1 u.2.2.2.2) t.heap) (aM h0 rw pt ou)) (aM h0 rw pt ou) H locs (F0 m 121 ls []) := by
        intro x3 x4 x5 y_th y_pf y_of y_sz y_bg H locs ls hP hS hl hf
        rw [f_M_take_L121] at hf
        have hD : va_D (aM h0 rw pt ou) (wM cI h0 rw pt ou y_th mR y_pf y_of y_sz y_bg) := dD hD0 rfl
        refine lv_iload hx hb d_M_take_121 (lv_at hl 4 rfl) ?_
        refine lv_sipush (v := 500) hx hb d_M_take_123 (by decide) ?_
        refine lv_icmp_lt (tgt := 152) hx hb d_M_take_126 (by decide) (fun c_20 => ?_) (fun c_20 => ?_)
        · replace hf := (if_pos c_20).symm.trans hf
          refine lv_iinc (v := x3 + 1) (lv' := [(3, .int (x3 + 1)), (0, .ref (h0)), (1, .int (a0)), (2, .int (a1)), (4, .int (x4)), (5, .int (x5))]) hx hb d_M_take_152 hl (k := 3) rfl rfl (by decide) rfl (fun ls hl => ?_)
          refine lv_goto (tgt := 41) hx hb d_M_take_155 (by decide) ?_
          exact ih (x3 + 1) y_th y_pf y_of y_sz y_bg _ _ _ hP hS (lv_sub hl [1, 2, 3, 0] rfl) hf
        · replace hf := (if_neg c_20).symm.trans hf
          refine lv_aload_n hx hb d_M_take_129 rfl (lv_at hl 0 rfl) ?_
          refine va_get (D := (dC, dI)) (ci := 1) (v := .ref (pt)) (C := "CodeWordsModel") (T := F_M) (N := 6) hx hb hts (in_M _) hown hK hP 0 rfl rfl 2 (by decide) (ht aw_441) (fun _ h9 => h9) rfl d_M_take_130 ?_
          refine lv_iload hx hb d_M_take_133 (lv_at hl 4 rfl) ?_
          refine lv_bipush (v := 100) hx hb d_M_take_135 (by decide) ?_
          refine lv_idiv hx hb d_M_take_137 (by decide) ?_
          refine lv_iconst (v := 5) hx hb d_M_take_138 (by decide) ?_
          refine lv_isub hx hb d_M_take_139 ?_
          refine lv_dup2_11 hx hb d_M_take_140 rfl rfl ?_
          obtain ⟨z_21, hf⟩ := ju_gd hf
          refine va_iald hx hb hK hP 2 0 rfl rfl z_21 d_M_take_141 ?_
          refine lv_iload hx hb d_M_take_142 (lv_at hl 5 rfl) ?_
          refine lv_iload hx hb d_M_take_144 (lv_at hl 4 rfl) ?_
          refine lv_bipush (v := 100) hx hb d_M_take_146 (by decide) ?_
          refine lv_irem hx hb d_M_take_148 (by decide) ?_
          refine lv_ishl hx hb d_M_take_149 ?_
          refine lv_iadd hx hb d_M_take_150 ?_
          obtain ⟨z_22, hf⟩ := ju_gd hf
          refine va_iast hx hb hK hP hD hS 2 0 rfl rfl z_22 d_M_take_151 (fun H locs hP hD hS => ?_)
          have hP : va_P (dC, dI) cls2 (wM cI h0 rw pt ou y_th mR (upd y_pf ((x4 / 100) - 5).toNatClampNeg ((y_pf ((x4 / 100) - 5).toNatClampNeg) + (x5 <<< ((x4 - x4 / 100 * 100) &&& 31)))) y_of y_sz y_bg) H := hP
          have hD : va_D (aM h0 rw pt ou) (wM cI h0 rw pt ou y_th mR (upd y_pf ((x4 / 100) - 5).toNatClampNeg ((y_pf ((x4 / 100) - 5).toNatClampNeg) + (x5 <<< ((x4 - x4 / 100 * 100) &&& 31)))) y_of y_sz y_bg) := hD
          refine lv_iinc (v := x3 + 1) (lv' := [(3, .int (x3 + 1)), (0, .ref (h0)), (1, .int (a0)), (2, .int (a1)), (4, .int (x4)), (5, .int (x5))]) hx hb d_M_take_152 hl (k := 3) rfl rfl (by decide) rfl (fun ls hl => ?_)
          refine lv_goto (tgt := 41) hx hb d_M_take_155 (by decide) ?_
          exact ih (x3 + 1) y_th (upd y_pf ((x4 / 100) - 5).toNatClampNeg ((y_pf ((x4 / 100) - 5).toNatClampNeg) + (x5 <<< ((x4 - x4 / 100 * 100) &&& 31)))) y_of y_sz y_bg _ _ _ hP hS (lv_sub hl [1, 2, 3, 0] rfl) hf
      have J84 : ∀ (x3 : Int32) (x4 : Int32) (x5 : Int32) (y_th : Int32) (y_pf : (Nat → Int32)) (y_of : (Nat → Int32)) (y_sz : Int32) (y_bg : Int32) (H : Heap) (locs : List Loc) (ls : Array Slot), va_P (dC, dI) cls2 (wM cI h0 rw pt ou y_th mR y_pf y_of y_sz y_bg) H → va_S (aM h0 rw pt ou) s.heap H locs → lv_has ls 6 [(0, .ref (h0)), (1, .int (a0)), (2, .int (a1)), (3, .int (x3)), (4, .int (x4)), (5, .int (x5))] → f_M_take_L84 w_th w_pf w_of w_sz w_bg a0 a1 (fun y0 y1 y2 y3 y4 y5 => f_M_take_L41 w_th w_pf w_of w_sz w_bg a0 a1  n y0 y1 y2 y3 y4 y5) x3 x4 x5 y_th y_pf y_of y_sz y_bg = some r → wW p l e (headSpec (Cond.code y_M_take b_M_take 6 (Option.some FieldType.boolean) :: aw) ({ frames := 4, cells := 0, slots := 0, locals := 88 } : Room)).room s m ([.ref (h0), .int (a0), .int (a1)] : List Value).toArray below meth c (va_Qi (fun v u => v = bI r.1 ∧ u = r.2) (fun (u : Int32 × (Nat → Int32) × (Nat → Int32) × Int32 × Int32) t => va_P (dC, dI) cls2 (wM cI h0 rw pt ou u.1 mR u.2.1 u.2.2.1 u.2.2.2.1 u.2.2.2.2) t.heap) (aM h0 rw pt ou)) (aM h0 rw pt ou) H locs (F0 m 84 ls []) := by
        intro x3 x4 x5 y_th y_pf y_of y_sz y_bg H locs ls hP hS hl hf
        rw [f_M_take_L84] at hf
        have hD : va_D (aM h0 rw pt ou) (wM cI h0 rw pt ou y_th mR y_pf y_of y_sz y_bg) := dD hD0 rfl
        refine lv_iload hx hb d_M_take_84 (lv_at hl 4 rfl) ?_
        refine lv_iconst (v := 1) hx hb d_M_take_86 (by decide) ?_
        refine lv_icmp_le (tgt := 121) hx hb d_M_take_87 (by decide) (fun c_19 => ?_) (fun c_19 => ?_)
        · replace hf := (if_pos c_19).symm.trans hf
          exact J121 x3 x4 x5 y_th y_pf y_of y_sz y_bg _ _ _ hP hS (lv_sub hl [0, 1, 2, 3, 4, 5] rfl) hf
        · replace hf := (if_neg c_19).symm.trans hf
          refine lv_iload hx hb d_M_take_90 (lv_at hl 4 rfl) ?_
          refine lv_sipush (v := 500) hx hb d_M_take_92 (by decide) ?_
          refine lv_icmp_ge (tgt := 121) hx hb d_M_take_95 (by decide) (fun c_23 => ?_) (fun c_23 => ?_)
          · replace hf := (if_pos c_23).symm.trans hf
            exact J121 x3 x4 x5 y_th y_pf y_of y_sz y_bg _ _ _ hP hS (lv_sub hl [0, 1, 2, 3, 4, 5] rfl) hf
          · replace hf := (if_neg c_23).symm.trans hf
            refine lv_aload_n hx hb d_M_take_98 rfl (lv_at hl 0 rfl) ?_
            refine va_get (D := (dC, dI)) (ci := 1) (v := .ref (pt)) (C := "CodeWordsModel") (T := F_M) (N := 6) hx hb hts (in_M _) hown hK hP 0 rfl rfl 2 (by decide) (ht aw_441) (fun _ h9 => h9) rfl d_M_take_99 ?_
            refine lv_iload hx hb d_M_take_102 (lv_at hl 4 rfl) ?_
            refine lv_bipush (v := 100) hx hb d_M_take_104 (by decide) ?_
            refine lv_idiv hx hb d_M_take_106 (by decide) ?_
            refine lv_iconst (v := 1) hx hb d_M_take_107 (by decide) ?_
            refine lv_isub hx hb d_M_take_108 ?_
            refine lv_dup2_11 hx hb d_M_take_109 rfl rfl ?_
            obtain ⟨z_24, hf⟩ := ju_gd hf
            refine va_iald hx hb hK hP 2 0 rfl rfl z_24 d_M_take_110 ?_
            refine lv_iload hx hb d_M_take_111 (lv_at hl 5 rfl) ?_
            refine lv_iload hx hb d_M_take_113 (lv_at hl 4 rfl) ?_
            refine lv_bipush (v := 100) hx hb d_M_take_115 (by decide) ?_
            refine lv_irem hx hb d_M_take_117 (by decide) ?_
            refine lv_ishl hx hb d_M_take_118 ?_
            refine lv_iadd hx hb d_M_take_119 ?_
            obtain ⟨z_25, hf⟩ := ju_gd hf
            refine va_iast hx hb hK hP hD hS 2 0 rfl rfl z_25 d_M_take_120 (fun H locs hP hD hS => ?_)
            have hP : va_P (dC, dI) cls2 (wM cI h0 rw pt ou y_th mR (upd y_pf ((x4 / 100) - 1).toNatClampNeg ((y_pf ((x4 / 100) - 1).toNatClampNeg) + (x5 <<< ((x4 - x4 / 100 * 100) &&& 31)))) y_of y_sz y_bg) H := hP
            have hD : va_D (aM h0 rw pt ou) (wM cI h0 rw pt ou y_th mR (upd y_pf ((x4 / 100) - 1).toNatClampNeg ((y_pf ((x4 / 100) - 1).toNatClampNeg) + (x5 <<< ((x4 - x4 / 100 * 100) &&& 31)))) y_of y_sz y_bg) := hD
            exact J121 x3 x4 x5 y_th (upd y_pf ((x4 / 100) - 1).toNatClampNeg ((y_pf ((x4 / 100) - 1).toNatClampNeg) + (x5 <<< ((x4 - x4 / 100 * 100) &&& 31)))) y_of y_sz y_bg _ _ _ hP hS (lv_sub hl [0, 1, 2, 3, 4, 5] rfl) hf
      refine lv_iload_n hx hb d_M_take_41 rfl (lv_at hl 3 rfl) ?_
      refine lv_iload_n hx hb d_M_take_42 rfl (lv_at hl 1 rfl) ?_
      obtain ⟨r_2, g_3, hf⟩ := Option.bind_eq_some_iff.mp hf
      refine ju_calli (W.runS (As := [.int (a0)]) (rest := [.int (x3)]) ⟨hx, hb, hml, hown, hts⟩ (c_M_bitsOf l (ad := ad) (sk := sk) (sv := sv) (tK := tK)  a0  r_2 g_3) (va_cwS 1 hts (aw_S aw_478 aw_479 aw_2 aw_480) rfl rfl rfl (by decide +kernel) ⟨Nat.le_of_ble_eq_true rfl, Nat.le_of_ble_eq_true rfl⟩) ⟨fun a U g mk q => ⟨q.1, q.2.call⟩, fun U hU hW => ⟨rfl, hT.at hS hU hW (fun _ z => z.elim)⟩⟩ rfl rfl hl.1 rfl (lv_room (Nat.le_of_ble_eq_true rfl)) d_M_take_43 ⟨Nat.le_refl _, Nat.le_refl _⟩) ?_
      refine lv_icmp_ge (tgt := 158) hx hb d_M_take_46 (by decide) (fun c_4 => ?_) (fun c_4 => ?_)
      · replace hf := (if_pos c_4).symm.trans hf
        refine lv_iload_n hx hb d_M_take_158 rfl (lv_at hl 1 rfl) ?_
        obtain ⟨r_5, g_6, hf⟩ := Option.bind_eq_some_iff.mp hf
        refine ju_calli (W.runS (As := [.int (a0)]) (rest := []) ⟨hx, hb, hml, hown, hts⟩ (c_M_signOf l (ad := ad) (sk := sk) (sv := sv) (tK := tK)  a0  r_5 g_6) (va_cwS 1 hts (aw_S aw_535 aw_536 aw_2 aw_537) rfl rfl rfl (by decide +kernel) ⟨Nat.le_of_ble_eq_true rfl, Nat.le_of_ble_eq_true rfl⟩) ⟨fun a U g mk q => ⟨q.1, q.2.call⟩, fun U hU hW => ⟨rfl, hT.at hS hU hW (fun _ z => z.elim)⟩⟩ rfl rfl hl.1 rfl (lv_room (Nat.le_of_ble_eq_true rfl)) d_M_take_159 ⟨Nat.le_refl _, Nat.le_refl _⟩) ?_
        refine lv_istore_n (lv' := [(3, .int (r_5)), (0, .ref (h0)), (1, .int (a0)), (2, .int (a1))]) hx hb d_M_take_162 rfl hl (by decide) rfl (fun ls hl => ?_)
        refine lv_iload_n hx hb d_M_take_163 rfl (lv_at hl 0 rfl) ?_
        refine lv_if_lt (tgt := 189) hx hb d_M_take_164 (by decide) (fun c_7 => ?_) (fun c_7 => ?_)
        · replace hf := (if_pos c_7).symm.trans hf
          exact J189 r_5 y_th y_pf y_of y_sz y_bg _ _ _ hP hS (lv_sub hl [1, 2, 3, 0] rfl) hf
        · replace hf := (if_neg c_7).symm.trans hf
          refine lv_aload_n hx hb d_M_take_167 rfl (lv_at hl 1 rfl) ?_
          refine va_get (D := (dC, dI)) (ci := 1) (v := .ref (pt)) (C := "CodeWordsModel") (T := F_M) (N := 6) hx hb hts (in_M _) hown hK hP 0 rfl rfl 2 (by decide) (ht aw_441) (fun _ h9 => h9) rfl d_M_take_168 ?_
          refine lv_iconst (v := 3) hx hb d_M_take_171 (by decide) ?_
          refine lv_aload_n hx hb d_M_take_172 rfl (lv_at hl 1 rfl) ?_
          refine va_get (D := (dC, dI)) (ci := 1) (v := .ref (pt)) (C := "CodeWordsModel") (T := F_M) (N := 6) hx hb hts (in_M _) hown hK hP 0 rfl rfl 2 (by decide) (ht aw_441) (fun _ h9 => h9) rfl d_M_take_173 ?_
          refine lv_iconst (v := 3) hx hb d_M_take_176 (by decide) ?_
          obtain ⟨z_15, hf⟩ := ju_gd hf
          refine va_iald hx hb hK hP 2 0 rfl rfl z_15 d_M_take_177 ?_
          refine lv_bipush (v := 31) hx hb d_M_take_178 (by decide) ?_
          refine lv_iload_n hx hb d_M_take_180 rfl (lv_at hl 0 rfl) ?_
          refine lv_isub hx hb d_M_take_181 ?_
          refine lv_ishl hx hb d_M_take_182 ?_
          refine lv_bipush (v := 31) hx hb d_M_take_183 (by decide) ?_
          refine lv_iload_n hx hb d_M_take_185 rfl (lv_at hl 0 rfl) ?_
          refine lv_isub hx hb d_M_take_186 ?_
          refine lv_ishr hx hb d_M_take_187 ?_
          obtain ⟨z_16, hf⟩ := ju_gd hf
          refine va_iast hx hb hK hP hD hS 2 0 rfl rfl z_16 d_M_take_188 (fun H locs hP hD hS => ?_)
          have hP : va_P (dC, dI) cls2 (wM cI h0 rw pt ou y_th mR (upd y_pf (3 : Int32).toNatClampNeg (((y_pf (3 : Int32).toNatClampNeg) <<< ((31 - r_5) &&& 31)) >>> ((31 - r_5) &&& 31))) y_of y_sz y_bg) H := hP
          have hD : va_D (aM h0 rw pt ou) (wM cI h0 rw pt ou y_th mR (upd y_pf (3 : Int32).toNatClampNeg (((y_pf (3 : Int32).toNatClampNeg) <<< ((31 - r_5) &&& 31)) >>> ((31 - r_5) &&& 31))) y_of y_sz y_bg) := hD
          exact J189 r_5 y_th (upd y_pf (3 : Int32).toNatClampNeg (((y_pf (3 : Int32).toNatClampNeg) <<< ((31 - r_5) &&& 31)) >>> ((31 - r_5) &&& 31))) y_of y_sz y_bg _ _ _ hP hS (lv_sub hl [1, 2, 3, 0] rfl) hf
      · replace hf := (if_neg c_4).symm.trans hf
        refine lv_aload_n hx hb d_M_take_49 rfl (lv_at hl 0 rfl) ?_
        refine va_get (D := (dC, dI)) (ci := 1) (v := .ref (rw)) (C := "CodeWordsModel") (T := F_M) (N := 6) hx hb hts (in_M _) hown hK hP 0 rfl rfl 1 (by decide) (ht aw_440) (fun _ h9 => h9) rfl d_M_take_50 ?_
        refine lv_bipush (v := 32) hx hb d_M_take_53 (by decide) ?_
        refine lv_iload_n hx hb d_M_take_55 rfl (lv_at hl 1 rfl) ?_
        refine lv_imul hx hb d_M_take_56 ?_
        refine lv_iload_n hx hb d_M_take_57 rfl (lv_at hl 3 rfl) ?_
        refine lv_iadd hx hb d_M_take_58 ?_
        obtain ⟨z_17, hf⟩ := ju_gd hf
        refine va_iald hx hb hK hP 1 0 rfl rfl z_17 d_M_take_59 ?_
        refine lv_istore (lv' := [(4, .int (mR ((32 * a0) + x3).toNatClampNeg)), (0, .ref (h0)), (1, .int (a0)), (2, .int (a1)), (3, .int (x3))]) hx hb d_M_take_60 hl (by decide) rfl (fun ls hl => ?_)
        refine lv_iload_n hx hb d_M_take_62 rfl (lv_at hl 3 rfl) ?_
        refine lv_iload_n hx hb d_M_take_63 rfl (lv_at hl 4 rfl) ?_
        refine lv_ishr hx hb d_M_take_64 ?_
        refine lv_iconst (v := 1) hx hb d_M_take_65 (by decide) ?_
        refine lv_iand hx hb d_M_take_66 ?_
        refine lv_istore (lv' := [(5, .int ((a1 >>> (x3 &&& 31)) &&& 1)), (4, .int (mR ((32 * a0) + x3).toNatClampNeg)), (0, .ref (h0)), (1, .int (a0)), (2, .int (a1)), (3, .int (x3))]) hx hb d_M_take_67 hl (by decide) rfl (fun ls hl => ?_)
        refine lv_iload hx hb d_M_take_69 (lv_at hl 1 rfl) ?_
        refine lv_iconst (v := 2) hx hb d_M_take_71 (by decide) ?_
        refine lv_icmp_ge (tgt := 84) hx hb d_M_take_72 (by decide) (fun c_18 => ?_) (fun c_18 => ?_)
        · replace hf := (if_pos c_18).symm.trans hf
          exact J84 x3 (mR ((32 * a0) + x3).toNatClampNeg) ((a1 >>> (x3 &&& 31)) &&& 1) y_th y_pf y_of y_sz y_bg _ _ _ hP hS (lv_sub hl [2, 3, 4, 5, 1, 0] rfl) hf
        · replace hf := (if_neg c_18).symm.trans hf
          refine lv_iload hx hb d_M_take_75 (lv_at hl 1 rfl) ?_
          refine lv_iload hx hb d_M_take_77 (lv_at hl 0 rfl) ?_
          refine lv_icmp_eq (tgt := 84) hx hb d_M_take_79 (by decide) (fun c_26 => ?_) (fun c_26 => ?_)
          · replace hf := (if_pos c_26).symm.trans hf
            exact J84 x3 (mR ((32 * a0) + x3).toNatClampNeg) ((a1 >>> (x3 &&& 31)) &&& 1) y_th y_pf y_of y_sz y_bg _ _ _ hP hS (lv_sub hl [2, 3, 4, 5, 1, 0] rfl) hf
          · replace hf := (if_neg c_26).symm.trans hf
            refine lv_iconst (v := 0) hx hb d_M_take_82 (by decide) ?_
            exact W.zret (v := 0) hx hb hr (ju_nz false) (fun t ht hW => ⟨⟨_, (y_th, y_pf, y_of, y_sz, y_bg), rfl, ⟨congrArg (fun z : Bool × Int32 × (Nat → Int32) × (Nat → Int32) × Int32 × Int32 => bI z.1) (Option.some.inj hf), congrArg (fun z => z.2) (Option.some.inj hf)⟩, by rw [← ht] at hP; exact hP⟩, hS.F ht⟩) hS.2.2 d_M_take_83
  have J2 : ∀ (n : Nat) (x3 : Int32) (y_th : Int32) (y_pf : (Nat → Int32)) (y_of : (Nat → Int32)) (y_sz : Int32) (y_bg : Int32) (H : Heap) (locs : List Loc) (ls : Array Slot), va_P (dC, dI) cls2 (wM cI h0 rw pt ou y_th mR y_pf y_of y_sz y_bg) H → va_S (aM h0 rw pt ou) s.heap H locs → lv_has ls 6 [(0, .ref (h0)), (1, .int (a0)), (2, .int (a1)), (3, .int (x3))] → f_M_take_L2 w_th w_pf w_of w_sz w_bg a0 a1  n x3 y_th y_pf y_of y_sz y_bg = some r → wW p l e (headSpec (Cond.code y_M_take b_M_take 6 (Option.some FieldType.boolean) :: aw) ({ frames := 4, cells := 0, slots := 0, locals := 88 } : Room)).room s m ([.ref (h0), .int (a0), .int (a1)] : List Value).toArray below meth c (va_Qi (fun v u => v = bI r.1 ∧ u = r.2) (fun (u : Int32 × (Nat → Int32) × (Nat → Int32) × Int32 × Int32) t => va_P (dC, dI) cls2 (wM cI h0 rw pt ou u.1 mR u.2.1 u.2.2.1 u.2.2.2.1 u.2.2.2.2) t.heap) (aM h0 rw pt ou)) (aM h0 rw pt ou) H locs (F0 m 2 ls []) := by
    intro n
    induction n with
    | zero =>
      intro x3 y_th y_pf y_of y_sz y_bg H locs ls hP hS hl hf
      rw [f_M_take_L2] at hf
      cases hf
    | succ n ih =>
      intro x3 y_th y_pf y_of y_sz y_bg H locs ls hP hS hl hf
      rw [f_M_take_L2] at hf
      have hD : va_D (aM h0 rw pt ou) (wM cI h0 rw pt ou y_th mR y_pf y_of y_sz y_bg) := dD hD0 rfl
      refine lv_iload_n hx hb d_M_take_2 rfl (lv_at hl 3 rfl) ?_
      refine lv_iconst (v := 4) hx hb d_M_take_3 (by decide) ?_
      refine lv_icmp_ge (tgt := 39) hx hb d_M_take_4 (by decide) (fun c_1 => ?_) (fun c_1 => ?_)
      · replace hf := (if_pos c_1).symm.trans hf
        refine lv_iconst (v := 0) hx hb d_M_take_39 (by decide) ?_
        refine lv_istore_n (lv' := [(3, .int (0)), (0, .ref (h0)), (1, .int (a0)), (2, .int (a1))]) hx hb d_M_take_40 rfl hl (by decide) rfl (fun ls hl => ?_)
        exact J41 80 0 y_th y_pf y_of y_sz y_bg _ _ _ hP hS (lv_sub hl [1, 2, 3, 0] rfl) hf
      · replace hf := (if_neg c_1).symm.trans hf
        refine lv_aload_n hx hb d_M_take_7 rfl (lv_at hl 0 rfl) ?_
        refine va_get (D := (dC, dI)) (ci := 1) (v := .ref (pt)) (C := "CodeWordsModel") (T := F_M) (N := 6) hx hb hts (in_M _) hown hK hP 0 rfl rfl 2 (by decide) (ht aw_441) (fun _ h9 => h9) rfl d_M_take_8 ?_
        refine lv_iload_n hx hb d_M_take_11 rfl (lv_at hl 3 rfl) ?_
        refine lv_iload_n hx hb d_M_take_12 rfl (lv_at hl 3 rfl) ?_
        refine lv_iconst (v := 3) hx hb d_M_take_13 (by decide) ?_
        refine lv_icmp_ge (tgt := 31) hx hb d_M_take_14 (by decide) (fun c_27 => ?_) (fun c_27 => ?_)
        · replace hf := (if_pos c_27).symm.trans hf
          refine lv_iconst (v := 0) hx hb d_M_take_31 (by decide) ?_
          obtain ⟨z_28, hf⟩ := ju_gd hf
          refine va_iast hx hb hK hP hD hS 2 0 rfl rfl z_28 d_M_take_32 (fun H locs hP hD hS => ?_)
          have hP : va_P (dC, dI) cls2 (wM cI h0 rw pt ou y_th mR (upd y_pf x3.toNatClampNeg 0) y_of y_sz y_bg) H := hP
          have hD : va_D (aM h0 rw pt ou) (wM cI h0 rw pt ou y_th mR (upd y_pf x3.toNatClampNeg 0) y_of y_sz y_bg) := hD
          refine lv_iinc (v := x3 + 1) (lv' := [(3, .int (x3 + 1)), (0, .ref (h0)), (1, .int (a0)), (2, .int (a1))]) hx hb d_M_take_33 hl (k := 3) rfl rfl (by decide) rfl (fun ls hl => ?_)
          refine lv_goto (tgt := 2) hx hb d_M_take_36 (by decide) ?_
          exact ih (x3 + 1) y_th (upd y_pf x3.toNatClampNeg 0) y_of y_sz y_bg _ _ _ hP hS (lv_sub hl [1, 2, 3, 0] rfl) hf
        · replace hf := (if_neg c_27).symm.trans hf
          refine lv_aload_n hx hb d_M_take_17 rfl (lv_at hl 0 rfl) ?_
          refine lv_iload_n hx hb d_M_take_18 rfl (lv_at hl 1 rfl) ?_
          refine lv_iload_n hx hb d_M_take_19 rfl (lv_at hl 3 rfl) ?_
          obtain ⟨r_29, g_30, hf⟩ := Option.bind_eq_some_iff.mp hf
          refine ju_calli (W.runV (As := [.int (a0), .int (x3)]) (rest := [.int (x3), .ref (pt)]) ⟨hx, hb, hml, hown, hts⟩ (c_M_isShortPart l (ad := ad) (sk := sk) (sv := sv) (tK := tK) dC dI cI h0 rw pt ou y_th y_pf y_of y_sz y_bg a0 x3  r_29 g_30) (cwV 2 hts (aw_V aw_485 aw_487 aw_p26 aw_2 aw_488) rfl rfl rfl (by decide +kernel) ⟨Nat.le_of_ble_eq_true rfl, Nat.le_of_ble_eq_true rfl⟩) ⟨wBlind, va_recv hK hP (ci := 1) (q0 := 0) rfl rfl, fun U hU hW => ⟨rfl, by rw [hU]; exact hP, va_K.moved hW.alike hK, hD, hT.at hS hU hW (fun _ z => z)⟩⟩ rfl rfl hl.1 rfl (lv_room (Nat.le_of_ble_eq_true rfl)) d_M_take_20 ⟨Nat.le_refl _, Nat.le_refl _⟩) ?_
          refine lv_if_eq (tgt := 31) hx hb d_M_take_23 (by decide) (fun c_31 => ?_) (fun c_31 => ?_)
          · replace hf := (if_pos c_31).symm.trans hf
            refine lv_iconst (v := 0) hx hb d_M_take_31 (by decide) ?_
            obtain ⟨z_32, hf⟩ := ju_gd hf
            refine va_iast hx hb hK hP hD hS 2 0 rfl rfl z_32 d_M_take_32 (fun H locs hP hD hS => ?_)
            have hP : va_P (dC, dI) cls2 (wM cI h0 rw pt ou y_th mR (upd y_pf x3.toNatClampNeg 0) y_of y_sz y_bg) H := hP
            have hD : va_D (aM h0 rw pt ou) (wM cI h0 rw pt ou y_th mR (upd y_pf x3.toNatClampNeg 0) y_of y_sz y_bg) := hD
            refine lv_iinc (v := x3 + 1) (lv' := [(3, .int (x3 + 1)), (0, .ref (h0)), (1, .int (a0)), (2, .int (a1))]) hx hb d_M_take_33 hl (k := 3) rfl rfl (by decide) rfl (fun ls hl => ?_)
            refine lv_goto (tgt := 2) hx hb d_M_take_36 (by decide) ?_
            exact ih (x3 + 1) y_th (upd y_pf x3.toNatClampNeg 0) y_of y_sz y_bg _ _ _ hP hS (lv_sub hl [1, 2, 3, 0] rfl) hf
          · replace hf := (if_neg c_31).symm.trans hf
            refine lv_bipush (v := 8) hx hb d_M_take_26 (by decide) ?_
            refine lv_goto (tgt := 32) hx hb d_M_take_28 (by decide) ?_
            obtain ⟨z_33, hf⟩ := ju_gd hf
            refine va_iast hx hb hK hP hD hS 2 0 rfl rfl z_33 d_M_take_32 (fun H locs hP hD hS => ?_)
            have hP : va_P (dC, dI) cls2 (wM cI h0 rw pt ou y_th mR (upd y_pf x3.toNatClampNeg 8) y_of y_sz y_bg) H := hP
            have hD : va_D (aM h0 rw pt ou) (wM cI h0 rw pt ou y_th mR (upd y_pf x3.toNatClampNeg 8) y_of y_sz y_bg) := hD
            refine lv_iinc (v := x3 + 1) (lv' := [(3, .int (x3 + 1)), (0, .ref (h0)), (1, .int (a0)), (2, .int (a1))]) hx hb d_M_take_33 hl (k := 3) rfl rfl (by decide) rfl (fun ls hl => ?_)
            refine lv_goto (tgt := 2) hx hb d_M_take_36 (by decide) ?_
            exact ih (x3 + 1) y_th (upd y_pf x3.toNatClampNeg 8) y_of y_sz y_bg _ _ _ hP hS (lv_sub hl [1, 2, 3, 0] rfl) hf
  rw [f_M_take] at hf
  refine lv_iconst (v := 0) hx hb d_M_take_0 (by decide) ?_
  refine lv_istore_n (lv' := [(3, .int (0)), (0, .ref (h0)), (1, .int (a0)), (2, .int (a1))]) hx hb d_M_take_1 rfl hl (by decide) rfl (fun ls hl => ?_)
  exact J2 80 0 w_th w_pf w_of w_sz w_bg _ _ _ hP hS (lv_sub hl [1, 2, 3, 0] rfl) hf

def f_M_find_L32 (w_th : Int32) (w_pf : Nat → Int32) (w_of : Nat → Int32) (w_sz : Int32) (w_bg : Int32) (a0 : Int32)  : Nat → Int32 → Int32 → Int32 → Int32 → (Nat → Int32) → (Nat → Int32) → Int32 → Int32 → Option (Int32 × Int32 × (Nat → Int32) × (Nat → Int32) × Int32 × Int32)
  | 0, _, _, _, _, _, _, _, _ => none
  | n + 1, x2, x3, x4, y_th, y_pf, y_of, y_sz, y_bg =>
    if x3 ≤ x4 then (some ((-1), y_th, y_pf, y_of, y_sz, y_bg)) else ((f_M_take y_th y_pf y_of y_sz y_bg x4 a0).bind fun r_8 => if (bI r_8.1) = 0 then (f_M_find_L32 w_th w_pf w_of w_sz w_bg a0  n x2 x3 (x4 + 1) r_8.2.1 r_8.2.2.1 r_8.2.2.2.1 r_8.2.2.2.2.1 r_8.2.2.2.2.2) else (some (x4, r_8.2.1, r_8.2.2.1, r_8.2.2.2.1, r_8.2.2.2.2.1, r_8.2.2.2.2.2)))
def f_M_find_L13 (w_th : Int32) (w_pf : Nat → Int32) (w_of : Nat → Int32) (w_sz : Int32) (w_bg : Int32) (a0 : Int32)  (t0 : Int32) (y_th : Int32) (y_pf : (Nat → Int32)) (y_of : (Nat → Int32)) (y_sz : Int32) (y_bg : Int32) : Option (Int32 × Int32 × (Nat → Int32) × (Nat → Int32) × Int32 × Int32) :=
  (f_M_isLong a0).bind fun r_4 => if (bI r_4) = 0 then (f_M_find_L32 w_th w_pf w_of w_sz w_bg a0  80 t0 75 t0 y_th y_pf y_of y_sz y_bg) else (f_M_find_L32 w_th w_pf w_of w_sz w_bg a0  80 t0 48 t0 y_th y_pf y_of y_sz y_bg)
def f_M_find (w_th : Int32) (w_pf : Nat → Int32) (w_of : Nat → Int32) (w_sz : Int32) (w_bg : Int32) (a0 : Int32) : Option (Int32 × Int32 × (Nat → Int32) × (Nat → Int32) × Int32 × Int32) :=
  (f_M_isLong a0).bind fun r_1 => if (bI r_1) = 0 then (f_M_find_L13 w_th w_pf w_of w_sz w_bg a0  48 w_th w_pf w_of w_sz w_bg) else (f_M_find_L13 w_th w_pf w_of w_sz w_bg a0  0 w_th w_pf w_of w_sz w_bg)
set_option maxHeartbeats 1000000 in
set_option maxRecDepth 100000 in
theorem c_M_find (l : Launch) {ad sk sv : Nat → Nat} {tK : Nat} (dC : Nat → ClassId) (dI : Nat → Nat → Nat) (cI : ClassId) (h0 rw pt ou : Nat) (w_th : Int32) (w_pf : Nat → Int32) (w_of : Nat → Int32) (w_sz : Int32) (w_bg : Int32) (a0 : Int32)  (r : Int32 × Int32 × (Nat → Int32) × (Nat → Int32) × Int32 × Int32) (hf : f_M_find w_th w_pf w_of w_sz w_bg a0 = some r) : Met l y_M_find (Cond.code y_M_find b_M_find 5 (Option.some FieldType.int) :: aw) ({ frames := 5, cells := 0, slots := 0, locals := 113 } : Room) (va_Pc [.ref (h0), .int (a0)] (fun U => va_P (dC, dI) cls2 (wM cI h0 rw pt ou w_th mR w_pf w_of w_sz w_bg) U.heap ∧ va_K (dC, dI) cls2 [(cI, .int)] U ∧ va_D (aM h0 rw pt ou) (wM cI h0 rw pt ou w_th mR w_pf w_of w_sz w_bg) ∧ tb ad sk sv tK (aM h0 rw pt ou) U U.heap)) (va_Qi (fun v u => v = r.1 ∧ u = r.2) (fun (u : Int32 × (Nat → Int32) × (Nat → Int32) × Int32 × Int32) t => va_P (dC, dI) cls2 (wM cI h0 rw pt ou u.1 mR u.2.1 u.2.2.1 u.2.2.2.1 u.2.2.2.2) t.heap) (aM h0 rw pt ou)) 0 0 (aM h0 rw pt ou) := by
  refine Met.ofW (cc := b_M_find) (maxL := 5) (ret := (Option.some FieldType.int)) (by decide) rfl ?_
  intro p e s m args below meth c s₁ B hml hv
  obtain ⟨rfl, hP, hK, hD, hT⟩ := hv
  have hD0 := hD
  have hx := B.exec
  have hb := B.bytes
  have hr := B.returns
  have hts := atoms_spec (ws := (Cond.code y_M_find b_M_find 5 (Option.some FieldType.int) :: aw)) B.pre
  have ht : ∀ {w : Cond}, w ∈ aw → w.before ([.ref (h0), .int (a0)] : List Value).toArray s = true := fun h => hts _ (List.mem_cons_of_mem _ h)
  have hown : s.vm.findClass "CodeWordsModel" = some m.cls := findClass_of_methodNamed B.named
  have hlocks := B.notSynchronized
  have hS : va_S (aM h0 rw pt ou) s.heap s.heap [] := va_S.rf
  have hl := lv_entry ([.ref (h0), .int (a0)]) (n := 5) (Nat.le_of_ble_eq_true rfl)
  rw [lg_entry_eq]
  generalize (lg_sl ([.ref (h0), .int (a0)]) ++ List.replicate (5 - (lg_sl ([.ref (h0), .int (a0)])).length) Slot.unset).toArray = ls at hl ⊢
  have hl : lv_has ls 5 [(0, .ref (h0)), (1, .int (a0))] := hl
  have J32 : ∀ (n : Nat) (x2 : Int32) (x3 : Int32) (x4 : Int32) (y_th : Int32) (y_pf : (Nat → Int32)) (y_of : (Nat → Int32)) (y_sz : Int32) (y_bg : Int32) (H : Heap) (locs : List Loc) (ls : Array Slot), va_P (dC, dI) cls2 (wM cI h0 rw pt ou y_th mR y_pf y_of y_sz y_bg) H → va_S (aM h0 rw pt ou) s.heap H locs → lv_has ls 5 [(0, .ref (h0)), (1, .int (a0)), (2, .int (x2)), (3, .int (x3)), (4, .int (x4))] → f_M_find_L32 w_th w_pf w_of w_sz w_bg a0  n x2 x3 x4 y_th y_pf y_of y_sz y_bg = some r → wW p l e (headSpec (Cond.code y_M_find b_M_find 5 (Option.some FieldType.int) :: aw) ({ frames := 5, cells := 0, slots := 0, locals := 113 } : Room)).room s m ([.ref (h0), .int (a0)] : List Value).toArray below meth c (va_Qi (fun v u => v = r.1 ∧ u = r.2) (fun (u : Int32 × (Nat → Int32) × (Nat → Int32) × Int32 × Int32) t => va_P (dC, dI) cls2 (wM cI h0 rw pt ou u.1 mR u.2.1 u.2.2.1 u.2.2.2.1 u.2.2.2.2) t.heap) (aM h0 rw pt ou)) (aM h0 rw pt ou) H locs (F0 m 32 ls []) := by
    intro n
    induction n with
    | zero =>
      intro x2 x3 x4 y_th y_pf y_of y_sz y_bg H locs ls hP hS hl hf
      rw [f_M_find_L32] at hf
      cases hf
    | succ n ih =>
      intro x2 x3 x4 y_th y_pf y_of y_sz y_bg H locs ls hP hS hl hf
      rw [f_M_find_L32] at hf
      have hD : va_D (aM h0 rw pt ou) (wM cI h0 rw pt ou y_th mR y_pf y_of y_sz y_bg) := dD hD0 rfl
      refine lv_iload hx hb d_M_find_32 (lv_at hl 4 rfl) ?_
      refine lv_iload_n hx hb d_M_find_34 rfl (lv_at hl 3 rfl) ?_
      refine lv_icmp_ge (tgt := 57) hx hb d_M_find_35 (by decide) (fun c_7 => ?_) (fun c_7 => ?_)
      · replace hf := (if_pos c_7).symm.trans hf
        refine lv_iconst (v := (-1)) hx hb d_M_find_57 (by decide) ?_
        exact W.iret (v := (-1)) hx hb hr (fun t ht hW => ⟨⟨_, (y_th, y_pf, y_of, y_sz, y_bg), rfl, ⟨congrArg (fun z => z.1) (Option.some.inj hf), congrArg (fun z => z.2) (Option.some.inj hf)⟩, by rw [← ht] at hP; exact hP⟩, hS.F ht⟩) hS.2.2 d_M_find_58
      · replace hf := (if_neg c_7).symm.trans hf
        refine lv_aload_n hx hb d_M_find_38 rfl (lv_at hl 0 rfl) ?_
        refine lv_iload hx hb d_M_find_39 (lv_at hl 4 rfl) ?_
        refine lv_iload_n hx hb d_M_find_41 rfl (lv_at hl 1 rfl) ?_
        obtain ⟨r_8, g_9, hf⟩ := Option.bind_eq_some_iff.mp hf
        refine va_calli (va_runV (As := [.int (x4), .int (a0)]) (rest := []) ⟨hx, hb, hml, hown, hts⟩ (c_M_take l (ad := ad) (sk := sk) (sv := sv) (tK := tK) dC dI cI h0 rw pt ou y_th y_pf y_of y_sz y_bg x4 a0  r_8 g_9) (cwV 2 hts (aw_V aw_531 aw_533 aw_p29 aw_2 aw_534) rfl rfl rfl (by decide +kernel) ⟨Nat.le_of_ble_eq_true rfl, Nat.le_of_ble_eq_true rfl⟩) ⟨wBlind, va_recv hK hP (ci := 1) (q0 := 0) rfl rfl, fun U hU hW => ⟨rfl, by rw [hU]; exact hP, va_K.moved hW.alike hK, hD, hT.at hS hU hW (fun _ z => z)⟩⟩ rfl rfl hl.1 rfl (lv_room (Nat.le_of_ble_eq_true rfl)) d_M_find_42 ⟨Nat.le_refl _, Nat.le_refl _⟩) hS (fun _ _ h => h) (fun _ h => h) (fun v1 u t H1 locs ht1 hvm hw hB hz1 hk1 hS => ?_)
        obtain ⟨hw1, hw2⟩ := hw
        rw [hw1]
        rw [hw2] at hB
        rw [ht1] at hB
        have hP : va_P (dC, dI) cls2 (wM cI h0 rw pt ou r_8.2.1 mR r_8.2.2.1 r_8.2.2.2.1 r_8.2.2.2.2.1 r_8.2.2.2.2.2) H1 := hB
        have hD : va_D (aM h0 rw pt ou) (wM cI h0 rw pt ou r_8.2.1 mR r_8.2.2.1 r_8.2.2.2.1 r_8.2.2.2.2.1 r_8.2.2.2.2.2) := dD hD0 rfl
        refine lv_if_eq (tgt := 51) hx hb d_M_find_45 (by decide) (fun c_10 => ?_) (fun c_10 => ?_)
        · replace hf := (if_pos c_10).symm.trans hf
          refine lv_iinc (v := x4 + 1) (lv' := [(4, .int (x4 + 1)), (0, .ref (h0)), (1, .int (a0)), (2, .int (x2)), (3, .int (x3))]) hx hb d_M_find_51 hl (k := 4) rfl rfl (by decide) rfl (fun ls hl => ?_)
          refine lv_goto (tgt := 32) hx hb d_M_find_54 (by decide) ?_
          exact ih x2 x3 (x4 + 1) r_8.2.1 r_8.2.2.1 r_8.2.2.2.1 r_8.2.2.2.2.1 r_8.2.2.2.2.2 _ _ _ hP hS (lv_sub hl [1, 2, 3, 4, 0] rfl) hf
        · replace hf := (if_neg c_10).symm.trans hf
          refine lv_iload hx hb d_M_find_48 (lv_at hl 4 rfl) ?_
          exact W.iret (v := x4) hx hb hr (fun t ht hW => ⟨⟨_, (r_8.2.1, r_8.2.2.1, r_8.2.2.2.1, r_8.2.2.2.2.1, r_8.2.2.2.2.2), rfl, ⟨congrArg (fun z => z.1) (Option.some.inj hf), congrArg (fun z => z.2) (Option.some.inj hf)⟩, by rw [← ht] at hP; exact hP⟩, hS.F ht⟩) hS.2.2 d_M_find_50
  have J13 : ∀ (t0 : Int32) (y_th : Int32) (y_pf : (Nat → Int32)) (y_of : (Nat → Int32)) (y_sz : Int32) (y_bg : Int32) (H : Heap) (locs : List Loc) (ls : Array Slot), va_P (dC, dI) cls2 (wM cI h0 rw pt ou y_th mR y_pf y_of y_sz y_bg) H → va_S (aM h0 rw pt ou) s.heap H locs → lv_has ls 5 [(0, .ref (h0)), (1, .int (a0))] → f_M_find_L13 w_th w_pf w_of w_sz w_bg a0  t0 y_th y_pf y_of y_sz y_bg = some r → wW p l e (headSpec (Cond.code y_M_find b_M_find 5 (Option.some FieldType.int) :: aw) ({ frames := 5, cells := 0, slots := 0, locals := 113 } : Room)).room s m ([.ref (h0), .int (a0)] : List Value).toArray below meth c (va_Qi (fun v u => v = r.1 ∧ u = r.2) (fun (u : Int32 × (Nat → Int32) × (Nat → Int32) × Int32 × Int32) t => va_P (dC, dI) cls2 (wM cI h0 rw pt ou u.1 mR u.2.1 u.2.2.1 u.2.2.2.1 u.2.2.2.2) t.heap) (aM h0 rw pt ou)) (aM h0 rw pt ou) H locs (F0 m 13 ls [.int (t0)]) := by
    intro t0 y_th y_pf y_of y_sz y_bg H locs ls hP hS hl hf
    rw [f_M_find_L13] at hf
    have hD : va_D (aM h0 rw pt ou) (wM cI h0 rw pt ou y_th mR y_pf y_of y_sz y_bg) := dD hD0 rfl
    refine lv_istore_n (lv' := [(2, .int (t0)), (0, .ref (h0)), (1, .int (a0))]) hx hb d_M_find_13 rfl hl (by decide) rfl (fun ls hl => ?_)
    refine lv_iload_n hx hb d_M_find_14 rfl (lv_at hl 2 rfl) ?_
    obtain ⟨r_4, g_5, hf⟩ := Option.bind_eq_some_iff.mp hf
    refine ju_calli (W.runS (As := [.int (a0)]) (rest := []) ⟨hx, hb, hml, hown, hts⟩ (c_M_isLong l (ad := ad) (sk := sk) (sv := sv) (tK := tK)  a0  r_4 g_5) (va_cwS 1 hts (aw_S aw_528 aw_529 aw_2 aw_530) rfl rfl rfl (by decide +kernel) ⟨Nat.le_of_ble_eq_true rfl, Nat.le_of_ble_eq_true rfl⟩) ⟨fun a U g mk q => ⟨q.1, q.2.call⟩, fun U hU hW => ⟨rfl, hT.at hS hU hW (fun _ z => z.elim)⟩⟩ rfl rfl hl.1 rfl (lv_room (Nat.le_of_ble_eq_true rfl)) d_M_find_15 ⟨Nat.le_refl _, Nat.le_refl _⟩) ?_
    refine lv_if_eq (tgt := 26) hx hb d_M_find_18 (by decide) (fun c_6 => ?_) (fun c_6 => ?_)
    · replace hf := (if_pos c_6).symm.trans hf
      refine lv_bipush (v := 75) hx hb d_M_find_26 (by decide) ?_
      refine lv_istore_n (lv' := [(3, .int (75)), (2, .int (t0)), (0, .ref (h0)), (1, .int (a0))]) hx hb d_M_find_28 rfl hl (by decide) rfl (fun ls hl => ?_)
      refine lv_iload_n hx hb d_M_find_29 rfl (lv_at hl 1 rfl) ?_
      refine lv_istore (lv' := [(4, .int (t0)), (3, .int (75)), (2, .int (t0)), (0, .ref (h0)), (1, .int (a0))]) hx hb d_M_find_30 hl (by decide) rfl (fun ls hl => ?_)
      exact J32 80 t0 75 t0 y_th y_pf y_of y_sz y_bg _ _ _ hP hS (lv_sub hl [3, 4, 2, 1, 0] rfl) hf
    · replace hf := (if_neg c_6).symm.trans hf
      refine lv_bipush (v := 48) hx hb d_M_find_21 (by decide) ?_
      refine lv_goto (tgt := 28) hx hb d_M_find_23 (by decide) ?_
      refine lv_istore_n (lv' := [(3, .int (48)), (2, .int (t0)), (0, .ref (h0)), (1, .int (a0))]) hx hb d_M_find_28 rfl hl (by decide) rfl (fun ls hl => ?_)
      refine lv_iload_n hx hb d_M_find_29 rfl (lv_at hl 1 rfl) ?_
      refine lv_istore (lv' := [(4, .int (t0)), (3, .int (48)), (2, .int (t0)), (0, .ref (h0)), (1, .int (a0))]) hx hb d_M_find_30 hl (by decide) rfl (fun ls hl => ?_)
      exact J32 80 t0 48 t0 y_th y_pf y_of y_sz y_bg _ _ _ hP hS (lv_sub hl [3, 4, 2, 1, 0] rfl) hf
  rw [f_M_find] at hf
  refine lv_iload_n hx hb d_M_find_0 rfl (lv_at hl 1 rfl) ?_
  obtain ⟨r_1, g_2, hf⟩ := Option.bind_eq_some_iff.mp hf
  refine ju_calli (W.runS (As := [.int (a0)]) (rest := []) ⟨hx, hb, hml, hown, hts⟩ (c_M_isLong l (ad := ad) (sk := sk) (sv := sv) (tK := tK)  a0  r_1 g_2) (va_cwS 1 hts (aw_S aw_528 aw_529 aw_2 aw_530) rfl rfl rfl (by decide +kernel) ⟨Nat.le_of_ble_eq_true rfl, Nat.le_of_ble_eq_true rfl⟩) ⟨fun a U g mk q => ⟨q.1, q.2.call⟩, fun U hU hW => ⟨rfl, hT.at hS hU hW (fun _ z => z.elim)⟩⟩ rfl rfl hl.1 rfl (lv_room (Nat.le_of_ble_eq_true rfl)) d_M_find_1 ⟨Nat.le_refl _, Nat.le_refl _⟩) ?_
  refine lv_if_eq (tgt := 11) hx hb d_M_find_4 (by decide) (fun c_3 => ?_) (fun c_3 => ?_)
  · replace hf := (if_pos c_3).symm.trans hf
    refine lv_bipush (v := 48) hx hb d_M_find_11 (by decide) ?_
    exact J13 48 w_th w_pf w_of w_sz w_bg _ _ _ hP hS (lv_sub hl [0, 1] rfl) hf
  · replace hf := (if_neg c_3).symm.trans hf
    refine lv_iconst (v := 0) hx hb d_M_find_7 (by decide) ?_
    refine lv_goto (tgt := 13) hx hb d_M_find_8 (by decide) ?_
    exact J13 0 w_th w_pf w_of w_sz w_bg _ _ _ hP hS (lv_sub hl [0, 1] rfl) hf

def f_M_word_L69 (w_th : Int32) (w_pf : Nat → Int32) (w_of : Nat → Int32) (w_sz : Int32) (w_bg : Int32) (a0 : Int32) (a1 : Int32) (a2 : Int32) (a3 : Int32) (a4 : Int32)  (t0 : Int32) (y_th : Int32) (y_pf : (Nat → Int32)) (y_of : (Nat → Int32)) (y_sz : Int32) (y_bg : Int32) : Option (Int32 × Int32 × (Nat → Int32) × (Nat → Int32) × Int32 × Int32) :=
  if t0 = 0 then ((f_M_put t0 y_pf y_of y_sz y_bg a0).bind fun r_13 => some (r_13, t0, y_pf, y_of, y_sz, y_bg)) else (some (0, t0, y_pf, y_of, y_sz, y_bg))
def f_M_word_L13 (w_th : Int32) (w_pf : Nat → Int32) (w_of : Nat → Int32) (w_sz : Int32) (w_bg : Int32) (a0 : Int32) (a1 : Int32) (a2 : Int32) (a3 : Int32) (a4 : Int32)  (t0 : Int32) (y_th : Int32) (y_pf : (Nat → Int32)) (y_of : (Nat → Int32)) (y_sz : Int32) (y_bg : Int32) : Option (Int32 × Int32 × (Nat → Int32) × (Nat → Int32) × Int32 × Int32) :=
  if t0 = 0 then (if (0 : Int32) < 0 ∨ 4 ≤ (0 : Int32).toNatClampNeg then none else if (1 : Int32) < 0 ∨ 4 ≤ (1 : Int32).toNatClampNeg then none else if (2 : Int32) < 0 ∨ 4 ≤ (2 : Int32).toNatClampNeg then none else if (3 : Int32) < 0 ∨ 4 ≤ (3 : Int32).toNatClampNeg then none else (f_M_areGood t0 (upd (upd (upd (upd y_pf (0 : Int32).toNatClampNeg a1) (1 : Int32).toNatClampNeg a2) (2 : Int32).toNatClampNeg a3) (3 : Int32).toNatClampNeg a4) y_of y_sz y_bg a0).bind fun r_9 => if (bI r_9) = 0 then (f_M_word_L69 w_th w_pf w_of w_sz w_bg a0 a1 a2 a3 a4  2 t0 (upd (upd (upd (upd y_pf (0 : Int32).toNatClampNeg a1) (1 : Int32).toNatClampNeg a2) (2 : Int32).toNatClampNeg a3) (3 : Int32).toNatClampNeg a4) y_of y_sz y_bg) else (f_M_word_L69 w_th w_pf w_of w_sz w_bg a0 a1 a2 a3 a4  0 t0 (upd (upd (upd (upd y_pf (0 : Int32).toNatClampNeg a1) (1 : Int32).toNatClampNeg a2) (2 : Int32).toNatClampNeg a3) (3 : Int32).toNatClampNeg a4) y_of y_sz y_bg)) else (some (0, t0, y_pf, y_of, y_sz, y_bg))
def f_M_word (w_th : Int32) (w_pf : Nat → Int32) (w_of : Nat → Int32) (w_sz : Int32) (w_bg : Int32) (a0 : Int32) (a1 : Int32) (a2 : Int32) (a3 : Int32) (a4 : Int32) : Option (Int32 × Int32 × (Nat → Int32) × (Nat → Int32) × Int32 × Int32) :=
  (f_M_isKind a0).bind fun r_1 => if (bI r_1) = 0 then (f_M_word_L13 w_th w_pf w_of w_sz w_bg a0 a1 a2 a3 a4  1 w_th w_pf w_of w_sz w_bg) else (f_M_word_L13 w_th w_pf w_of w_sz w_bg a0 a1 a2 a3 a4  0 w_th w_pf w_of w_sz w_bg)
set_option maxHeartbeats 1000000 in
set_option maxRecDepth 100000 in
theorem c_M_word (l : Launch) {ad sk sv : Nat → Nat} {tK : Nat} (dC : Nat → ClassId) (dI : Nat → Nat → Nat) (cI : ClassId) (h0 rw pt ou : Nat) (w_th : Int32) (w_pf : Nat → Int32) (w_of : Nat → Int32) (w_sz : Int32) (w_bg : Int32) (a0 : Int32) (a1 : Int32) (a2 : Int32) (a3 : Int32) (a4 : Int32)  (r : Int32 × Int32 × (Nat → Int32) × (Nat → Int32) × Int32 × Int32) (hf : f_M_word w_th w_pf w_of w_sz w_bg a0 a1 a2 a3 a4 = some r) : Met l y_M_word (Cond.code y_M_word b_M_word 6 (Option.some FieldType.int) :: aw) ({ frames := 4, cells := 0, slots := 0, locals := 88 } : Room) (va_Pc [.ref (h0), .int (a0), .int (a1), .int (a2), .int (a3), .int (a4)] (fun U => va_P (dC, dI) cls2 (wM cI h0 rw pt ou w_th mR w_pf w_of w_sz w_bg) U.heap ∧ va_K (dC, dI) cls2 [(cI, .int)] U ∧ va_D (aM h0 rw pt ou) (wM cI h0 rw pt ou w_th mR w_pf w_of w_sz w_bg) ∧ tb ad sk sv tK (aM h0 rw pt ou) U U.heap)) (va_Qi (fun v u => v = r.1 ∧ u = r.2) (fun (u : Int32 × (Nat → Int32) × (Nat → Int32) × Int32 × Int32) t => va_P (dC, dI) cls2 (wM cI h0 rw pt ou u.1 mR u.2.1 u.2.2.1 u.2.2.2.1 u.2.2.2.2) t.heap) (aM h0 rw pt ou)) 0 0 (aM h0 rw pt ou) := by
  refine Met.ofW (cc := b_M_word) (maxL := 6) (ret := (Option.some FieldType.int)) (by decide) rfl ?_
  intro p e s m args below meth c s₁ B hml hv
  obtain ⟨rfl, hP, hK, hD, hT⟩ := hv
  have hD0 := hD
  have hx := B.exec
  have hb := B.bytes
  have hr := B.returns
  have hts := atoms_spec (ws := (Cond.code y_M_word b_M_word 6 (Option.some FieldType.int) :: aw)) B.pre
  have ht : ∀ {w : Cond}, w ∈ aw → w.before ([.ref (h0), .int (a0), .int (a1), .int (a2), .int (a3), .int (a4)] : List Value).toArray s = true := fun h => hts _ (List.mem_cons_of_mem _ h)
  have hown : s.vm.findClass "CodeWordsModel" = some m.cls := findClass_of_methodNamed B.named
  have hlocks := B.notSynchronized
  have hS : va_S (aM h0 rw pt ou) s.heap s.heap [] := va_S.rf
  have hl := lv_entry ([.ref (h0), .int (a0), .int (a1), .int (a2), .int (a3), .int (a4)]) (n := 6) (Nat.le_of_ble_eq_true rfl)
  rw [lg_entry_eq]
  generalize (lg_sl ([.ref (h0), .int (a0), .int (a1), .int (a2), .int (a3), .int (a4)]) ++ List.replicate (6 - (lg_sl ([.ref (h0), .int (a0), .int (a1), .int (a2), .int (a3), .int (a4)])).length) Slot.unset).toArray = ls at hl ⊢
  have hl : lv_has ls 6 [(0, .ref (h0)), (1, .int (a0)), (2, .int (a1)), (3, .int (a2)), (4, .int (a3)), (5, .int (a4))] := hl
  have J69 : ∀ (t0 : Int32) (y_th : Int32) (y_pf : (Nat → Int32)) (y_of : (Nat → Int32)) (y_sz : Int32) (y_bg : Int32) (H : Heap) (locs : List Loc) (ls : Array Slot), va_P (dC, dI) cls2 (wM cI h0 rw pt ou y_th mR y_pf y_of y_sz y_bg) H → va_S (aM h0 rw pt ou) s.heap H locs → lv_has ls 6 [(0, .ref (h0)), (1, .int (a0)), (2, .int (a1)), (3, .int (a2)), (4, .int (a3)), (5, .int (a4))] → f_M_word_L69 w_th w_pf w_of w_sz w_bg a0 a1 a2 a3 a4  t0 y_th y_pf y_of y_sz y_bg = some r → wW p l e (headSpec (Cond.code y_M_word b_M_word 6 (Option.some FieldType.int) :: aw) ({ frames := 4, cells := 0, slots := 0, locals := 88 } : Room)).room s m ([.ref (h0), .int (a0), .int (a1), .int (a2), .int (a3), .int (a4)] : List Value).toArray below meth c (va_Qi (fun v u => v = r.1 ∧ u = r.2) (fun (u : Int32 × (Nat → Int32) × (Nat → Int32) × Int32 × Int32) t => va_P (dC, dI) cls2 (wM cI h0 rw pt ou u.1 mR u.2.1 u.2.2.1 u.2.2.2.1 u.2.2.2.2) t.heap) (aM h0 rw pt ou)) (aM h0 rw pt ou) H locs (F0 m 69 ls [.int (t0), .ref (h0)]) := by
    intro t0 y_th y_pf y_of y_sz y_bg H locs ls hP hS hl hf
    rw [f_M_word_L69] at hf
    have hD : va_D (aM h0 rw pt ou) (wM cI h0 rw pt ou y_th mR y_pf y_of y_sz y_bg) := dD hD0 rfl
    refine va_put (D := (dC, dI)) (ci := 1) (v := .int (t0)) (ty := .int) (C := "CodeWordsModel") (T := F_M) (N := 6) hx hb hts (in_M _) ty_M tyok_M nm_M hown hK hP hD hS 0 rfl rfl 0 (by decide) (ht aw_439) (fun _ h9 => h9) rfl (by decide +kernel) rfl rfl (Nat.le_of_ble_eq_true rfl) d_M_word_69 (fun H locs hP hD hS => ?_)
    have hP : va_P (dC, dI) cls2 (wM cI h0 rw pt ou t0 mR y_pf y_of y_sz y_bg) H := hP
    have hD : va_D (aM h0 rw pt ou) (wM cI h0 rw pt ou t0 mR y_pf y_of y_sz y_bg) := hD
    refine lv_aload_n hx hb d_M_word_72 rfl (lv_at hl 0 rfl) ?_
    refine va_get (D := (dC, dI)) (ci := 1) (v := .int (t0)) (C := "CodeWordsModel") (T := F_M) (N := 6) hx hb hts (in_M _) hown hK hP 0 rfl rfl 0 (by decide) (ht aw_439) (fun _ h9 => h9) rfl d_M_word_73 ?_
    refine lv_if_ne (tgt := 87) hx hb d_M_word_76 (by decide) (fun c_12 => ?_) (fun c_12 => ?_)
    · replace hf := (if_neg c_12).symm.trans hf
      refine lv_iconst (v := 0) hx hb d_M_word_87 (by decide) ?_
      exact W.iret (v := 0) hx hb hr (fun t ht hW => ⟨⟨_, (t0, y_pf, y_of, y_sz, y_bg), rfl, ⟨congrArg (fun z => z.1) (Option.some.inj hf), congrArg (fun z => z.2) (Option.some.inj hf)⟩, by rw [← ht] at hP; exact hP⟩, hS.F ht⟩) hS.2.2 d_M_word_88
    · replace hf := (if_pos c_12).symm.trans hf
      refine lv_aload_n hx hb d_M_word_79 rfl (lv_at hl 0 rfl) ?_
      refine lv_iload_n hx hb d_M_word_80 rfl (lv_at hl 1 rfl) ?_
      obtain ⟨r_13, g_14, hf⟩ := Option.bind_eq_some_iff.mp hf
      refine ju_calli (W.runV (As := [.int (a0)]) (rest := []) ⟨hx, hb, hml, hown, hts⟩ (c_M_put l (ad := ad) (sk := sk) (sv := sv) (tK := tK) dC dI cI h0 rw pt ou t0 y_pf y_of y_sz y_bg a0  r_13 g_14) (cwV 1 hts (aw_V aw_516 aw_518 aw_p27 aw_2 aw_519) rfl rfl rfl (by decide +kernel) ⟨Nat.le_of_ble_eq_true rfl, Nat.le_of_ble_eq_true rfl⟩) ⟨wBlind, va_recv hK hP (ci := 1) (q0 := 0) rfl rfl, fun U hU hW => ⟨rfl, by rw [hU]; exact hP, va_K.moved hW.alike hK, hD, hT.at hS hU hW (fun _ z => z)⟩⟩ rfl rfl hl.1 rfl (lv_room (Nat.le_of_ble_eq_true rfl)) d_M_word_81 ⟨Nat.le_refl _, Nat.le_refl _⟩) ?_
      refine lv_goto (tgt := 88) hx hb d_M_word_84 (by decide) ?_
      exact W.iret (v := r_13) hx hb hr (fun t ht hW => ⟨⟨_, (t0, y_pf, y_of, y_sz, y_bg), rfl, ⟨congrArg (fun z => z.1) (Option.some.inj hf), congrArg (fun z => z.2) (Option.some.inj hf)⟩, by rw [← ht] at hP; exact hP⟩, hS.F ht⟩) hS.2.2 d_M_word_88
  have J13 : ∀ (t0 : Int32) (y_th : Int32) (y_pf : (Nat → Int32)) (y_of : (Nat → Int32)) (y_sz : Int32) (y_bg : Int32) (H : Heap) (locs : List Loc) (ls : Array Slot), va_P (dC, dI) cls2 (wM cI h0 rw pt ou y_th mR y_pf y_of y_sz y_bg) H → va_S (aM h0 rw pt ou) s.heap H locs → lv_has ls 6 [(0, .ref (h0)), (1, .int (a0)), (2, .int (a1)), (3, .int (a2)), (4, .int (a3)), (5, .int (a4))] → f_M_word_L13 w_th w_pf w_of w_sz w_bg a0 a1 a2 a3 a4  t0 y_th y_pf y_of y_sz y_bg = some r → wW p l e (headSpec (Cond.code y_M_word b_M_word 6 (Option.some FieldType.int) :: aw) ({ frames := 4, cells := 0, slots := 0, locals := 88 } : Room)).room s m ([.ref (h0), .int (a0), .int (a1), .int (a2), .int (a3), .int (a4)] : List Value).toArray below meth c (va_Qi (fun v u => v = r.1 ∧ u = r.2) (fun (u : Int32 × (Nat → Int32) × (Nat → Int32) × Int32 × Int32) t => va_P (dC, dI) cls2 (wM cI h0 rw pt ou u.1 mR u.2.1 u.2.2.1 u.2.2.2.1 u.2.2.2.2) t.heap) (aM h0 rw pt ou)) (aM h0 rw pt ou) H locs (F0 m 13 ls [.int (t0), .ref (h0)]) := by
    intro t0 y_th y_pf y_of y_sz y_bg H locs ls hP hS hl hf
    rw [f_M_word_L13] at hf
    have hD : va_D (aM h0 rw pt ou) (wM cI h0 rw pt ou y_th mR y_pf y_of y_sz y_bg) := dD hD0 rfl
    refine va_put (D := (dC, dI)) (ci := 1) (v := .int (t0)) (ty := .int) (C := "CodeWordsModel") (T := F_M) (N := 6) hx hb hts (in_M _) ty_M tyok_M nm_M hown hK hP hD hS 0 rfl rfl 0 (by decide) (ht aw_439) (fun _ h9 => h9) rfl (by decide +kernel) rfl rfl (Nat.le_of_ble_eq_true rfl) d_M_word_13 (fun H locs hP hD hS => ?_)
    have hP : va_P (dC, dI) cls2 (wM cI h0 rw pt ou t0 mR y_pf y_of y_sz y_bg) H := hP
    have hD : va_D (aM h0 rw pt ou) (wM cI h0 rw pt ou t0 mR y_pf y_of y_sz y_bg) := hD
    refine lv_aload_n hx hb d_M_word_16 rfl (lv_at hl 0 rfl) ?_
    refine va_get (D := (dC, dI)) (ci := 1) (v := .int (t0)) (C := "CodeWordsModel") (T := F_M) (N := 6) hx hb hts (in_M _) hown hK hP 0 rfl rfl 0 (by decide) (ht aw_439) (fun _ h9 => h9) rfl d_M_word_17 ?_
    refine lv_if_eq (tgt := 25) hx hb d_M_word_20 (by decide) (fun c_4 => ?_) (fun c_4 => ?_)
    · replace hf := (if_pos c_4).symm.trans hf
      refine lv_aload_n hx hb d_M_word_25 rfl (lv_at hl 0 rfl) ?_
      refine va_get (D := (dC, dI)) (ci := 1) (v := .ref (pt)) (C := "CodeWordsModel") (T := F_M) (N := 6) hx hb hts (in_M _) hown hK hP 0 rfl rfl 2 (by decide) (ht aw_441) (fun _ h9 => h9) rfl d_M_word_26 ?_
      refine lv_iconst (v := 0) hx hb d_M_word_29 (by decide) ?_
      refine lv_iload_n hx hb d_M_word_30 rfl (lv_at hl 2 rfl) ?_
      obtain ⟨z_5, hf⟩ := ju_gd hf
      refine va_iast hx hb hK hP hD hS 2 0 rfl rfl z_5 d_M_word_31 (fun H locs hP hD hS => ?_)
      have hP : va_P (dC, dI) cls2 (wM cI h0 rw pt ou t0 mR (upd y_pf (0 : Int32).toNatClampNeg a1) y_of y_sz y_bg) H := hP
      have hD : va_D (aM h0 rw pt ou) (wM cI h0 rw pt ou t0 mR (upd y_pf (0 : Int32).toNatClampNeg a1) y_of y_sz y_bg) := hD
      refine lv_aload_n hx hb d_M_word_32 rfl (lv_at hl 0 rfl) ?_
      refine va_get (D := (dC, dI)) (ci := 1) (v := .ref (pt)) (C := "CodeWordsModel") (T := F_M) (N := 6) hx hb hts (in_M _) hown hK hP 0 rfl rfl 2 (by decide) (ht aw_441) (fun _ h9 => h9) rfl d_M_word_33 ?_
      refine lv_iconst (v := 1) hx hb d_M_word_36 (by decide) ?_
      refine lv_iload_n hx hb d_M_word_37 rfl (lv_at hl 3 rfl) ?_
      obtain ⟨z_6, hf⟩ := ju_gd hf
      refine va_iast hx hb hK hP hD hS 2 0 rfl rfl z_6 d_M_word_38 (fun H locs hP hD hS => ?_)
      have hP : va_P (dC, dI) cls2 (wM cI h0 rw pt ou t0 mR (upd (upd y_pf (0 : Int32).toNatClampNeg a1) (1 : Int32).toNatClampNeg a2) y_of y_sz y_bg) H := hP
      have hD : va_D (aM h0 rw pt ou) (wM cI h0 rw pt ou t0 mR (upd (upd y_pf (0 : Int32).toNatClampNeg a1) (1 : Int32).toNatClampNeg a2) y_of y_sz y_bg) := hD
      refine lv_aload_n hx hb d_M_word_39 rfl (lv_at hl 0 rfl) ?_
      refine va_get (D := (dC, dI)) (ci := 1) (v := .ref (pt)) (C := "CodeWordsModel") (T := F_M) (N := 6) hx hb hts (in_M _) hown hK hP 0 rfl rfl 2 (by decide) (ht aw_441) (fun _ h9 => h9) rfl d_M_word_40 ?_
      refine lv_iconst (v := 2) hx hb d_M_word_43 (by decide) ?_
      refine lv_iload hx hb d_M_word_44 (lv_at hl 4 rfl) ?_
      obtain ⟨z_7, hf⟩ := ju_gd hf
      refine va_iast hx hb hK hP hD hS 2 0 rfl rfl z_7 d_M_word_46 (fun H locs hP hD hS => ?_)
      have hP : va_P (dC, dI) cls2 (wM cI h0 rw pt ou t0 mR (upd (upd (upd y_pf (0 : Int32).toNatClampNeg a1) (1 : Int32).toNatClampNeg a2) (2 : Int32).toNatClampNeg a3) y_of y_sz y_bg) H := hP
      have hD : va_D (aM h0 rw pt ou) (wM cI h0 rw pt ou t0 mR (upd (upd (upd y_pf (0 : Int32).toNatClampNeg a1) (1 : Int32).toNatClampNeg a2) (2 : Int32).toNatClampNeg a3) y_of y_sz y_bg) := hD
      refine lv_aload_n hx hb d_M_word_47 rfl (lv_at hl 0 rfl) ?_
      refine va_get (D := (dC, dI)) (ci := 1) (v := .ref (pt)) (C := "CodeWordsModel") (T := F_M) (N := 6) hx hb hts (in_M _) hown hK hP 0 rfl rfl 2 (by decide) (ht aw_441) (fun _ h9 => h9) rfl d_M_word_48 ?_
      refine lv_iconst (v := 3) hx hb d_M_word_51 (by decide) ?_
      refine lv_iload hx hb d_M_word_52 (lv_at hl 5 rfl) ?_
      obtain ⟨z_8, hf⟩ := ju_gd hf
      refine va_iast hx hb hK hP hD hS 2 0 rfl rfl z_8 d_M_word_54 (fun H locs hP hD hS => ?_)
      have hP : va_P (dC, dI) cls2 (wM cI h0 rw pt ou t0 mR (upd (upd (upd (upd y_pf (0 : Int32).toNatClampNeg a1) (1 : Int32).toNatClampNeg a2) (2 : Int32).toNatClampNeg a3) (3 : Int32).toNatClampNeg a4) y_of y_sz y_bg) H := hP
      have hD : va_D (aM h0 rw pt ou) (wM cI h0 rw pt ou t0 mR (upd (upd (upd (upd y_pf (0 : Int32).toNatClampNeg a1) (1 : Int32).toNatClampNeg a2) (2 : Int32).toNatClampNeg a3) (3 : Int32).toNatClampNeg a4) y_of y_sz y_bg) := hD
      refine lv_aload_n hx hb d_M_word_55 rfl (lv_at hl 0 rfl) ?_
      refine lv_aload_n hx hb d_M_word_56 rfl (lv_at hl 0 rfl) ?_
      refine lv_iload_n hx hb d_M_word_57 rfl (lv_at hl 1 rfl) ?_
      obtain ⟨r_9, g_10, hf⟩ := Option.bind_eq_some_iff.mp hf
      refine ju_calli (W.runV (As := [.int (a0)]) (rest := [.ref (h0)]) ⟨hx, hb, hml, hown, hts⟩ (c_M_areGood l (ad := ad) (sk := sk) (sv := sv) (tK := tK) dC dI cI h0 rw pt ou t0 (upd (upd (upd (upd y_pf (0 : Int32).toNatClampNeg a1) (1 : Int32).toNatClampNeg a2) (2 : Int32).toNatClampNeg a3) (3 : Int32).toNatClampNeg a4) y_of y_sz y_bg a0  r_9 g_10) (cwV 1 hts (aw_V aw_470 aw_472 aw_p23 aw_2 aw_473) rfl rfl rfl (by decide +kernel) ⟨Nat.le_of_ble_eq_true rfl, Nat.le_of_ble_eq_true rfl⟩) ⟨wBlind, va_recv hK hP (ci := 1) (q0 := 0) rfl rfl, fun U hU hW => ⟨rfl, by rw [hU]; exact hP, va_K.moved hW.alike hK, hD, hT.at hS hU hW (fun _ z => z)⟩⟩ rfl rfl hl.1 rfl (lv_room (Nat.le_of_ble_eq_true rfl)) d_M_word_58 ⟨Nat.le_refl _, Nat.le_refl _⟩) ?_
      refine lv_if_eq (tgt := 68) hx hb d_M_word_61 (by decide) (fun c_11 => ?_) (fun c_11 => ?_)
      · replace hf := (if_pos c_11).symm.trans hf
        refine lv_iconst (v := 2) hx hb d_M_word_68 (by decide) ?_
        exact J69 2 t0 (upd (upd (upd (upd y_pf (0 : Int32).toNatClampNeg a1) (1 : Int32).toNatClampNeg a2) (2 : Int32).toNatClampNeg a3) (3 : Int32).toNatClampNeg a4) y_of y_sz y_bg _ _ _ hP hS (lv_sub hl [0, 1, 2, 3, 4, 5] rfl) hf
      · replace hf := (if_neg c_11).symm.trans hf
        refine lv_iconst (v := 0) hx hb d_M_word_64 (by decide) ?_
        refine lv_goto (tgt := 69) hx hb d_M_word_65 (by decide) ?_
        exact J69 0 t0 (upd (upd (upd (upd y_pf (0 : Int32).toNatClampNeg a1) (1 : Int32).toNatClampNeg a2) (2 : Int32).toNatClampNeg a3) (3 : Int32).toNatClampNeg a4) y_of y_sz y_bg _ _ _ hP hS (lv_sub hl [0, 1, 2, 3, 4, 5] rfl) hf
    · replace hf := (if_neg c_4).symm.trans hf
      refine lv_iconst (v := 0) hx hb d_M_word_23 (by decide) ?_
      exact W.iret (v := 0) hx hb hr (fun t ht hW => ⟨⟨_, (t0, y_pf, y_of, y_sz, y_bg), rfl, ⟨congrArg (fun z => z.1) (Option.some.inj hf), congrArg (fun z => z.2) (Option.some.inj hf)⟩, by rw [← ht] at hP; exact hP⟩, hS.F ht⟩) hS.2.2 d_M_word_24
  rw [f_M_word] at hf
  refine lv_aload_n hx hb d_M_word_0 rfl (lv_at hl 0 rfl) ?_
  refine lv_iload_n hx hb d_M_word_1 rfl (lv_at hl 1 rfl) ?_
  obtain ⟨r_1, g_2, hf⟩ := Option.bind_eq_some_iff.mp hf
  refine ju_calli (W.runS (As := [.int (a0)]) (rest := [.ref (h0)]) ⟨hx, hb, hml, hown, hts⟩ (c_M_isKind l (ad := ad) (sk := sk) (sv := sv) (tK := tK)  a0  r_1 g_2) (va_cwS 1 hts (aw_S aw_467 aw_468 aw_2 aw_469) rfl rfl rfl (by decide +kernel) ⟨Nat.le_of_ble_eq_true rfl, Nat.le_of_ble_eq_true rfl⟩) ⟨fun a U g mk q => ⟨q.1, q.2.call⟩, fun U hU hW => ⟨rfl, hT.at hS hU hW (fun _ z => z.elim)⟩⟩ rfl rfl hl.1 rfl (lv_room (Nat.le_of_ble_eq_true rfl)) d_M_word_2 ⟨Nat.le_refl _, Nat.le_refl _⟩) ?_
  refine lv_if_eq (tgt := 12) hx hb d_M_word_5 (by decide) (fun c_3 => ?_) (fun c_3 => ?_)
  · replace hf := (if_pos c_3).symm.trans hf
    refine lv_iconst (v := 1) hx hb d_M_word_12 (by decide) ?_
    exact J13 1 w_th w_pf w_of w_sz w_bg _ _ _ hP hS (lv_sub hl [0, 1, 2, 3, 4, 5] rfl) hf
  · replace hf := (if_neg c_3).symm.trans hf
    refine lv_iconst (v := 0) hx hb d_M_word_8 (by decide) ?_
    refine lv_goto (tgt := 13) hx hb d_M_word_9 (by decide) ?_
    exact J13 0 w_th w_pf w_of w_sz w_bg _ _ _ hP hS (lv_sub hl [0, 1, 2, 3, 4, 5] rfl) hf

def f_M_kind (w_th : Int32) (w_pf : Nat → Int32) (w_of : Nat → Int32) (w_sz : Int32) (w_bg : Int32) (a0 : Int32) : Option (Int32 × Int32 × (Nat → Int32) × (Nat → Int32) × Int32 × Int32) :=
  (f_M_find 0 w_pf w_of w_sz w_bg a0).bind fun r_1 => some (r_1.1, r_1.2.1, r_1.2.2.1, r_1.2.2.2.1, r_1.2.2.2.2.1, r_1.2.2.2.2.2)
set_option maxHeartbeats 1000000 in
set_option maxRecDepth 100000 in
theorem c_M_kind (l : Launch) {ad sk sv : Nat → Nat} {tK : Nat} (dC : Nat → ClassId) (dI : Nat → Nat → Nat) (cI : ClassId) (h0 rw pt ou : Nat) (w_th : Int32) (w_pf : Nat → Int32) (w_of : Nat → Int32) (w_sz : Int32) (w_bg : Int32) (a0 : Int32)  (r : Int32 × Int32 × (Nat → Int32) × (Nat → Int32) × Int32 × Int32) (hf : f_M_kind w_th w_pf w_of w_sz w_bg a0 = some r) : Met l y_M_kind (Cond.code y_M_kind b_M_kind 2 (Option.some FieldType.int) :: aw) ({ frames := 6, cells := 0, slots := 0, locals := 137 } : Room) (va_Pc [.ref (h0), .int (a0)] (fun U => va_P (dC, dI) cls2 (wM cI h0 rw pt ou w_th mR w_pf w_of w_sz w_bg) U.heap ∧ va_K (dC, dI) cls2 [(cI, .int)] U ∧ va_D (aM h0 rw pt ou) (wM cI h0 rw pt ou w_th mR w_pf w_of w_sz w_bg) ∧ tb ad sk sv tK (aM h0 rw pt ou) U U.heap)) (va_Qi (fun v u => v = r.1 ∧ u = r.2) (fun (u : Int32 × (Nat → Int32) × (Nat → Int32) × Int32 × Int32) t => va_P (dC, dI) cls2 (wM cI h0 rw pt ou u.1 mR u.2.1 u.2.2.1 u.2.2.2.1 u.2.2.2.2) t.heap) (aM h0 rw pt ou)) 0 0 (aM h0 rw pt ou) := by
  refine Met.ofW (cc := b_M_kind) (maxL := 2) (ret := (Option.some FieldType.int)) (by decide) rfl ?_
  intro p e s m args below meth c s₁ B hml hv
  obtain ⟨rfl, hP, hK, hD, hT⟩ := hv
  have hD0 := hD
  have hx := B.exec
  have hb := B.bytes
  have hr := B.returns
  have hts := atoms_spec (ws := (Cond.code y_M_kind b_M_kind 2 (Option.some FieldType.int) :: aw)) B.pre
  have ht : ∀ {w : Cond}, w ∈ aw → w.before ([.ref (h0), .int (a0)] : List Value).toArray s = true := fun h => hts _ (List.mem_cons_of_mem _ h)
  have hown : s.vm.findClass "CodeWordsModel" = some m.cls := findClass_of_methodNamed B.named
  have hlocks := B.notSynchronized
  have hS : va_S (aM h0 rw pt ou) s.heap s.heap [] := va_S.rf
  have hl := lv_entry ([.ref (h0), .int (a0)]) (n := 2) (Nat.le_of_ble_eq_true rfl)
  rw [lg_entry_eq]
  generalize (lg_sl ([.ref (h0), .int (a0)]) ++ List.replicate (2 - (lg_sl ([.ref (h0), .int (a0)])).length) Slot.unset).toArray = ls at hl ⊢
  have hl : lv_has ls 2 [(0, .ref (h0)), (1, .int (a0))] := hl
  rw [f_M_kind] at hf
  refine lv_aload_n hx hb d_M_kind_0 rfl (lv_at hl 0 rfl) ?_
  refine lv_iconst (v := 0) hx hb d_M_kind_1 (by decide) ?_
  refine va_put (D := (dC, dI)) (ci := 1) (v := .int (0)) (ty := .int) (C := "CodeWordsModel") (T := F_M) (N := 6) hx hb hts (in_M _) ty_M tyok_M nm_M hown hK hP hD hS 0 rfl rfl 0 (by decide) (ht aw_439) (fun _ h9 => h9) rfl (by decide +kernel) rfl rfl (Nat.le_of_ble_eq_true rfl) d_M_kind_2 (fun H locs hP hD hS => ?_)
  have hP : va_P (dC, dI) cls2 (wM cI h0 rw pt ou 0 mR w_pf w_of w_sz w_bg) H := hP
  have hD : va_D (aM h0 rw pt ou) (wM cI h0 rw pt ou 0 mR w_pf w_of w_sz w_bg) := hD
  refine lv_aload_n hx hb d_M_kind_5 rfl (lv_at hl 0 rfl) ?_
  refine lv_iload_n hx hb d_M_kind_6 rfl (lv_at hl 1 rfl) ?_
  obtain ⟨r_1, g_2, hf⟩ := Option.bind_eq_some_iff.mp hf
  refine va_calli (va_runV (As := [.int (a0)]) (rest := []) ⟨hx, hb, hml, hown, hts⟩ (c_M_find l (ad := ad) (sk := sk) (sv := sv) (tK := tK) dC dI cI h0 rw pt ou 0 w_pf w_of w_sz w_bg a0  r_1 g_2) (cwV 1 hts (aw_V aw_524 aw_526 aw_p28 aw_2 aw_527) rfl rfl rfl (by decide +kernel) ⟨Nat.le_of_ble_eq_true rfl, Nat.le_of_ble_eq_true rfl⟩) ⟨wBlind, va_recv hK hP (ci := 1) (q0 := 0) rfl rfl, fun U hU hW => ⟨rfl, by rw [hU]; exact hP, va_K.moved hW.alike hK, hD, hT.at hS hU hW (fun _ z => z)⟩⟩ rfl rfl hl.1 rfl (lv_room (Nat.le_of_ble_eq_true rfl)) d_M_kind_7 ⟨Nat.le_refl _, Nat.le_refl _⟩) hS (fun _ _ h => h) (fun _ h => h) (fun v1 u t H1 locs ht1 hvm hw hB hz1 hk1 hS => ?_)
  obtain ⟨hw1, hw2⟩ := hw
  rw [hw1]
  rw [hw2] at hB
  rw [ht1] at hB
  have hP : va_P (dC, dI) cls2 (wM cI h0 rw pt ou r_1.2.1 mR r_1.2.2.1 r_1.2.2.2.1 r_1.2.2.2.2.1 r_1.2.2.2.2.2) H1 := hB
  have hD : va_D (aM h0 rw pt ou) (wM cI h0 rw pt ou r_1.2.1 mR r_1.2.2.1 r_1.2.2.2.1 r_1.2.2.2.2.1 r_1.2.2.2.2.2) := dD hD0 rfl
  exact W.iret (v := r_1.1) hx hb hr (fun t ht hW => ⟨⟨_, (r_1.2.1, r_1.2.2.1, r_1.2.2.2.1, r_1.2.2.2.2.1, r_1.2.2.2.2.2), rfl, ⟨congrArg (fun z => z.1) (Option.some.inj hf), congrArg (fun z => z.2) (Option.some.inj hf)⟩, by rw [← ht] at hP; exact hP⟩, hS.F ht⟩) hS.2.2 d_M_kind_10

def f_M_size (w_th : Int32) (w_pf : Nat → Int32) (w_of : Nat → Int32) (w_sz : Int32) (w_bg : Int32) (a0 : Int32) : Option (Int32 × Int32 × (Nat → Int32) × (Nat → Int32) × Int32 × Int32) :=
  (f_M_isLong a0).bind fun r_1 => if (bI r_1) = 0 then (some (2, 0, w_pf, w_of, w_sz, w_bg)) else (some (4, 0, w_pf, w_of, w_sz, w_bg))
set_option maxHeartbeats 1000000 in
set_option maxRecDepth 100000 in
theorem c_M_size (l : Launch) {ad sk sv : Nat → Nat} {tK : Nat} (dC : Nat → ClassId) (dI : Nat → Nat → Nat) (cI : ClassId) (h0 rw pt ou : Nat) (w_th : Int32) (w_pf : Nat → Int32) (w_of : Nat → Int32) (w_sz : Int32) (w_bg : Int32) (a0 : Int32)  (r : Int32 × Int32 × (Nat → Int32) × (Nat → Int32) × Int32 × Int32) (hf : f_M_size w_th w_pf w_of w_sz w_bg a0 = some r) : Met l y_M_size (Cond.code y_M_size b_M_size 2 (Option.some FieldType.int) :: aw) ({ frames := 1, cells := 0, slots := 0, locals := 20 } : Room) (va_Pc [.ref (h0), .int (a0)] (fun U => va_P (dC, dI) cls2 (wM cI h0 rw pt ou w_th mR w_pf w_of w_sz w_bg) U.heap ∧ va_K (dC, dI) cls2 [(cI, .int)] U ∧ va_D (aM h0 rw pt ou) (wM cI h0 rw pt ou w_th mR w_pf w_of w_sz w_bg) ∧ tb ad sk sv tK (aM h0 rw pt ou) U U.heap)) (va_Qi (fun v u => v = r.1 ∧ u = r.2) (fun (u : Int32 × (Nat → Int32) × (Nat → Int32) × Int32 × Int32) t => va_P (dC, dI) cls2 (wM cI h0 rw pt ou u.1 mR u.2.1 u.2.2.1 u.2.2.2.1 u.2.2.2.2) t.heap) (aM h0 rw pt ou)) 0 0 (aM h0 rw pt ou) := by
  refine Met.ofW (cc := b_M_size) (maxL := 2) (ret := (Option.some FieldType.int)) (by decide) rfl ?_
  intro p e s m args below meth c s₁ B hml hv
  obtain ⟨rfl, hP, hK, hD, hT⟩ := hv
  have hD0 := hD
  have hx := B.exec
  have hb := B.bytes
  have hr := B.returns
  have hts := atoms_spec (ws := (Cond.code y_M_size b_M_size 2 (Option.some FieldType.int) :: aw)) B.pre
  have ht : ∀ {w : Cond}, w ∈ aw → w.before ([.ref (h0), .int (a0)] : List Value).toArray s = true := fun h => hts _ (List.mem_cons_of_mem _ h)
  have hown : s.vm.findClass "CodeWordsModel" = some m.cls := findClass_of_methodNamed B.named
  have hlocks := B.notSynchronized
  have hS : va_S (aM h0 rw pt ou) s.heap s.heap [] := va_S.rf
  have hl := lv_entry ([.ref (h0), .int (a0)]) (n := 2) (Nat.le_of_ble_eq_true rfl)
  rw [lg_entry_eq]
  generalize (lg_sl ([.ref (h0), .int (a0)]) ++ List.replicate (2 - (lg_sl ([.ref (h0), .int (a0)])).length) Slot.unset).toArray = ls at hl ⊢
  have hl : lv_has ls 2 [(0, .ref (h0)), (1, .int (a0))] := hl
  rw [f_M_size] at hf
  refine lv_aload_n hx hb d_M_size_0 rfl (lv_at hl 0 rfl) ?_
  refine lv_iconst (v := 0) hx hb d_M_size_1 (by decide) ?_
  refine va_put (D := (dC, dI)) (ci := 1) (v := .int (0)) (ty := .int) (C := "CodeWordsModel") (T := F_M) (N := 6) hx hb hts (in_M _) ty_M tyok_M nm_M hown hK hP hD hS 0 rfl rfl 0 (by decide) (ht aw_439) (fun _ h9 => h9) rfl (by decide +kernel) rfl rfl (Nat.le_of_ble_eq_true rfl) d_M_size_2 (fun H locs hP hD hS => ?_)
  have hP : va_P (dC, dI) cls2 (wM cI h0 rw pt ou 0 mR w_pf w_of w_sz w_bg) H := hP
  have hD : va_D (aM h0 rw pt ou) (wM cI h0 rw pt ou 0 mR w_pf w_of w_sz w_bg) := hD
  refine lv_iload_n hx hb d_M_size_5 rfl (lv_at hl 1 rfl) ?_
  obtain ⟨r_1, g_2, hf⟩ := Option.bind_eq_some_iff.mp hf
  refine ju_calli (W.runS (As := [.int (a0)]) (rest := []) ⟨hx, hb, hml, hown, hts⟩ (c_M_isLong l (ad := ad) (sk := sk) (sv := sv) (tK := tK)  a0  r_1 g_2) (va_cwS 1 hts (aw_S aw_528 aw_529 aw_2 aw_530) rfl rfl rfl (by decide +kernel) ⟨Nat.le_of_ble_eq_true rfl, Nat.le_of_ble_eq_true rfl⟩) ⟨fun a U g mk q => ⟨q.1, q.2.call⟩, fun U hU hW => ⟨rfl, hT.at hS hU hW (fun _ z => z.elim)⟩⟩ rfl rfl hl.1 rfl (lv_room (Nat.le_of_ble_eq_true rfl)) d_M_size_6 ⟨Nat.le_refl _, Nat.le_refl _⟩) ?_
  refine lv_if_eq (tgt := 16) hx hb d_M_size_9 (by decide) (fun c_3 => ?_) (fun c_3 => ?_)
  · replace hf := (if_pos c_3).symm.trans hf
    refine lv_iconst (v := 2) hx hb d_M_size_16 (by decide) ?_
    exact W.iret (v := 2) hx hb hr (fun t ht hW => ⟨⟨_, (0, w_pf, w_of, w_sz, w_bg), rfl, ⟨congrArg (fun z => z.1) (Option.some.inj hf), congrArg (fun z => z.2) (Option.some.inj hf)⟩, by rw [← ht] at hP; exact hP⟩, hS.F ht⟩) hS.2.2 d_M_size_17
  · replace hf := (if_neg c_3).symm.trans hf
    refine lv_iconst (v := 4) hx hb d_M_size_12 (by decide) ?_
    refine lv_goto (tgt := 17) hx hb d_M_size_13 (by decide) ?_
    exact W.iret (v := 4) hx hb hr (fun t ht hW => ⟨⟨_, (0, w_pf, w_of, w_sz, w_bg), rfl, ⟨congrArg (fun z => z.1) (Option.some.inj hf), congrArg (fun z => z.2) (Option.some.inj hf)⟩, by rw [← ht] at hP; exact hP⟩, hS.F ht⟩) hS.2.2 d_M_size_17

def f_M_part_L35 (w_th : Int32) (w_pf : Nat → Int32) (w_of : Nat → Int32) (w_sz : Int32) (w_bg : Int32) (a0 : Int32) (a1 : Int32)  (x3 : Int32) (t0 : Int32) (y_th : Int32) (y_pf : (Nat → Int32)) (y_of : (Nat → Int32)) (y_sz : Int32) (y_bg : Int32) : Option (Int32 × Int32 × (Nat → Int32) × (Nat → Int32) × Int32 × Int32) :=
  if t0 = 0 then (if a1 < 0 ∨ 4 ≤ a1.toNatClampNeg then none else some (y_pf a1.toNatClampNeg, t0, y_pf, y_of, y_sz, y_bg)) else (some (0, t0, y_pf, y_of, y_sz, y_bg))
def f_M_part_L34 (w_th : Int32) (w_pf : Nat → Int32) (w_of : Nat → Int32) (w_sz : Int32) (w_bg : Int32) (a0 : Int32) (a1 : Int32)  (x3 : Int32) (y_th : Int32) (y_pf : (Nat → Int32)) (y_of : (Nat → Int32)) (y_sz : Int32) (y_bg : Int32) : Option (Int32 × Int32 × (Nat → Int32) × (Nat → Int32) × Int32 × Int32) :=
  f_M_part_L35 w_th w_pf w_of w_sz w_bg a0 a1  x3 1 y_th y_pf y_of y_sz y_bg
def f_M_part (w_th : Int32) (w_pf : Nat → Int32) (w_of : Nat → Int32) (w_sz : Int32) (w_bg : Int32) (a0 : Int32) (a1 : Int32) : Option (Int32 × Int32 × (Nat → Int32) × (Nat → Int32) × Int32 × Int32) :=
  (f_M_find w_th w_pf w_of w_sz w_bg a0).bind fun r_1 => if r_1.1 = ((-1)) then (f_M_part_L34 w_th w_pf w_of w_sz w_bg a0 a1  r_1.1 r_1.2.1 r_1.2.2.1 r_1.2.2.2.1 r_1.2.2.2.2.1 r_1.2.2.2.2.2) else (if a1 < 0 then (f_M_part_L34 w_th w_pf w_of w_sz w_bg a0 a1  r_1.1 r_1.2.1 r_1.2.2.1 r_1.2.2.2.1 r_1.2.2.2.2.1 r_1.2.2.2.2.2) else (if 4 ≤ a1 then (f_M_part_L34 w_th w_pf w_of w_sz w_bg a0 a1  r_1.1 r_1.2.1 r_1.2.2.1 r_1.2.2.2.1 r_1.2.2.2.2.1 r_1.2.2.2.2.2) else ((f_M_has r_1.2.1 r_1.2.2.1 r_1.2.2.2.1 r_1.2.2.2.2.1 r_1.2.2.2.2.2 r_1.1 a1).bind fun r_8 => if (bI r_8) = 0 then (f_M_part_L34 w_th w_pf w_of w_sz w_bg a0 a1  r_1.1 r_1.2.1 r_1.2.2.1 r_1.2.2.2.1 r_1.2.2.2.2.1 r_1.2.2.2.2.2) else (f_M_part_L35 w_th w_pf w_of w_sz w_bg a0 a1  r_1.1 0 r_1.2.1 r_1.2.2.1 r_1.2.2.2.1 r_1.2.2.2.2.1 r_1.2.2.2.2.2))))
set_option maxHeartbeats 1000000 in
set_option maxRecDepth 100000 in
theorem c_M_part (l : Launch) {ad sk sv : Nat → Nat} {tK : Nat} (dC : Nat → ClassId) (dI : Nat → Nat → Nat) (cI : ClassId) (h0 rw pt ou : Nat) (w_th : Int32) (w_pf : Nat → Int32) (w_of : Nat → Int32) (w_sz : Int32) (w_bg : Int32) (a0 : Int32) (a1 : Int32)  (r : Int32 × Int32 × (Nat → Int32) × (Nat → Int32) × Int32 × Int32) (hf : f_M_part w_th w_pf w_of w_sz w_bg a0 a1 = some r) : Met l y_M_part (Cond.code y_M_part b_M_part 4 (Option.some FieldType.int) :: aw) ({ frames := 6, cells := 0, slots := 0, locals := 137 } : Room) (va_Pc [.ref (h0), .int (a0), .int (a1)] (fun U => va_P (dC, dI) cls2 (wM cI h0 rw pt ou w_th mR w_pf w_of w_sz w_bg) U.heap ∧ va_K (dC, dI) cls2 [(cI, .int)] U ∧ va_D (aM h0 rw pt ou) (wM cI h0 rw pt ou w_th mR w_pf w_of w_sz w_bg) ∧ tb ad sk sv tK (aM h0 rw pt ou) U U.heap)) (va_Qi (fun v u => v = r.1 ∧ u = r.2) (fun (u : Int32 × (Nat → Int32) × (Nat → Int32) × Int32 × Int32) t => va_P (dC, dI) cls2 (wM cI h0 rw pt ou u.1 mR u.2.1 u.2.2.1 u.2.2.2.1 u.2.2.2.2) t.heap) (aM h0 rw pt ou)) 0 0 (aM h0 rw pt ou) := by
  refine Met.ofW (cc := b_M_part) (maxL := 4) (ret := (Option.some FieldType.int)) (by decide) rfl ?_
  intro p e s m args below meth c s₁ B hml hv
  obtain ⟨rfl, hP, hK, hD, hT⟩ := hv
  have hD0 := hD
  have hx := B.exec
  have hb := B.bytes
  have hr := B.returns
  have hts := atoms_spec (ws := (Cond.code y_M_part b_M_part 4 (Option.some FieldType.int) :: aw)) B.pre
  have ht : ∀ {w : Cond}, w ∈ aw → w.before ([.ref (h0), .int (a0), .int (a1)] : List Value).toArray s = true := fun h => hts _ (List.mem_cons_of_mem _ h)
  have hown : s.vm.findClass "CodeWordsModel" = some m.cls := findClass_of_methodNamed B.named
  have hlocks := B.notSynchronized
  have hS : va_S (aM h0 rw pt ou) s.heap s.heap [] := va_S.rf
  have hl := lv_entry ([.ref (h0), .int (a0), .int (a1)]) (n := 4) (Nat.le_of_ble_eq_true rfl)
  rw [lg_entry_eq]
  generalize (lg_sl ([.ref (h0), .int (a0), .int (a1)]) ++ List.replicate (4 - (lg_sl ([.ref (h0), .int (a0), .int (a1)])).length) Slot.unset).toArray = ls at hl ⊢
  have hl : lv_has ls 4 [(0, .ref (h0)), (1, .int (a0)), (2, .int (a1))] := hl
  have J35 : ∀ (x3 : Int32) (t0 : Int32) (y_th : Int32) (y_pf : (Nat → Int32)) (y_of : (Nat → Int32)) (y_sz : Int32) (y_bg : Int32) (H : Heap) (locs : List Loc) (ls : Array Slot), va_P (dC, dI) cls2 (wM cI h0 rw pt ou y_th mR y_pf y_of y_sz y_bg) H → va_S (aM h0 rw pt ou) s.heap H locs → lv_has ls 4 [(0, .ref (h0)), (1, .int (a0)), (2, .int (a1)), (3, .int (x3))] → f_M_part_L35 w_th w_pf w_of w_sz w_bg a0 a1  x3 t0 y_th y_pf y_of y_sz y_bg = some r → wW p l e (headSpec (Cond.code y_M_part b_M_part 4 (Option.some FieldType.int) :: aw) ({ frames := 6, cells := 0, slots := 0, locals := 137 } : Room)).room s m ([.ref (h0), .int (a0), .int (a1)] : List Value).toArray below meth c (va_Qi (fun v u => v = r.1 ∧ u = r.2) (fun (u : Int32 × (Nat → Int32) × (Nat → Int32) × Int32 × Int32) t => va_P (dC, dI) cls2 (wM cI h0 rw pt ou u.1 mR u.2.1 u.2.2.1 u.2.2.2.1 u.2.2.2.2) t.heap) (aM h0 rw pt ou)) (aM h0 rw pt ou) H locs (F0 m 35 ls [.int (t0), .ref (h0)]) := by
    intro x3 t0 y_th y_pf y_of y_sz y_bg H locs ls hP hS hl hf
    rw [f_M_part_L35] at hf
    have hD : va_D (aM h0 rw pt ou) (wM cI h0 rw pt ou y_th mR y_pf y_of y_sz y_bg) := dD hD0 rfl
    refine va_put (D := (dC, dI)) (ci := 1) (v := .int (t0)) (ty := .int) (C := "CodeWordsModel") (T := F_M) (N := 6) hx hb hts (in_M _) ty_M tyok_M nm_M hown hK hP hD hS 0 rfl rfl 0 (by decide) (ht aw_439) (fun _ h9 => h9) rfl (by decide +kernel) rfl rfl (Nat.le_of_ble_eq_true rfl) d_M_part_35 (fun H locs hP hD hS => ?_)
    have hP : va_P (dC, dI) cls2 (wM cI h0 rw pt ou t0 mR y_pf y_of y_sz y_bg) H := hP
    have hD : va_D (aM h0 rw pt ou) (wM cI h0 rw pt ou t0 mR y_pf y_of y_sz y_bg) := hD
    refine lv_aload_n hx hb d_M_part_38 rfl (lv_at hl 0 rfl) ?_
    refine va_get (D := (dC, dI)) (ci := 1) (v := .int (t0)) (C := "CodeWordsModel") (T := F_M) (N := 6) hx hb hts (in_M _) hown hK hP 0 rfl rfl 0 (by decide) (ht aw_439) (fun _ h9 => h9) rfl d_M_part_39 ?_
    refine lv_if_ne (tgt := 54) hx hb d_M_part_42 (by decide) (fun c_4 => ?_) (fun c_4 => ?_)
    · replace hf := (if_neg c_4).symm.trans hf
      refine lv_iconst (v := 0) hx hb d_M_part_54 (by decide) ?_
      exact W.iret (v := 0) hx hb hr (fun t ht hW => ⟨⟨_, (t0, y_pf, y_of, y_sz, y_bg), rfl, ⟨congrArg (fun z => z.1) (Option.some.inj hf), congrArg (fun z => z.2) (Option.some.inj hf)⟩, by rw [← ht] at hP; exact hP⟩, hS.F ht⟩) hS.2.2 d_M_part_55
    · replace hf := (if_pos c_4).symm.trans hf
      refine lv_aload_n hx hb d_M_part_45 rfl (lv_at hl 0 rfl) ?_
      refine va_get (D := (dC, dI)) (ci := 1) (v := .ref (pt)) (C := "CodeWordsModel") (T := F_M) (N := 6) hx hb hts (in_M _) hown hK hP 0 rfl rfl 2 (by decide) (ht aw_441) (fun _ h9 => h9) rfl d_M_part_46 ?_
      refine lv_iload_n hx hb d_M_part_49 rfl (lv_at hl 2 rfl) ?_
      obtain ⟨z_5, hf⟩ := ju_gd hf
      refine va_iald hx hb hK hP 2 0 rfl rfl z_5 d_M_part_50 ?_
      refine lv_goto (tgt := 55) hx hb d_M_part_51 (by decide) ?_
      exact W.iret (v := y_pf a1.toNatClampNeg) hx hb hr (fun t ht hW => ⟨⟨_, (t0, y_pf, y_of, y_sz, y_bg), rfl, ⟨congrArg (fun z => z.1) (Option.some.inj hf), congrArg (fun z => z.2) (Option.some.inj hf)⟩, by rw [← ht] at hP; exact hP⟩, hS.F ht⟩) hS.2.2 d_M_part_55
  have J34 : ∀ (x3 : Int32) (y_th : Int32) (y_pf : (Nat → Int32)) (y_of : (Nat → Int32)) (y_sz : Int32) (y_bg : Int32) (H : Heap) (locs : List Loc) (ls : Array Slot), va_P (dC, dI) cls2 (wM cI h0 rw pt ou y_th mR y_pf y_of y_sz y_bg) H → va_S (aM h0 rw pt ou) s.heap H locs → lv_has ls 4 [(0, .ref (h0)), (1, .int (a0)), (2, .int (a1)), (3, .int (x3))] → f_M_part_L34 w_th w_pf w_of w_sz w_bg a0 a1  x3 y_th y_pf y_of y_sz y_bg = some r → wW p l e (headSpec (Cond.code y_M_part b_M_part 4 (Option.some FieldType.int) :: aw) ({ frames := 6, cells := 0, slots := 0, locals := 137 } : Room)).room s m ([.ref (h0), .int (a0), .int (a1)] : List Value).toArray below meth c (va_Qi (fun v u => v = r.1 ∧ u = r.2) (fun (u : Int32 × (Nat → Int32) × (Nat → Int32) × Int32 × Int32) t => va_P (dC, dI) cls2 (wM cI h0 rw pt ou u.1 mR u.2.1 u.2.2.1 u.2.2.2.1 u.2.2.2.2) t.heap) (aM h0 rw pt ou)) (aM h0 rw pt ou) H locs (F0 m 34 ls [.ref (h0)]) := by
    intro x3 y_th y_pf y_of y_sz y_bg H locs ls hP hS hl hf
    rw [f_M_part_L34] at hf
    have hD : va_D (aM h0 rw pt ou) (wM cI h0 rw pt ou y_th mR y_pf y_of y_sz y_bg) := dD hD0 rfl
    refine lv_iconst (v := 1) hx hb d_M_part_34 (by decide) ?_
    exact J35 x3 1 y_th y_pf y_of y_sz y_bg _ _ _ hP hS (lv_sub hl [0, 1, 2, 3] rfl) hf
  rw [f_M_part] at hf
  refine lv_aload_n hx hb d_M_part_0 rfl (lv_at hl 0 rfl) ?_
  refine lv_iload_n hx hb d_M_part_1 rfl (lv_at hl 1 rfl) ?_
  obtain ⟨r_1, g_2, hf⟩ := Option.bind_eq_some_iff.mp hf
  refine va_calli (va_runV (As := [.int (a0)]) (rest := []) ⟨hx, hb, hml, hown, hts⟩ (c_M_find l (ad := ad) (sk := sk) (sv := sv) (tK := tK) dC dI cI h0 rw pt ou w_th w_pf w_of w_sz w_bg a0  r_1 g_2) (cwV 1 hts (aw_V aw_524 aw_526 aw_p28 aw_2 aw_527) rfl rfl rfl (by decide +kernel) ⟨Nat.le_of_ble_eq_true rfl, Nat.le_of_ble_eq_true rfl⟩) ⟨wBlind, va_recv hK hP (ci := 1) (q0 := 0) rfl rfl, fun U hU hW => ⟨rfl, by rw [hU]; exact hP, va_K.moved hW.alike hK, hD, hT.at hS hU hW (fun _ z => z)⟩⟩ rfl rfl hl.1 rfl (lv_room (Nat.le_of_ble_eq_true rfl)) d_M_part_2 ⟨Nat.le_refl _, Nat.le_refl _⟩) hS (fun _ _ h => h) (fun _ h => h) (fun v1 u t H1 locs ht1 hvm hw hB hz1 hk1 hS => ?_)
  obtain ⟨hw1, hw2⟩ := hw
  rw [hw1]
  rw [hw2] at hB
  rw [ht1] at hB
  have hP : va_P (dC, dI) cls2 (wM cI h0 rw pt ou r_1.2.1 mR r_1.2.2.1 r_1.2.2.2.1 r_1.2.2.2.2.1 r_1.2.2.2.2.2) H1 := hB
  have hD : va_D (aM h0 rw pt ou) (wM cI h0 rw pt ou r_1.2.1 mR r_1.2.2.1 r_1.2.2.2.1 r_1.2.2.2.2.1 r_1.2.2.2.2.2) := dD hD0 rfl
  refine lv_istore_n (lv' := [(3, .int (r_1.1)), (0, .ref (h0)), (1, .int (a0)), (2, .int (a1))]) hx hb d_M_part_5 rfl hl (by decide) rfl (fun ls hl => ?_)
  refine lv_aload_n hx hb d_M_part_6 rfl (lv_at hl 1 rfl) ?_
  refine lv_iload_n hx hb d_M_part_7 rfl (lv_at hl 0 rfl) ?_
  refine lv_iconst (v := (-1)) hx hb d_M_part_8 (by decide) ?_
  refine lv_icmp_eq (tgt := 34) hx hb d_M_part_9 (by decide) (fun c_3 => ?_) (fun c_3 => ?_)
  · replace hf := (if_pos c_3).symm.trans hf
    exact J34 r_1.1 r_1.2.1 r_1.2.2.1 r_1.2.2.2.1 r_1.2.2.2.2.1 r_1.2.2.2.2.2 _ _ _ hP hS (lv_sub hl [1, 2, 3, 0] rfl) hf
  · replace hf := (if_neg c_3).symm.trans hf
    refine lv_iload_n hx hb d_M_part_12 rfl (lv_at hl 3 rfl) ?_
    refine lv_if_lt (tgt := 34) hx hb d_M_part_13 (by decide) (fun c_6 => ?_) (fun c_6 => ?_)
    · replace hf := (if_pos c_6).symm.trans hf
      exact J34 r_1.1 r_1.2.1 r_1.2.2.1 r_1.2.2.2.1 r_1.2.2.2.2.1 r_1.2.2.2.2.2 _ _ _ hP hS (lv_sub hl [1, 2, 3, 0] rfl) hf
    · replace hf := (if_neg c_6).symm.trans hf
      refine lv_iload_n hx hb d_M_part_16 rfl (lv_at hl 3 rfl) ?_
      refine lv_iconst (v := 4) hx hb d_M_part_17 (by decide) ?_
      refine lv_icmp_ge (tgt := 34) hx hb d_M_part_18 (by decide) (fun c_7 => ?_) (fun c_7 => ?_)
      · replace hf := (if_pos c_7).symm.trans hf
        exact J34 r_1.1 r_1.2.1 r_1.2.2.1 r_1.2.2.2.1 r_1.2.2.2.2.1 r_1.2.2.2.2.2 _ _ _ hP hS (lv_sub hl [1, 2, 3, 0] rfl) hf
      · replace hf := (if_neg c_7).symm.trans hf
        refine lv_aload_n hx hb d_M_part_21 rfl (lv_at hl 1 rfl) ?_
        refine lv_iload_n hx hb d_M_part_22 rfl (lv_at hl 0 rfl) ?_
        refine lv_iload_n hx hb d_M_part_23 rfl (lv_at hl 3 rfl) ?_
        obtain ⟨r_8, g_9, hf⟩ := Option.bind_eq_some_iff.mp hf
        refine ju_calli (W.runV (As := [.int (r_1.1), .int (a1)]) (rest := [.ref (h0)]) ⟨hx, hb, hml, hown, hts⟩ (c_M_has l (ad := ad) (sk := sk) (sv := sv) (tK := tK) dC dI cI h0 rw pt ou r_1.2.1 r_1.2.2.1 r_1.2.2.2.1 r_1.2.2.2.2.1 r_1.2.2.2.2.2 r_1.1 a1  r_8 g_9) (cwV 2 hts (aw_V aw_474 aw_476 aw_p24 aw_2 aw_477) rfl rfl rfl (by decide +kernel) ⟨Nat.le_of_ble_eq_true rfl, Nat.le_of_ble_eq_true rfl⟩) ⟨wBlind, va_recv hK hP (ci := 1) (q0 := 0) rfl rfl, fun U hU hW => ⟨rfl, by rw [hU]; exact hP, va_K.moved hW.alike hK, hD, hT.at hS hU hW (fun _ z => z)⟩⟩ rfl rfl hl.1 rfl (lv_room (Nat.le_of_ble_eq_true rfl)) d_M_part_24 ⟨Nat.le_refl _, Nat.le_refl _⟩) ?_
        refine lv_if_eq (tgt := 34) hx hb d_M_part_27 (by decide) (fun c_10 => ?_) (fun c_10 => ?_)
        · replace hf := (if_pos c_10).symm.trans hf
          exact J34 r_1.1 r_1.2.1 r_1.2.2.1 r_1.2.2.2.1 r_1.2.2.2.2.1 r_1.2.2.2.2.2 _ _ _ hP hS (lv_sub hl [1, 2, 3, 0] rfl) hf
        · replace hf := (if_neg c_10).symm.trans hf
          refine lv_iconst (v := 0) hx hb d_M_part_30 (by decide) ?_
          refine lv_goto (tgt := 35) hx hb d_M_part_31 (by decide) ?_
          exact J35 r_1.1 0 r_1.2.1 r_1.2.2.1 r_1.2.2.2.1 r_1.2.2.2.2.1 r_1.2.2.2.2.2 _ _ _ hP hS (lv_sub hl [1, 2, 3, 0] rfl) hf

def f_M_stretch_L234 (w_th : Int32) (w_pf : Nat → Int32) (w_of : Nat → Int32) (w_sz : Int32) (w_bg : Int32) (a0 : Int32)  (x2 : Int32) (x3 : Int32) (x4 : Int32) (y_th : Int32) (y_pf : (Nat → Int32)) (y_of : (Nat → Int32)) (y_sz : Int32) (y_bg : Int32) : Option (Int32 × Int32 × (Nat → Int32) × (Nat → Int32) × Int32 × Int32) :=
  if (3 : Int32) < 0 ∨ 4 ≤ (3 : Int32).toNatClampNeg then none else (f_M_longKind a0).bind fun r_17 => (f_M_put y_th (upd y_pf (3 : Int32).toNatClampNeg 0) y_of y_sz y_bg r_17).bind fun r_19 => some (r_19, y_th, upd y_pf (3 : Int32).toNatClampNeg 0, y_of, y_sz, y_bg)
def f_M_stretch_L216 (w_th : Int32) (w_pf : Nat → Int32) (w_of : Nat → Int32) (w_sz : Int32) (w_bg : Int32) (a0 : Int32)  (x2 : Int32) (x3 : Int32) (x4 : Int32) (y_th : Int32) (y_pf : (Nat → Int32)) (y_of : (Nat → Int32)) (y_sz : Int32) (y_bg : Int32) : Option (Int32 × Int32 × (Nat → Int32) × (Nat → Int32) × Int32 × Int32) :=
  if a0 = 51 then (f_M_stretch_L234 w_th w_pf w_of w_sz w_bg a0  x2 x3 x4 y_th y_pf y_of y_sz y_bg) else (if a0 = 69 then (f_M_stretch_L234 w_th w_pf w_of w_sz w_bg a0  x2 x3 x4 y_th y_pf y_of y_sz y_bg) else (if a0 = 72 then (f_M_stretch_L234 w_th w_pf w_of w_sz w_bg a0  x2 x3 x4 y_th y_pf y_of y_sz y_bg) else ((f_M_longKind a0).bind fun r_23 => (f_M_put y_th y_pf y_of y_sz y_bg r_23).bind fun r_25 => some (r_25, y_th, y_pf, y_of, y_sz, y_bg))))
def f_M_stretch_L209 (w_th : Int32) (w_pf : Nat → Int32) (w_of : Nat → Int32) (w_sz : Int32) (w_bg : Int32) (a0 : Int32)  (x2 : Int32) (x3 : Int32) (x4 : Int32) (y_th : Int32) (y_pf : (Nat → Int32)) (y_of : (Nat → Int32)) (y_sz : Int32) (y_bg : Int32) : Option (Int32 × Int32 × (Nat → Int32) × (Nat → Int32) × Int32 × Int32) :=
  if (2 : Int32) < 0 ∨ 4 ≤ (2 : Int32).toNatClampNeg then none else f_M_stretch_L216 w_th w_pf w_of w_sz w_bg a0  x2 x3 x4 y_th (upd y_pf (2 : Int32).toNatClampNeg 0) y_of y_sz y_bg
def f_M_stretch_L197 (w_th : Int32) (w_pf : Nat → Int32) (w_of : Nat → Int32) (w_sz : Int32) (w_bg : Int32) (a0 : Int32)  (x2 : Int32) (x3 : Int32) (x4 : Int32) (y_th : Int32) (y_pf : (Nat → Int32)) (y_of : (Nat → Int32)) (y_sz : Int32) (y_bg : Int32) : Option (Int32 × Int32 × (Nat → Int32) × (Nat → Int32) × Int32 × Int32) :=
  if a0 = 65 then (f_M_stretch_L209 w_th w_pf w_of w_sz w_bg a0  x2 x3 x4 y_th y_pf y_of y_sz y_bg) else (if a0 = 66 then (f_M_stretch_L209 w_th w_pf w_of w_sz w_bg a0  x2 x3 x4 y_th y_pf y_of y_sz y_bg) else (f_M_stretch_L216 w_th w_pf w_of w_sz w_bg a0  x2 x3 x4 y_th y_pf y_of y_sz y_bg))
def f_M_stretch_L184 (w_th : Int32) (w_pf : Nat → Int32) (w_of : Nat → Int32) (w_sz : Int32) (w_bg : Int32) (a0 : Int32)  (x2 : Int32) (x3 : Int32) (x4 : Int32) (y_th : Int32) (y_pf : (Nat → Int32)) (y_of : (Nat → Int32)) (y_sz : Int32) (y_bg : Int32) : Option (Int32 × Int32 × (Nat → Int32) × (Nat → Int32) × Int32 × Int32) :=
  if a0 = 55 then (if (0 : Int32) < 0 ∨ 4 ≤ (0 : Int32).toNatClampNeg then none else f_M_stretch_L197 w_th w_pf w_of w_sz w_bg a0  x2 x3 x4 y_th (upd y_pf (0 : Int32).toNatClampNeg 2) y_of y_sz y_bg) else (f_M_stretch_L197 w_th w_pf w_of w_sz w_bg a0  x2 x3 x4 y_th y_pf y_of y_sz y_bg)
def f_M_stretch_L177 (w_th : Int32) (w_pf : Nat → Int32) (w_of : Nat → Int32) (w_sz : Int32) (w_bg : Int32) (a0 : Int32)  (x2 : Int32) (x3 : Int32) (x4 : Int32) (y_th : Int32) (y_pf : (Nat → Int32)) (y_of : (Nat → Int32)) (y_sz : Int32) (y_bg : Int32) : Option (Int32 × Int32 × (Nat → Int32) × (Nat → Int32) × Int32 × Int32) :=
  if (0 : Int32) < 0 ∨ 4 ≤ (0 : Int32).toNatClampNeg then none else f_M_stretch_L184 w_th w_pf w_of w_sz w_bg a0  x2 x3 x4 y_th (upd y_pf (0 : Int32).toNatClampNeg 1) y_of y_sz y_bg
def f_M_stretch_L165 (w_th : Int32) (w_pf : Nat → Int32) (w_of : Nat → Int32) (w_sz : Int32) (w_bg : Int32) (a0 : Int32)  (x2 : Int32) (x3 : Int32) (x4 : Int32) (y_th : Int32) (y_pf : (Nat → Int32)) (y_of : (Nat → Int32)) (y_sz : Int32) (y_bg : Int32) : Option (Int32 × Int32 × (Nat → Int32) × (Nat → Int32) × Int32 × Int32) :=
  if a0 = 53 then (f_M_stretch_L177 w_th w_pf w_of w_sz w_bg a0  x2 x3 x4 y_th y_pf y_of y_sz y_bg) else (if a0 = 72 then (f_M_stretch_L177 w_th w_pf w_of w_sz w_bg a0  x2 x3 x4 y_th y_pf y_of y_sz y_bg) else (f_M_stretch_L184 w_th w_pf w_of w_sz w_bg a0  x2 x3 x4 y_th y_pf y_of y_sz y_bg))
def f_M_stretch_L158 (w_th : Int32) (w_pf : Nat → Int32) (w_of : Nat → Int32) (w_sz : Int32) (w_bg : Int32) (a0 : Int32)  (x2 : Int32) (x3 : Int32) (x4 : Int32) (y_th : Int32) (y_pf : (Nat → Int32)) (y_of : (Nat → Int32)) (y_sz : Int32) (y_bg : Int32) : Option (Int32 × Int32 × (Nat → Int32) × (Nat → Int32) × Int32 × Int32) :=
  if (0 : Int32) < 0 ∨ 4 ≤ (0 : Int32).toNatClampNeg then none else f_M_stretch_L165 w_th w_pf w_of w_sz w_bg a0  x2 x3 x4 y_th (upd y_pf (0 : Int32).toNatClampNeg 0) y_of y_sz y_bg
def f_M_stretch_L140 (w_th : Int32) (w_pf : Nat → Int32) (w_of : Nat → Int32) (w_sz : Int32) (w_bg : Int32) (a0 : Int32)  (x2 : Int32) (x3 : Int32) (x4 : Int32) (y_th : Int32) (y_pf : (Nat → Int32)) (y_of : (Nat → Int32)) (y_sz : Int32) (y_bg : Int32) : Option (Int32 × Int32 × (Nat → Int32) × (Nat → Int32) × Int32 × Int32) :=
  if a0 = 51 then (f_M_stretch_L158 w_th w_pf w_of w_sz w_bg a0  x2 x3 x4 y_th y_pf y_of y_sz y_bg) else (if a0 = 64 then (f_M_stretch_L158 w_th w_pf w_of w_sz w_bg a0  x2 x3 x4 y_th y_pf y_of y_sz y_bg) else (if a0 = 69 then (f_M_stretch_L158 w_th w_pf w_of w_sz w_bg a0  x2 x3 x4 y_th y_pf y_of y_sz y_bg) else (f_M_stretch_L165 w_th w_pf w_of w_sz w_bg a0  x2 x3 x4 y_th y_pf y_of y_sz y_bg)))
def f_M_stretch_L133 (w_th : Int32) (w_pf : Nat → Int32) (w_of : Nat → Int32) (w_sz : Int32) (w_bg : Int32) (a0 : Int32)  (x2 : Int32) (x3 : Int32) (x4 : Int32) (y_th : Int32) (y_pf : (Nat → Int32)) (y_of : (Nat → Int32)) (y_sz : Int32) (y_bg : Int32) : Option (Int32 × Int32 × (Nat → Int32) × (Nat → Int32) × Int32 × Int32) :=
  if (1 : Int32) < 0 ∨ 4 ≤ (1 : Int32).toNatClampNeg then none else f_M_stretch_L140 w_th w_pf w_of w_sz w_bg a0  x2 x3 x4 y_th (upd y_pf (1 : Int32).toNatClampNeg 0) y_of y_sz y_bg
def f_M_stretch_L115 (w_th : Int32) (w_pf : Nat → Int32) (w_of : Nat → Int32) (w_sz : Int32) (w_bg : Int32) (a0 : Int32)  (x2 : Int32) (x3 : Int32) (x4 : Int32) (y_th : Int32) (y_pf : (Nat → Int32)) (y_of : (Nat → Int32)) (y_sz : Int32) (y_bg : Int32) : Option (Int32 × Int32 × (Nat → Int32) × (Nat → Int32) × Int32 × Int32) :=
  if a0 = 51 then (f_M_stretch_L133 w_th w_pf w_of w_sz w_bg a0  x2 x3 x4 y_th y_pf y_of y_sz y_bg) else (if a0 = 54 then (f_M_stretch_L133 w_th w_pf w_of w_sz w_bg a0  x2 x3 x4 y_th y_pf y_of y_sz y_bg) else (if a0 = 70 then (f_M_stretch_L133 w_th w_pf w_of w_sz w_bg a0  x2 x3 x4 y_th y_pf y_of y_sz y_bg) else (f_M_stretch_L140 w_th w_pf w_of w_sz w_bg a0  x2 x3 x4 y_th y_pf y_of y_sz y_bg)))
def f_M_stretch_L103 (w_th : Int32) (w_pf : Nat → Int32) (w_of : Nat → Int32) (w_sz : Int32) (w_bg : Int32) (a0 : Int32)  (x2 : Int32) (x3 : Int32) (x4 : Int32) (y_th : Int32) (y_pf : (Nat → Int32)) (y_of : (Nat → Int32)) (y_sz : Int32) (y_bg : Int32) : Option (Int32 × Int32 × (Nat → Int32) × (Nat → Int32) × Int32 × Int32) :=
  if x4 = 0 then (f_M_stretch_L115 w_th w_pf w_of w_sz w_bg a0  x2 x3 x4 y_th y_pf y_of y_sz y_bg) else (if (1 : Int32) < 0 ∨ 4 ≤ (1 : Int32).toNatClampNeg then none else f_M_stretch_L115 w_th w_pf w_of w_sz w_bg a0  x2 x3 x4 y_th (upd y_pf (1 : Int32).toNatClampNeg 2) y_of y_sz y_bg)
def f_M_stretch_L90 (w_th : Int32) (w_pf : Nat → Int32) (w_of : Nat → Int32) (w_sz : Int32) (w_bg : Int32) (a0 : Int32)  (x2 : Int32) (x3 : Int32) (t0 : Int32) (y_th : Int32) (y_pf : (Nat → Int32)) (y_of : (Nat → Int32)) (y_sz : Int32) (y_bg : Int32) : Option (Int32 × Int32 × (Nat → Int32) × (Nat → Int32) × Int32 × Int32) :=
  if x3 = 0 then (f_M_stretch_L103 w_th w_pf w_of w_sz w_bg a0  x2 x3 t0 y_th y_pf y_of y_sz y_bg) else (if (1 : Int32) < 0 ∨ 4 ≤ (1 : Int32).toNatClampNeg then none else f_M_stretch_L103 w_th w_pf w_of w_sz w_bg a0  x2 x3 t0 y_th (upd y_pf (1 : Int32).toNatClampNeg x2) y_of y_sz y_bg)
def f_M_stretch_L85 (w_th : Int32) (w_pf : Nat → Int32) (w_of : Nat → Int32) (w_sz : Int32) (w_bg : Int32) (a0 : Int32)  (x2 : Int32) (x3 : Int32) (y_th : Int32) (y_pf : (Nat → Int32)) (y_of : (Nat → Int32)) (y_sz : Int32) (y_bg : Int32) : Option (Int32 × Int32 × (Nat → Int32) × (Nat → Int32) × Int32 × Int32) :=
  f_M_stretch_L90 w_th w_pf w_of w_sz w_bg a0  x2 x3 1 y_th y_pf y_of y_sz y_bg
def f_M_stretch_L60 (w_th : Int32) (w_pf : Nat → Int32) (w_of : Nat → Int32) (w_sz : Int32) (w_bg : Int32) (a0 : Int32)  (x2 : Int32) (t0 : Int32) (y_th : Int32) (y_pf : (Nat → Int32)) (y_of : (Nat → Int32)) (y_sz : Int32) (y_bg : Int32) : Option (Int32 × Int32 × (Nat → Int32) × (Nat → Int32) × Int32 × Int32) :=
  if a0 = 48 then (f_M_stretch_L85 w_th w_pf w_of w_sz w_bg a0  x2 t0 y_th y_pf y_of y_sz y_bg) else (if a0 = 55 then (f_M_stretch_L85 w_th w_pf w_of w_sz w_bg a0  x2 t0 y_th y_pf y_of y_sz y_bg) else (if a0 = 68 then (f_M_stretch_L85 w_th w_pf w_of w_sz w_bg a0  x2 t0 y_th y_pf y_of y_sz y_bg) else (if a0 = 74 then (f_M_stretch_L85 w_th w_pf w_of w_sz w_bg a0  x2 t0 y_th y_pf y_of y_sz y_bg) else (f_M_stretch_L90 w_th w_pf w_of w_sz w_bg a0  x2 t0 0 y_th y_pf y_of y_sz y_bg))))
def f_M_stretch_L55 (w_th : Int32) (w_pf : Nat → Int32) (w_of : Nat → Int32) (w_sz : Int32) (w_bg : Int32) (a0 : Int32)  (x2 : Int32) (y_th : Int32) (y_pf : (Nat → Int32)) (y_of : (Nat → Int32)) (y_sz : Int32) (y_bg : Int32) : Option (Int32 × Int32 × (Nat → Int32) × (Nat → Int32) × Int32 × Int32) :=
  f_M_stretch_L60 w_th w_pf w_of w_sz w_bg a0  x2 1 y_th y_pf y_of y_sz y_bg
def f_M_stretch_L43 (w_th : Int32) (w_pf : Nat → Int32) (w_of : Nat → Int32) (w_sz : Int32) (w_bg : Int32) (a0 : Int32)  (x2 : Int32) (y_th : Int32) (y_pf : (Nat → Int32)) (y_of : (Nat → Int32)) (y_sz : Int32) (y_bg : Int32) : Option (Int32 × Int32 × (Nat → Int32) × (Nat → Int32) × Int32 × Int32) :=
  if a0 = 67 then (f_M_stretch_L55 w_th w_pf w_of w_sz w_bg a0  x2 y_th y_pf y_of y_sz y_bg) else (if a0 = 73 then (f_M_stretch_L55 w_th w_pf w_of w_sz w_bg a0  x2 y_th y_pf y_of y_sz y_bg) else (f_M_stretch_L60 w_th w_pf w_of w_sz w_bg a0  x2 0 y_th y_pf y_of y_sz y_bg))
def f_M_stretch (w_th : Int32) (w_pf : Nat → Int32) (w_of : Nat → Int32) (w_sz : Int32) (w_bg : Int32) (a0 : Int32) : Option (Int32 × Int32 × (Nat → Int32) × (Nat → Int32) × Int32 × Int32) :=
  if (0 : Int32) < 0 ∨ 4 ≤ (0 : Int32).toNatClampNeg then none else if a0 = 52 then (f_M_stretch_L55 w_th w_pf w_of w_sz w_bg a0  (w_pf (0 : Int32).toNatClampNeg) w_th w_pf w_of w_sz w_bg) else (if a0 = 57 then (f_M_stretch_L55 w_th w_pf w_of w_sz w_bg a0  (w_pf (0 : Int32).toNatClampNeg) w_th w_pf w_of w_sz w_bg) else (if a0 = 58 then (f_M_stretch_L55 w_th w_pf w_of w_sz w_bg a0  (w_pf (0 : Int32).toNatClampNeg) w_th w_pf w_of w_sz w_bg) else (if a0 = 59 then (f_M_stretch_L55 w_th w_pf w_of w_sz w_bg a0  (w_pf (0 : Int32).toNatClampNeg) w_th w_pf w_of w_sz w_bg) else (if a0 ≤ 59 then (f_M_stretch_L43 w_th w_pf w_of w_sz w_bg a0  (w_pf (0 : Int32).toNatClampNeg) w_th w_pf w_of w_sz w_bg) else (if a0 < 64 then (f_M_stretch_L55 w_th w_pf w_of w_sz w_bg a0  (w_pf (0 : Int32).toNatClampNeg) w_th w_pf w_of w_sz w_bg) else (f_M_stretch_L43 w_th w_pf w_of w_sz w_bg a0  (w_pf (0 : Int32).toNatClampNeg) w_th w_pf w_of w_sz w_bg))))))
set_option maxHeartbeats 1000000 in
set_option maxRecDepth 100000 in
theorem c_M_stretch (l : Launch) {ad sk sv : Nat → Nat} {tK : Nat} (dC : Nat → ClassId) (dI : Nat → Nat → Nat) (cI : ClassId) (h0 rw pt ou : Nat) (w_th : Int32) (w_pf : Nat → Int32) (w_of : Nat → Int32) (w_sz : Int32) (w_bg : Int32) (a0 : Int32)  (r : Int32 × Int32 × (Nat → Int32) × (Nat → Int32) × Int32 × Int32) (hf : f_M_stretch w_th w_pf w_of w_sz w_bg a0 = some r) : Met l y_M_stretch (Cond.code y_M_stretch b_M_stretch 5 (Option.some FieldType.int) :: aw) ({ frames := 2, cells := 0, slots := 0, locals := 45 } : Room) (va_Pc [.ref (h0), .int (a0)] (fun U => va_P (dC, dI) cls2 (wM cI h0 rw pt ou w_th mR w_pf w_of w_sz w_bg) U.heap ∧ va_K (dC, dI) cls2 [(cI, .int)] U ∧ va_D (aM h0 rw pt ou) (wM cI h0 rw pt ou w_th mR w_pf w_of w_sz w_bg) ∧ tb ad sk sv tK (aM h0 rw pt ou) U U.heap)) (va_Qi (fun v u => v = r.1 ∧ u = r.2) (fun (u : Int32 × (Nat → Int32) × (Nat → Int32) × Int32 × Int32) t => va_P (dC, dI) cls2 (wM cI h0 rw pt ou u.1 mR u.2.1 u.2.2.1 u.2.2.2.1 u.2.2.2.2) t.heap) (aM h0 rw pt ou)) 0 0 (aM h0 rw pt ou) := by
  refine Met.ofW (cc := b_M_stretch) (maxL := 5) (ret := (Option.some FieldType.int)) (by decide) rfl ?_
  intro p e s m args below meth c s₁ B hml hv
  obtain ⟨rfl, hP, hK, hD, hT⟩ := hv
  have hD0 := hD
  have hx := B.exec
  have hb := B.bytes
  have hr := B.returns
  have hts := atoms_spec (ws := (Cond.code y_M_stretch b_M_stretch 5 (Option.some FieldType.int) :: aw)) B.pre
  have ht : ∀ {w : Cond}, w ∈ aw → w.before ([.ref (h0), .int (a0)] : List Value).toArray s = true := fun h => hts _ (List.mem_cons_of_mem _ h)
  have hown : s.vm.findClass "CodeWordsModel" = some m.cls := findClass_of_methodNamed B.named
  have hlocks := B.notSynchronized
  have hS : va_S (aM h0 rw pt ou) s.heap s.heap [] := va_S.rf
  have hl := lv_entry ([.ref (h0), .int (a0)]) (n := 5) (Nat.le_of_ble_eq_true rfl)
  rw [lg_entry_eq]
  generalize (lg_sl ([.ref (h0), .int (a0)]) ++ List.replicate (5 - (lg_sl ([.ref (h0), .int (a0)])).length) Slot.unset).toArray = ls at hl ⊢
  have hl : lv_has ls 5 [(0, .ref (h0)), (1, .int (a0))] := hl
  have J234 : ∀ (x2 : Int32) (x3 : Int32) (x4 : Int32) (y_th : Int32) (y_pf : (Nat → Int32)) (y_of : (Nat → Int32)) (y_sz : Int32) (y_bg : Int32) (H : Heap) (locs : List Loc) (ls : Array Slot), va_P (dC, dI) cls2 (wM cI h0 rw pt ou y_th mR y_pf y_of y_sz y_bg) H → va_S (aM h0 rw pt ou) s.heap H locs → lv_has ls 5 [(0, .ref (h0)), (1, .int (a0)), (2, .int (x2)), (3, .int (x3)), (4, .int (x4))] → f_M_stretch_L234 w_th w_pf w_of w_sz w_bg a0  x2 x3 x4 y_th y_pf y_of y_sz y_bg = some r → wW p l e (headSpec (Cond.code y_M_stretch b_M_stretch 5 (Option.some FieldType.int) :: aw) ({ frames := 2, cells := 0, slots := 0, locals := 45 } : Room)).room s m ([.ref (h0), .int (a0)] : List Value).toArray below meth c (va_Qi (fun v u => v = r.1 ∧ u = r.2) (fun (u : Int32 × (Nat → Int32) × (Nat → Int32) × Int32 × Int32) t => va_P (dC, dI) cls2 (wM cI h0 rw pt ou u.1 mR u.2.1 u.2.2.1 u.2.2.2.1 u.2.2.2.2) t.heap) (aM h0 rw pt ou)) (aM h0 rw pt ou) H locs (F0 m 234 ls []) := by
    intro x2 x3 x4 y_th y_pf y_of y_sz y_bg H locs ls hP hS hl hf
    rw [f_M_stretch_L234] at hf
    have hD : va_D (aM h0 rw pt ou) (wM cI h0 rw pt ou y_th mR y_pf y_of y_sz y_bg) := dD hD0 rfl
    refine lv_aload_n hx hb d_M_stretch_234 rfl (lv_at hl 0 rfl) ?_
    refine va_get (D := (dC, dI)) (ci := 1) (v := .ref (pt)) (C := "CodeWordsModel") (T := F_M) (N := 6) hx hb hts (in_M _) hown hK hP 0 rfl rfl 2 (by decide) (ht aw_441) (fun _ h9 => h9) rfl d_M_stretch_235 ?_
    refine lv_iconst (v := 3) hx hb d_M_stretch_238 (by decide) ?_
    refine lv_iconst (v := 0) hx hb d_M_stretch_239 (by decide) ?_
    obtain ⟨z_16, hf⟩ := ju_gd hf
    refine va_iast hx hb hK hP hD hS 2 0 rfl rfl z_16 d_M_stretch_240 (fun H locs hP hD hS => ?_)
    have hP : va_P (dC, dI) cls2 (wM cI h0 rw pt ou y_th mR (upd y_pf (3 : Int32).toNatClampNeg 0) y_of y_sz y_bg) H := hP
    have hD : va_D (aM h0 rw pt ou) (wM cI h0 rw pt ou y_th mR (upd y_pf (3 : Int32).toNatClampNeg 0) y_of y_sz y_bg) := hD
    refine lv_aload_n hx hb d_M_stretch_241 rfl (lv_at hl 0 rfl) ?_
    refine lv_iload_n hx hb d_M_stretch_242 rfl (lv_at hl 1 rfl) ?_
    obtain ⟨r_17, g_18, hf⟩ := Option.bind_eq_some_iff.mp hf
    refine ju_calli (W.runS (As := [.int (a0)]) (rest := [.ref (h0)]) ⟨hx, hb, hml, hown, hts⟩ (c_M_longKind l (ad := ad) (sk := sk) (sv := sv) (tK := tK)  a0  r_17 g_18) (va_cwS 1 hts (aw_S aw_555 aw_556 aw_2 aw_557) rfl rfl rfl (by decide +kernel) ⟨Nat.le_of_ble_eq_true rfl, Nat.le_of_ble_eq_true rfl⟩) ⟨fun a U g mk q => ⟨q.1, q.2.call⟩, fun U hU hW => ⟨rfl, hT.at hS hU hW (fun _ z => z.elim)⟩⟩ rfl rfl hl.1 rfl (lv_room (Nat.le_of_ble_eq_true rfl)) d_M_stretch_243 ⟨Nat.le_refl _, Nat.le_refl _⟩) ?_
    obtain ⟨r_19, g_20, hf⟩ := Option.bind_eq_some_iff.mp hf
    refine ju_calli (W.runV (As := [.int (r_17)]) (rest := []) ⟨hx, hb, hml, hown, hts⟩ (c_M_put l (ad := ad) (sk := sk) (sv := sv) (tK := tK) dC dI cI h0 rw pt ou y_th (upd y_pf (3 : Int32).toNatClampNeg 0) y_of y_sz y_bg r_17  r_19 g_20) (cwV 1 hts (aw_V aw_516 aw_518 aw_p27 aw_2 aw_519) rfl rfl rfl (by decide +kernel) ⟨Nat.le_of_ble_eq_true rfl, Nat.le_of_ble_eq_true rfl⟩) ⟨wBlind, va_recv hK hP (ci := 1) (q0 := 0) rfl rfl, fun U hU hW => ⟨rfl, by rw [hU]; exact hP, va_K.moved hW.alike hK, hD, hT.at hS hU hW (fun _ z => z)⟩⟩ rfl rfl hl.1 rfl (lv_room (Nat.le_of_ble_eq_true rfl)) d_M_stretch_246 ⟨Nat.le_refl _, Nat.le_refl _⟩) ?_
    exact W.iret (v := r_19) hx hb hr (fun t ht hW => ⟨⟨_, (y_th, upd y_pf (3 : Int32).toNatClampNeg 0, y_of, y_sz, y_bg), rfl, ⟨congrArg (fun z => z.1) (Option.some.inj hf), congrArg (fun z => z.2) (Option.some.inj hf)⟩, by rw [← ht] at hP; exact hP⟩, hS.F ht⟩) hS.2.2 d_M_stretch_249
  have J216 : ∀ (x2 : Int32) (x3 : Int32) (x4 : Int32) (y_th : Int32) (y_pf : (Nat → Int32)) (y_of : (Nat → Int32)) (y_sz : Int32) (y_bg : Int32) (H : Heap) (locs : List Loc) (ls : Array Slot), va_P (dC, dI) cls2 (wM cI h0 rw pt ou y_th mR y_pf y_of y_sz y_bg) H → va_S (aM h0 rw pt ou) s.heap H locs → lv_has ls 5 [(0, .ref (h0)), (1, .int (a0)), (2, .int (x2)), (3, .int (x3)), (4, .int (x4))] → f_M_stretch_L216 w_th w_pf w_of w_sz w_bg a0  x2 x3 x4 y_th y_pf y_of y_sz y_bg = some r → wW p l e (headSpec (Cond.code y_M_stretch b_M_stretch 5 (Option.some FieldType.int) :: aw) ({ frames := 2, cells := 0, slots := 0, locals := 45 } : Room)).room s m ([.ref (h0), .int (a0)] : List Value).toArray below meth c (va_Qi (fun v u => v = r.1 ∧ u = r.2) (fun (u : Int32 × (Nat → Int32) × (Nat → Int32) × Int32 × Int32) t => va_P (dC, dI) cls2 (wM cI h0 rw pt ou u.1 mR u.2.1 u.2.2.1 u.2.2.2.1 u.2.2.2.2) t.heap) (aM h0 rw pt ou)) (aM h0 rw pt ou) H locs (F0 m 216 ls []) := by
    intro x2 x3 x4 y_th y_pf y_of y_sz y_bg H locs ls hP hS hl hf
    rw [f_M_stretch_L216] at hf
    have hD : va_D (aM h0 rw pt ou) (wM cI h0 rw pt ou y_th mR y_pf y_of y_sz y_bg) := dD hD0 rfl
    refine lv_iload_n hx hb d_M_stretch_216 rfl (lv_at hl 1 rfl) ?_
    refine lv_bipush (v := 51) hx hb d_M_stretch_217 (by decide) ?_
    refine lv_icmp_eq (tgt := 234) hx hb d_M_stretch_219 (by decide) (fun c_15 => ?_) (fun c_15 => ?_)
    · replace hf := (if_pos c_15).symm.trans hf
      exact J234 x2 x3 x4 y_th y_pf y_of y_sz y_bg _ _ _ hP hS (lv_sub hl [0, 1, 2, 3, 4] rfl) hf
    · replace hf := (if_neg c_15).symm.trans hf
      refine lv_iload_n hx hb d_M_stretch_222 rfl (lv_at hl 1 rfl) ?_
      refine lv_bipush (v := 69) hx hb d_M_stretch_223 (by decide) ?_
      refine lv_icmp_eq (tgt := 234) hx hb d_M_stretch_225 (by decide) (fun c_21 => ?_) (fun c_21 => ?_)
      · replace hf := (if_pos c_21).symm.trans hf
        exact J234 x2 x3 x4 y_th y_pf y_of y_sz y_bg _ _ _ hP hS (lv_sub hl [0, 1, 2, 3, 4] rfl) hf
      · replace hf := (if_neg c_21).symm.trans hf
        refine lv_iload_n hx hb d_M_stretch_228 rfl (lv_at hl 1 rfl) ?_
        refine lv_bipush (v := 72) hx hb d_M_stretch_229 (by decide) ?_
        refine lv_icmp_ne (tgt := 241) hx hb d_M_stretch_231 (by decide) (fun c_22 => ?_) (fun c_22 => ?_)
        · replace hf := (if_neg c_22).symm.trans hf
          refine lv_aload_n hx hb d_M_stretch_241 rfl (lv_at hl 0 rfl) ?_
          refine lv_iload_n hx hb d_M_stretch_242 rfl (lv_at hl 1 rfl) ?_
          obtain ⟨r_23, g_24, hf⟩ := Option.bind_eq_some_iff.mp hf
          refine ju_calli (W.runS (As := [.int (a0)]) (rest := [.ref (h0)]) ⟨hx, hb, hml, hown, hts⟩ (c_M_longKind l (ad := ad) (sk := sk) (sv := sv) (tK := tK)  a0  r_23 g_24) (va_cwS 1 hts (aw_S aw_555 aw_556 aw_2 aw_557) rfl rfl rfl (by decide +kernel) ⟨Nat.le_of_ble_eq_true rfl, Nat.le_of_ble_eq_true rfl⟩) ⟨fun a U g mk q => ⟨q.1, q.2.call⟩, fun U hU hW => ⟨rfl, hT.at hS hU hW (fun _ z => z.elim)⟩⟩ rfl rfl hl.1 rfl (lv_room (Nat.le_of_ble_eq_true rfl)) d_M_stretch_243 ⟨Nat.le_refl _, Nat.le_refl _⟩) ?_
          obtain ⟨r_25, g_26, hf⟩ := Option.bind_eq_some_iff.mp hf
          refine ju_calli (W.runV (As := [.int (r_23)]) (rest := []) ⟨hx, hb, hml, hown, hts⟩ (c_M_put l (ad := ad) (sk := sk) (sv := sv) (tK := tK) dC dI cI h0 rw pt ou y_th y_pf y_of y_sz y_bg r_23  r_25 g_26) (cwV 1 hts (aw_V aw_516 aw_518 aw_p27 aw_2 aw_519) rfl rfl rfl (by decide +kernel) ⟨Nat.le_of_ble_eq_true rfl, Nat.le_of_ble_eq_true rfl⟩) ⟨wBlind, va_recv hK hP (ci := 1) (q0 := 0) rfl rfl, fun U hU hW => ⟨rfl, by rw [hU]; exact hP, va_K.moved hW.alike hK, hD, hT.at hS hU hW (fun _ z => z)⟩⟩ rfl rfl hl.1 rfl (lv_room (Nat.le_of_ble_eq_true rfl)) d_M_stretch_246 ⟨Nat.le_refl _, Nat.le_refl _⟩) ?_
          exact W.iret (v := r_25) hx hb hr (fun t ht hW => ⟨⟨_, (y_th, y_pf, y_of, y_sz, y_bg), rfl, ⟨congrArg (fun z => z.1) (Option.some.inj hf), congrArg (fun z => z.2) (Option.some.inj hf)⟩, by rw [← ht] at hP; exact hP⟩, hS.F ht⟩) hS.2.2 d_M_stretch_249
        · replace hf := (if_pos c_22).symm.trans hf
          exact J234 x2 x3 x4 y_th y_pf y_of y_sz y_bg _ _ _ hP hS (lv_sub hl [0, 1, 2, 3, 4] rfl) hf
  have J209 : ∀ (x2 : Int32) (x3 : Int32) (x4 : Int32) (y_th : Int32) (y_pf : (Nat → Int32)) (y_of : (Nat → Int32)) (y_sz : Int32) (y_bg : Int32) (H : Heap) (locs : List Loc) (ls : Array Slot), va_P (dC, dI) cls2 (wM cI h0 rw pt ou y_th mR y_pf y_of y_sz y_bg) H → va_S (aM h0 rw pt ou) s.heap H locs → lv_has ls 5 [(0, .ref (h0)), (1, .int (a0)), (2, .int (x2)), (3, .int (x3)), (4, .int (x4))] → f_M_stretch_L209 w_th w_pf w_of w_sz w_bg a0  x2 x3 x4 y_th y_pf y_of y_sz y_bg = some r → wW p l e (headSpec (Cond.code y_M_stretch b_M_stretch 5 (Option.some FieldType.int) :: aw) ({ frames := 2, cells := 0, slots := 0, locals := 45 } : Room)).room s m ([.ref (h0), .int (a0)] : List Value).toArray below meth c (va_Qi (fun v u => v = r.1 ∧ u = r.2) (fun (u : Int32 × (Nat → Int32) × (Nat → Int32) × Int32 × Int32) t => va_P (dC, dI) cls2 (wM cI h0 rw pt ou u.1 mR u.2.1 u.2.2.1 u.2.2.2.1 u.2.2.2.2) t.heap) (aM h0 rw pt ou)) (aM h0 rw pt ou) H locs (F0 m 209 ls []) := by
    intro x2 x3 x4 y_th y_pf y_of y_sz y_bg H locs ls hP hS hl hf
    rw [f_M_stretch_L209] at hf
    have hD : va_D (aM h0 rw pt ou) (wM cI h0 rw pt ou y_th mR y_pf y_of y_sz y_bg) := dD hD0 rfl
    refine lv_aload_n hx hb d_M_stretch_209 rfl (lv_at hl 0 rfl) ?_
    refine va_get (D := (dC, dI)) (ci := 1) (v := .ref (pt)) (C := "CodeWordsModel") (T := F_M) (N := 6) hx hb hts (in_M _) hown hK hP 0 rfl rfl 2 (by decide) (ht aw_441) (fun _ h9 => h9) rfl d_M_stretch_210 ?_
    refine lv_iconst (v := 2) hx hb d_M_stretch_213 (by decide) ?_
    refine lv_iconst (v := 0) hx hb d_M_stretch_214 (by decide) ?_
    obtain ⟨z_14, hf⟩ := ju_gd hf
    refine va_iast hx hb hK hP hD hS 2 0 rfl rfl z_14 d_M_stretch_215 (fun H locs hP hD hS => ?_)
    have hP : va_P (dC, dI) cls2 (wM cI h0 rw pt ou y_th mR (upd y_pf (2 : Int32).toNatClampNeg 0) y_of y_sz y_bg) H := hP
    have hD : va_D (aM h0 rw pt ou) (wM cI h0 rw pt ou y_th mR (upd y_pf (2 : Int32).toNatClampNeg 0) y_of y_sz y_bg) := hD
    exact J216 x2 x3 x4 y_th (upd y_pf (2 : Int32).toNatClampNeg 0) y_of y_sz y_bg _ _ _ hP hS (lv_sub hl [0, 1, 2, 3, 4] rfl) hf
  have J197 : ∀ (x2 : Int32) (x3 : Int32) (x4 : Int32) (y_th : Int32) (y_pf : (Nat → Int32)) (y_of : (Nat → Int32)) (y_sz : Int32) (y_bg : Int32) (H : Heap) (locs : List Loc) (ls : Array Slot), va_P (dC, dI) cls2 (wM cI h0 rw pt ou y_th mR y_pf y_of y_sz y_bg) H → va_S (aM h0 rw pt ou) s.heap H locs → lv_has ls 5 [(0, .ref (h0)), (1, .int (a0)), (2, .int (x2)), (3, .int (x3)), (4, .int (x4))] → f_M_stretch_L197 w_th w_pf w_of w_sz w_bg a0  x2 x3 x4 y_th y_pf y_of y_sz y_bg = some r → wW p l e (headSpec (Cond.code y_M_stretch b_M_stretch 5 (Option.some FieldType.int) :: aw) ({ frames := 2, cells := 0, slots := 0, locals := 45 } : Room)).room s m ([.ref (h0), .int (a0)] : List Value).toArray below meth c (va_Qi (fun v u => v = r.1 ∧ u = r.2) (fun (u : Int32 × (Nat → Int32) × (Nat → Int32) × Int32 × Int32) t => va_P (dC, dI) cls2 (wM cI h0 rw pt ou u.1 mR u.2.1 u.2.2.1 u.2.2.2.1 u.2.2.2.2) t.heap) (aM h0 rw pt ou)) (aM h0 rw pt ou) H locs (F0 m 197 ls []) := by
    intro x2 x3 x4 y_th y_pf y_of y_sz y_bg H locs ls hP hS hl hf
    rw [f_M_stretch_L197] at hf
    have hD : va_D (aM h0 rw pt ou) (wM cI h0 rw pt ou y_th mR y_pf y_of y_sz y_bg) := dD hD0 rfl
    refine lv_iload_n hx hb d_M_stretch_197 rfl (lv_at hl 1 rfl) ?_
    refine lv_bipush (v := 65) hx hb d_M_stretch_198 (by decide) ?_
    refine lv_icmp_eq (tgt := 209) hx hb d_M_stretch_200 (by decide) (fun c_13 => ?_) (fun c_13 => ?_)
    · replace hf := (if_pos c_13).symm.trans hf
      exact J209 x2 x3 x4 y_th y_pf y_of y_sz y_bg _ _ _ hP hS (lv_sub hl [0, 1, 2, 3, 4] rfl) hf
    · replace hf := (if_neg c_13).symm.trans hf
      refine lv_iload_n hx hb d_M_stretch_203 rfl (lv_at hl 1 rfl) ?_
      refine lv_bipush (v := 66) hx hb d_M_stretch_204 (by decide) ?_
      refine lv_icmp_ne (tgt := 216) hx hb d_M_stretch_206 (by decide) (fun c_27 => ?_) (fun c_27 => ?_)
      · replace hf := (if_neg c_27).symm.trans hf
        exact J216 x2 x3 x4 y_th y_pf y_of y_sz y_bg _ _ _ hP hS (lv_sub hl [0, 1, 2, 3, 4] rfl) hf
      · replace hf := (if_pos c_27).symm.trans hf
        exact J209 x2 x3 x4 y_th y_pf y_of y_sz y_bg _ _ _ hP hS (lv_sub hl [0, 1, 2, 3, 4] rfl) hf
  have J184 : ∀ (x2 : Int32) (x3 : Int32) (x4 : Int32) (y_th : Int32) (y_pf : (Nat → Int32)) (y_of : (Nat → Int32)) (y_sz : Int32) (y_bg : Int32) (H : Heap) (locs : List Loc) (ls : Array Slot), va_P (dC, dI) cls2 (wM cI h0 rw pt ou y_th mR y_pf y_of y_sz y_bg) H → va_S (aM h0 rw pt ou) s.heap H locs → lv_has ls 5 [(0, .ref (h0)), (1, .int (a0)), (2, .int (x2)), (3, .int (x3)), (4, .int (x4))] → f_M_stretch_L184 w_th w_pf w_of w_sz w_bg a0  x2 x3 x4 y_th y_pf y_of y_sz y_bg = some r → wW p l e (headSpec (Cond.code y_M_stretch b_M_stretch 5 (Option.some FieldType.int) :: aw) ({ frames := 2, cells := 0, slots := 0, locals := 45 } : Room)).room s m ([.ref (h0), .int (a0)] : List Value).toArray below meth c (va_Qi (fun v u => v = r.1 ∧ u = r.2) (fun (u : Int32 × (Nat → Int32) × (Nat → Int32) × Int32 × Int32) t => va_P (dC, dI) cls2 (wM cI h0 rw pt ou u.1 mR u.2.1 u.2.2.1 u.2.2.2.1 u.2.2.2.2) t.heap) (aM h0 rw pt ou)) (aM h0 rw pt ou) H locs (F0 m 184 ls []) := by
    intro x2 x3 x4 y_th y_pf y_of y_sz y_bg H locs ls hP hS hl hf
    rw [f_M_stretch_L184] at hf
    have hD : va_D (aM h0 rw pt ou) (wM cI h0 rw pt ou y_th mR y_pf y_of y_sz y_bg) := dD hD0 rfl
    refine lv_iload_n hx hb d_M_stretch_184 rfl (lv_at hl 1 rfl) ?_
    refine lv_bipush (v := 55) hx hb d_M_stretch_185 (by decide) ?_
    refine lv_icmp_ne (tgt := 197) hx hb d_M_stretch_187 (by decide) (fun c_12 => ?_) (fun c_12 => ?_)
    · replace hf := (if_neg c_12).symm.trans hf
      exact J197 x2 x3 x4 y_th y_pf y_of y_sz y_bg _ _ _ hP hS (lv_sub hl [0, 1, 2, 3, 4] rfl) hf
    · replace hf := (if_pos c_12).symm.trans hf
      refine lv_aload_n hx hb d_M_stretch_190 rfl (lv_at hl 0 rfl) ?_
      refine va_get (D := (dC, dI)) (ci := 1) (v := .ref (pt)) (C := "CodeWordsModel") (T := F_M) (N := 6) hx hb hts (in_M _) hown hK hP 0 rfl rfl 2 (by decide) (ht aw_441) (fun _ h9 => h9) rfl d_M_stretch_191 ?_
      refine lv_iconst (v := 0) hx hb d_M_stretch_194 (by decide) ?_
      refine lv_iconst (v := 2) hx hb d_M_stretch_195 (by decide) ?_
      obtain ⟨z_28, hf⟩ := ju_gd hf
      refine va_iast hx hb hK hP hD hS 2 0 rfl rfl z_28 d_M_stretch_196 (fun H locs hP hD hS => ?_)
      have hP : va_P (dC, dI) cls2 (wM cI h0 rw pt ou y_th mR (upd y_pf (0 : Int32).toNatClampNeg 2) y_of y_sz y_bg) H := hP
      have hD : va_D (aM h0 rw pt ou) (wM cI h0 rw pt ou y_th mR (upd y_pf (0 : Int32).toNatClampNeg 2) y_of y_sz y_bg) := hD
      exact J197 x2 x3 x4 y_th (upd y_pf (0 : Int32).toNatClampNeg 2) y_of y_sz y_bg _ _ _ hP hS (lv_sub hl [0, 1, 2, 3, 4] rfl) hf
  have J177 : ∀ (x2 : Int32) (x3 : Int32) (x4 : Int32) (y_th : Int32) (y_pf : (Nat → Int32)) (y_of : (Nat → Int32)) (y_sz : Int32) (y_bg : Int32) (H : Heap) (locs : List Loc) (ls : Array Slot), va_P (dC, dI) cls2 (wM cI h0 rw pt ou y_th mR y_pf y_of y_sz y_bg) H → va_S (aM h0 rw pt ou) s.heap H locs → lv_has ls 5 [(0, .ref (h0)), (1, .int (a0)), (2, .int (x2)), (3, .int (x3)), (4, .int (x4))] → f_M_stretch_L177 w_th w_pf w_of w_sz w_bg a0  x2 x3 x4 y_th y_pf y_of y_sz y_bg = some r → wW p l e (headSpec (Cond.code y_M_stretch b_M_stretch 5 (Option.some FieldType.int) :: aw) ({ frames := 2, cells := 0, slots := 0, locals := 45 } : Room)).room s m ([.ref (h0), .int (a0)] : List Value).toArray below meth c (va_Qi (fun v u => v = r.1 ∧ u = r.2) (fun (u : Int32 × (Nat → Int32) × (Nat → Int32) × Int32 × Int32) t => va_P (dC, dI) cls2 (wM cI h0 rw pt ou u.1 mR u.2.1 u.2.2.1 u.2.2.2.1 u.2.2.2.2) t.heap) (aM h0 rw pt ou)) (aM h0 rw pt ou) H locs (F0 m 177 ls []) := by
    intro x2 x3 x4 y_th y_pf y_of y_sz y_bg H locs ls hP hS hl hf
    rw [f_M_stretch_L177] at hf
    have hD : va_D (aM h0 rw pt ou) (wM cI h0 rw pt ou y_th mR y_pf y_of y_sz y_bg) := dD hD0 rfl
    refine lv_aload_n hx hb d_M_stretch_177 rfl (lv_at hl 0 rfl) ?_
    refine va_get (D := (dC, dI)) (ci := 1) (v := .ref (pt)) (C := "CodeWordsModel") (T := F_M) (N := 6) hx hb hts (in_M _) hown hK hP 0 rfl rfl 2 (by decide) (ht aw_441) (fun _ h9 => h9) rfl d_M_stretch_178 ?_
    refine lv_iconst (v := 0) hx hb d_M_stretch_181 (by decide) ?_
    refine lv_iconst (v := 1) hx hb d_M_stretch_182 (by decide) ?_
    obtain ⟨z_11, hf⟩ := ju_gd hf
    refine va_iast hx hb hK hP hD hS 2 0 rfl rfl z_11 d_M_stretch_183 (fun H locs hP hD hS => ?_)
    have hP : va_P (dC, dI) cls2 (wM cI h0 rw pt ou y_th mR (upd y_pf (0 : Int32).toNatClampNeg 1) y_of y_sz y_bg) H := hP
    have hD : va_D (aM h0 rw pt ou) (wM cI h0 rw pt ou y_th mR (upd y_pf (0 : Int32).toNatClampNeg 1) y_of y_sz y_bg) := hD
    exact J184 x2 x3 x4 y_th (upd y_pf (0 : Int32).toNatClampNeg 1) y_of y_sz y_bg _ _ _ hP hS (lv_sub hl [0, 1, 2, 3, 4] rfl) hf
  have J165 : ∀ (x2 : Int32) (x3 : Int32) (x4 : Int32) (y_th : Int32) (y_pf : (Nat → Int32)) (y_of : (Nat → Int32)) (y_sz : Int32) (y_bg : Int32) (H : Heap) (locs : List Loc) (ls : Array Slot), va_P (dC, dI) cls2 (wM cI h0 rw pt ou y_th mR y_pf y_of y_sz y_bg) H → va_S (aM h0 rw pt ou) s.heap H locs → lv_has ls 5 [(0, .ref (h0)), (1, .int (a0)), (2, .int (x2)), (3, .int (x3)), (4, .int (x4))] → f_M_stretch_L165 w_th w_pf w_of w_sz w_bg a0  x2 x3 x4 y_th y_pf y_of y_sz y_bg = some r → wW p l e (headSpec (Cond.code y_M_stretch b_M_stretch 5 (Option.some FieldType.int) :: aw) ({ frames := 2, cells := 0, slots := 0, locals := 45 } : Room)).room s m ([.ref (h0), .int (a0)] : List Value).toArray below meth c (va_Qi (fun v u => v = r.1 ∧ u = r.2) (fun (u : Int32 × (Nat → Int32) × (Nat → Int32) × Int32 × Int32) t => va_P (dC, dI) cls2 (wM cI h0 rw pt ou u.1 mR u.2.1 u.2.2.1 u.2.2.2.1 u.2.2.2.2) t.heap) (aM h0 rw pt ou)) (aM h0 rw pt ou) H locs (F0 m 165 ls []) := by
    intro x2 x3 x4 y_th y_pf y_of y_sz y_bg H locs ls hP hS hl hf
    rw [f_M_stretch_L165] at hf
    have hD : va_D (aM h0 rw pt ou) (wM cI h0 rw pt ou y_th mR y_pf y_of y_sz y_bg) := dD hD0 rfl
    refine lv_iload_n hx hb d_M_stretch_165 rfl (lv_at hl 1 rfl) ?_
    refine lv_bipush (v := 53) hx hb d_M_stretch_166 (by decide) ?_
    refine lv_icmp_eq (tgt := 177) hx hb d_M_stretch_168 (by decide) (fun c_10 => ?_) (fun c_10 => ?_)
    · replace hf := (if_pos c_10).symm.trans hf
      exact J177 x2 x3 x4 y_th y_pf y_of y_sz y_bg _ _ _ hP hS (lv_sub hl [0, 1, 2, 3, 4] rfl) hf
    · replace hf := (if_neg c_10).symm.trans hf
      refine lv_iload_n hx hb d_M_stretch_171 rfl (lv_at hl 1 rfl) ?_
      refine lv_bipush (v := 72) hx hb d_M_stretch_172 (by decide) ?_
      refine lv_icmp_ne (tgt := 184) hx hb d_M_stretch_174 (by decide) (fun c_29 => ?_) (fun c_29 => ?_)
      · replace hf := (if_neg c_29).symm.trans hf
        exact J184 x2 x3 x4 y_th y_pf y_of y_sz y_bg _ _ _ hP hS (lv_sub hl [0, 1, 2, 3, 4] rfl) hf
      · replace hf := (if_pos c_29).symm.trans hf
        exact J177 x2 x3 x4 y_th y_pf y_of y_sz y_bg _ _ _ hP hS (lv_sub hl [0, 1, 2, 3, 4] rfl) hf
  have J158 : ∀ (x2 : Int32) (x3 : Int32) (x4 : Int32) (y_th : Int32) (y_pf : (Nat → Int32)) (y_of : (Nat → Int32)) (y_sz : Int32) (y_bg : Int32) (H : Heap) (locs : List Loc) (ls : Array Slot), va_P (dC, dI) cls2 (wM cI h0 rw pt ou y_th mR y_pf y_of y_sz y_bg) H → va_S (aM h0 rw pt ou) s.heap H locs → lv_has ls 5 [(0, .ref (h0)), (1, .int (a0)), (2, .int (x2)), (3, .int (x3)), (4, .int (x4))] → f_M_stretch_L158 w_th w_pf w_of w_sz w_bg a0  x2 x3 x4 y_th y_pf y_of y_sz y_bg = some r → wW p l e (headSpec (Cond.code y_M_stretch b_M_stretch 5 (Option.some FieldType.int) :: aw) ({ frames := 2, cells := 0, slots := 0, locals := 45 } : Room)).room s m ([.ref (h0), .int (a0)] : List Value).toArray below meth c (va_Qi (fun v u => v = r.1 ∧ u = r.2) (fun (u : Int32 × (Nat → Int32) × (Nat → Int32) × Int32 × Int32) t => va_P (dC, dI) cls2 (wM cI h0 rw pt ou u.1 mR u.2.1 u.2.2.1 u.2.2.2.1 u.2.2.2.2) t.heap) (aM h0 rw pt ou)) (aM h0 rw pt ou) H locs (F0 m 158 ls []) := by
    intro x2 x3 x4 y_th y_pf y_of y_sz y_bg H locs ls hP hS hl hf
    rw [f_M_stretch_L158] at hf
    have hD : va_D (aM h0 rw pt ou) (wM cI h0 rw pt ou y_th mR y_pf y_of y_sz y_bg) := dD hD0 rfl
    refine lv_aload_n hx hb d_M_stretch_158 rfl (lv_at hl 0 rfl) ?_
    refine va_get (D := (dC, dI)) (ci := 1) (v := .ref (pt)) (C := "CodeWordsModel") (T := F_M) (N := 6) hx hb hts (in_M _) hown hK hP 0 rfl rfl 2 (by decide) (ht aw_441) (fun _ h9 => h9) rfl d_M_stretch_159 ?_
    refine lv_iconst (v := 0) hx hb d_M_stretch_162 (by decide) ?_
    refine lv_iconst (v := 0) hx hb d_M_stretch_163 (by decide) ?_
    obtain ⟨z_9, hf⟩ := ju_gd hf
    refine va_iast hx hb hK hP hD hS 2 0 rfl rfl z_9 d_M_stretch_164 (fun H locs hP hD hS => ?_)
    have hP : va_P (dC, dI) cls2 (wM cI h0 rw pt ou y_th mR (upd y_pf (0 : Int32).toNatClampNeg 0) y_of y_sz y_bg) H := hP
    have hD : va_D (aM h0 rw pt ou) (wM cI h0 rw pt ou y_th mR (upd y_pf (0 : Int32).toNatClampNeg 0) y_of y_sz y_bg) := hD
    exact J165 x2 x3 x4 y_th (upd y_pf (0 : Int32).toNatClampNeg 0) y_of y_sz y_bg _ _ _ hP hS (lv_sub hl [0, 1, 2, 3, 4] rfl) hf
  have J140 : ∀ (x2 : Int32) (x3 : Int32) (x4 : Int32) (y_th : Int32) (y_pf : (Nat → Int32)) (y_of : (Nat → Int32)) (y_sz : Int32) (y_bg : Int32) (H : Heap) (locs : List Loc) (ls : Array Slot), va_P (dC, dI) cls2 (wM cI h0 rw pt ou y_th mR y_pf y_of y_sz y_bg) H → va_S (aM h0 rw pt ou) s.heap H locs → lv_has ls 5 [(0, .ref (h0)), (1, .int (a0)), (2, .int (x2)), (3, .int (x3)), (4, .int (x4))] → f_M_stretch_L140 w_th w_pf w_of w_sz w_bg a0  x2 x3 x4 y_th y_pf y_of y_sz y_bg = some r → wW p l e (headSpec (Cond.code y_M_stretch b_M_stretch 5 (Option.some FieldType.int) :: aw) ({ frames := 2, cells := 0, slots := 0, locals := 45 } : Room)).room s m ([.ref (h0), .int (a0)] : List Value).toArray below meth c (va_Qi (fun v u => v = r.1 ∧ u = r.2) (fun (u : Int32 × (Nat → Int32) × (Nat → Int32) × Int32 × Int32) t => va_P (dC, dI) cls2 (wM cI h0 rw pt ou u.1 mR u.2.1 u.2.2.1 u.2.2.2.1 u.2.2.2.2) t.heap) (aM h0 rw pt ou)) (aM h0 rw pt ou) H locs (F0 m 140 ls []) := by
    intro x2 x3 x4 y_th y_pf y_of y_sz y_bg H locs ls hP hS hl hf
    rw [f_M_stretch_L140] at hf
    have hD : va_D (aM h0 rw pt ou) (wM cI h0 rw pt ou y_th mR y_pf y_of y_sz y_bg) := dD hD0 rfl
    refine lv_iload_n hx hb d_M_stretch_140 rfl (lv_at hl 1 rfl) ?_
    refine lv_bipush (v := 51) hx hb d_M_stretch_141 (by decide) ?_
    refine lv_icmp_eq (tgt := 158) hx hb d_M_stretch_143 (by decide) (fun c_8 => ?_) (fun c_8 => ?_)
    · replace hf := (if_pos c_8).symm.trans hf
      exact J158 x2 x3 x4 y_th y_pf y_of y_sz y_bg _ _ _ hP hS (lv_sub hl [0, 1, 2, 3, 4] rfl) hf
    · replace hf := (if_neg c_8).symm.trans hf
      refine lv_iload_n hx hb d_M_stretch_146 rfl (lv_at hl 1 rfl) ?_
      refine lv_bipush (v := 64) hx hb d_M_stretch_147 (by decide) ?_
      refine lv_icmp_eq (tgt := 158) hx hb d_M_stretch_149 (by decide) (fun c_30 => ?_) (fun c_30 => ?_)
      · replace hf := (if_pos c_30).symm.trans hf
        exact J158 x2 x3 x4 y_th y_pf y_of y_sz y_bg _ _ _ hP hS (lv_sub hl [0, 1, 2, 3, 4] rfl) hf
      · replace hf := (if_neg c_30).symm.trans hf
        refine lv_iload_n hx hb d_M_stretch_152 rfl (lv_at hl 1 rfl) ?_
        refine lv_bipush (v := 69) hx hb d_M_stretch_153 (by decide) ?_
        refine lv_icmp_ne (tgt := 165) hx hb d_M_stretch_155 (by decide) (fun c_31 => ?_) (fun c_31 => ?_)
        · replace hf := (if_neg c_31).symm.trans hf
          exact J165 x2 x3 x4 y_th y_pf y_of y_sz y_bg _ _ _ hP hS (lv_sub hl [0, 1, 2, 3, 4] rfl) hf
        · replace hf := (if_pos c_31).symm.trans hf
          exact J158 x2 x3 x4 y_th y_pf y_of y_sz y_bg _ _ _ hP hS (lv_sub hl [0, 1, 2, 3, 4] rfl) hf
  have J133 : ∀ (x2 : Int32) (x3 : Int32) (x4 : Int32) (y_th : Int32) (y_pf : (Nat → Int32)) (y_of : (Nat → Int32)) (y_sz : Int32) (y_bg : Int32) (H : Heap) (locs : List Loc) (ls : Array Slot), va_P (dC, dI) cls2 (wM cI h0 rw pt ou y_th mR y_pf y_of y_sz y_bg) H → va_S (aM h0 rw pt ou) s.heap H locs → lv_has ls 5 [(0, .ref (h0)), (1, .int (a0)), (2, .int (x2)), (3, .int (x3)), (4, .int (x4))] → f_M_stretch_L133 w_th w_pf w_of w_sz w_bg a0  x2 x3 x4 y_th y_pf y_of y_sz y_bg = some r → wW p l e (headSpec (Cond.code y_M_stretch b_M_stretch 5 (Option.some FieldType.int) :: aw) ({ frames := 2, cells := 0, slots := 0, locals := 45 } : Room)).room s m ([.ref (h0), .int (a0)] : List Value).toArray below meth c (va_Qi (fun v u => v = r.1 ∧ u = r.2) (fun (u : Int32 × (Nat → Int32) × (Nat → Int32) × Int32 × Int32) t => va_P (dC, dI) cls2 (wM cI h0 rw pt ou u.1 mR u.2.1 u.2.2.1 u.2.2.2.1 u.2.2.2.2) t.heap) (aM h0 rw pt ou)) (aM h0 rw pt ou) H locs (F0 m 133 ls []) := by
    intro x2 x3 x4 y_th y_pf y_of y_sz y_bg H locs ls hP hS hl hf
    rw [f_M_stretch_L133] at hf
    have hD : va_D (aM h0 rw pt ou) (wM cI h0 rw pt ou y_th mR y_pf y_of y_sz y_bg) := dD hD0 rfl
    refine lv_aload_n hx hb d_M_stretch_133 rfl (lv_at hl 0 rfl) ?_
    refine va_get (D := (dC, dI)) (ci := 1) (v := .ref (pt)) (C := "CodeWordsModel") (T := F_M) (N := 6) hx hb hts (in_M _) hown hK hP 0 rfl rfl 2 (by decide) (ht aw_441) (fun _ h9 => h9) rfl d_M_stretch_134 ?_
    refine lv_iconst (v := 1) hx hb d_M_stretch_137 (by decide) ?_
    refine lv_iconst (v := 0) hx hb d_M_stretch_138 (by decide) ?_
    obtain ⟨z_7, hf⟩ := ju_gd hf
    refine va_iast hx hb hK hP hD hS 2 0 rfl rfl z_7 d_M_stretch_139 (fun H locs hP hD hS => ?_)
    have hP : va_P (dC, dI) cls2 (wM cI h0 rw pt ou y_th mR (upd y_pf (1 : Int32).toNatClampNeg 0) y_of y_sz y_bg) H := hP
    have hD : va_D (aM h0 rw pt ou) (wM cI h0 rw pt ou y_th mR (upd y_pf (1 : Int32).toNatClampNeg 0) y_of y_sz y_bg) := hD
    exact J140 x2 x3 x4 y_th (upd y_pf (1 : Int32).toNatClampNeg 0) y_of y_sz y_bg _ _ _ hP hS (lv_sub hl [0, 1, 2, 3, 4] rfl) hf
  have J115 : ∀ (x2 : Int32) (x3 : Int32) (x4 : Int32) (y_th : Int32) (y_pf : (Nat → Int32)) (y_of : (Nat → Int32)) (y_sz : Int32) (y_bg : Int32) (H : Heap) (locs : List Loc) (ls : Array Slot), va_P (dC, dI) cls2 (wM cI h0 rw pt ou y_th mR y_pf y_of y_sz y_bg) H → va_S (aM h0 rw pt ou) s.heap H locs → lv_has ls 5 [(0, .ref (h0)), (1, .int (a0)), (2, .int (x2)), (3, .int (x3)), (4, .int (x4))] → f_M_stretch_L115 w_th w_pf w_of w_sz w_bg a0  x2 x3 x4 y_th y_pf y_of y_sz y_bg = some r → wW p l e (headSpec (Cond.code y_M_stretch b_M_stretch 5 (Option.some FieldType.int) :: aw) ({ frames := 2, cells := 0, slots := 0, locals := 45 } : Room)).room s m ([.ref (h0), .int (a0)] : List Value).toArray below meth c (va_Qi (fun v u => v = r.1 ∧ u = r.2) (fun (u : Int32 × (Nat → Int32) × (Nat → Int32) × Int32 × Int32) t => va_P (dC, dI) cls2 (wM cI h0 rw pt ou u.1 mR u.2.1 u.2.2.1 u.2.2.2.1 u.2.2.2.2) t.heap) (aM h0 rw pt ou)) (aM h0 rw pt ou) H locs (F0 m 115 ls []) := by
    intro x2 x3 x4 y_th y_pf y_of y_sz y_bg H locs ls hP hS hl hf
    rw [f_M_stretch_L115] at hf
    have hD : va_D (aM h0 rw pt ou) (wM cI h0 rw pt ou y_th mR y_pf y_of y_sz y_bg) := dD hD0 rfl
    refine lv_iload_n hx hb d_M_stretch_115 rfl (lv_at hl 1 rfl) ?_
    refine lv_bipush (v := 51) hx hb d_M_stretch_116 (by decide) ?_
    refine lv_icmp_eq (tgt := 133) hx hb d_M_stretch_118 (by decide) (fun c_6 => ?_) (fun c_6 => ?_)
    · replace hf := (if_pos c_6).symm.trans hf
      exact J133 x2 x3 x4 y_th y_pf y_of y_sz y_bg _ _ _ hP hS (lv_sub hl [0, 1, 2, 3, 4] rfl) hf
    · replace hf := (if_neg c_6).symm.trans hf
      refine lv_iload_n hx hb d_M_stretch_121 rfl (lv_at hl 1 rfl) ?_
      refine lv_bipush (v := 54) hx hb d_M_stretch_122 (by decide) ?_
      refine lv_icmp_eq (tgt := 133) hx hb d_M_stretch_124 (by decide) (fun c_32 => ?_) (fun c_32 => ?_)
      · replace hf := (if_pos c_32).symm.trans hf
        exact J133 x2 x3 x4 y_th y_pf y_of y_sz y_bg _ _ _ hP hS (lv_sub hl [0, 1, 2, 3, 4] rfl) hf
      · replace hf := (if_neg c_32).symm.trans hf
        refine lv_iload_n hx hb d_M_stretch_127 rfl (lv_at hl 1 rfl) ?_
        refine lv_bipush (v := 70) hx hb d_M_stretch_128 (by decide) ?_
        refine lv_icmp_ne (tgt := 140) hx hb d_M_stretch_130 (by decide) (fun c_33 => ?_) (fun c_33 => ?_)
        · replace hf := (if_neg c_33).symm.trans hf
          exact J140 x2 x3 x4 y_th y_pf y_of y_sz y_bg _ _ _ hP hS (lv_sub hl [0, 1, 2, 3, 4] rfl) hf
        · replace hf := (if_pos c_33).symm.trans hf
          exact J133 x2 x3 x4 y_th y_pf y_of y_sz y_bg _ _ _ hP hS (lv_sub hl [0, 1, 2, 3, 4] rfl) hf
  have J103 : ∀ (x2 : Int32) (x3 : Int32) (x4 : Int32) (y_th : Int32) (y_pf : (Nat → Int32)) (y_of : (Nat → Int32)) (y_sz : Int32) (y_bg : Int32) (H : Heap) (locs : List Loc) (ls : Array Slot), va_P (dC, dI) cls2 (wM cI h0 rw pt ou y_th mR y_pf y_of y_sz y_bg) H → va_S (aM h0 rw pt ou) s.heap H locs → lv_has ls 5 [(0, .ref (h0)), (1, .int (a0)), (2, .int (x2)), (3, .int (x3)), (4, .int (x4))] → f_M_stretch_L103 w_th w_pf w_of w_sz w_bg a0  x2 x3 x4 y_th y_pf y_of y_sz y_bg = some r → wW p l e (headSpec (Cond.code y_M_stretch b_M_stretch 5 (Option.some FieldType.int) :: aw) ({ frames := 2, cells := 0, slots := 0, locals := 45 } : Room)).room s m ([.ref (h0), .int (a0)] : List Value).toArray below meth c (va_Qi (fun v u => v = r.1 ∧ u = r.2) (fun (u : Int32 × (Nat → Int32) × (Nat → Int32) × Int32 × Int32) t => va_P (dC, dI) cls2 (wM cI h0 rw pt ou u.1 mR u.2.1 u.2.2.1 u.2.2.2.1 u.2.2.2.2) t.heap) (aM h0 rw pt ou)) (aM h0 rw pt ou) H locs (F0 m 103 ls []) := by
    intro x2 x3 x4 y_th y_pf y_of y_sz y_bg H locs ls hP hS hl hf
    rw [f_M_stretch_L103] at hf
    have hD : va_D (aM h0 rw pt ou) (wM cI h0 rw pt ou y_th mR y_pf y_of y_sz y_bg) := dD hD0 rfl
    refine lv_iload hx hb d_M_stretch_103 (lv_at hl 4 rfl) ?_
    refine lv_if_eq (tgt := 115) hx hb d_M_stretch_105 (by decide) (fun c_5 => ?_) (fun c_5 => ?_)
    · replace hf := (if_pos c_5).symm.trans hf
      exact J115 x2 x3 x4 y_th y_pf y_of y_sz y_bg _ _ _ hP hS (lv_sub hl [0, 1, 2, 3, 4] rfl) hf
    · replace hf := (if_neg c_5).symm.trans hf
      refine lv_aload_n hx hb d_M_stretch_108 rfl (lv_at hl 0 rfl) ?_
      refine va_get (D := (dC, dI)) (ci := 1) (v := .ref (pt)) (C := "CodeWordsModel") (T := F_M) (N := 6) hx hb hts (in_M _) hown hK hP 0 rfl rfl 2 (by decide) (ht aw_441) (fun _ h9 => h9) rfl d_M_stretch_109 ?_
      refine lv_iconst (v := 1) hx hb d_M_stretch_112 (by decide) ?_
      refine lv_iconst (v := 2) hx hb d_M_stretch_113 (by decide) ?_
      obtain ⟨z_34, hf⟩ := ju_gd hf
      refine va_iast hx hb hK hP hD hS 2 0 rfl rfl z_34 d_M_stretch_114 (fun H locs hP hD hS => ?_)
      have hP : va_P (dC, dI) cls2 (wM cI h0 rw pt ou y_th mR (upd y_pf (1 : Int32).toNatClampNeg 2) y_of y_sz y_bg) H := hP
      have hD : va_D (aM h0 rw pt ou) (wM cI h0 rw pt ou y_th mR (upd y_pf (1 : Int32).toNatClampNeg 2) y_of y_sz y_bg) := hD
      exact J115 x2 x3 x4 y_th (upd y_pf (1 : Int32).toNatClampNeg 2) y_of y_sz y_bg _ _ _ hP hS (lv_sub hl [0, 1, 2, 3, 4] rfl) hf
  have J90 : ∀ (x2 : Int32) (x3 : Int32) (t0 : Int32) (y_th : Int32) (y_pf : (Nat → Int32)) (y_of : (Nat → Int32)) (y_sz : Int32) (y_bg : Int32) (H : Heap) (locs : List Loc) (ls : Array Slot), va_P (dC, dI) cls2 (wM cI h0 rw pt ou y_th mR y_pf y_of y_sz y_bg) H → va_S (aM h0 rw pt ou) s.heap H locs → lv_has ls 5 [(0, .ref (h0)), (1, .int (a0)), (2, .int (x2)), (3, .int (x3))] → f_M_stretch_L90 w_th w_pf w_of w_sz w_bg a0  x2 x3 t0 y_th y_pf y_of y_sz y_bg = some r → wW p l e (headSpec (Cond.code y_M_stretch b_M_stretch 5 (Option.some FieldType.int) :: aw) ({ frames := 2, cells := 0, slots := 0, locals := 45 } : Room)).room s m ([.ref (h0), .int (a0)] : List Value).toArray below meth c (va_Qi (fun v u => v = r.1 ∧ u = r.2) (fun (u : Int32 × (Nat → Int32) × (Nat → Int32) × Int32 × Int32) t => va_P (dC, dI) cls2 (wM cI h0 rw pt ou u.1 mR u.2.1 u.2.2.1 u.2.2.2.1 u.2.2.2.2) t.heap) (aM h0 rw pt ou)) (aM h0 rw pt ou) H locs (F0 m 90 ls [.int (t0)]) := by
    intro x2 x3 t0 y_th y_pf y_of y_sz y_bg H locs ls hP hS hl hf
    rw [f_M_stretch_L90] at hf
    have hD : va_D (aM h0 rw pt ou) (wM cI h0 rw pt ou y_th mR y_pf y_of y_sz y_bg) := dD hD0 rfl
    refine lv_istore (lv' := [(4, .int (t0)), (0, .ref (h0)), (1, .int (a0)), (2, .int (x2)), (3, .int (x3))]) hx hb d_M_stretch_90 hl (by decide) rfl (fun ls hl => ?_)
    refine lv_iload_n hx hb d_M_stretch_92 rfl (lv_at hl 4 rfl) ?_
    refine lv_if_eq (tgt := 103) hx hb d_M_stretch_93 (by decide) (fun c_4 => ?_) (fun c_4 => ?_)
    · replace hf := (if_pos c_4).symm.trans hf
      exact J103 x2 x3 t0 y_th y_pf y_of y_sz y_bg _ _ _ hP hS (lv_sub hl [1, 2, 3, 4, 0] rfl) hf
    · replace hf := (if_neg c_4).symm.trans hf
      refine lv_aload_n hx hb d_M_stretch_96 rfl (lv_at hl 1 rfl) ?_
      refine va_get (D := (dC, dI)) (ci := 1) (v := .ref (pt)) (C := "CodeWordsModel") (T := F_M) (N := 6) hx hb hts (in_M _) hown hK hP 0 rfl rfl 2 (by decide) (ht aw_441) (fun _ h9 => h9) rfl d_M_stretch_97 ?_
      refine lv_iconst (v := 1) hx hb d_M_stretch_100 (by decide) ?_
      refine lv_iload_n hx hb d_M_stretch_101 rfl (lv_at hl 3 rfl) ?_
      obtain ⟨z_35, hf⟩ := ju_gd hf
      refine va_iast hx hb hK hP hD hS 2 0 rfl rfl z_35 d_M_stretch_102 (fun H locs hP hD hS => ?_)
      have hP : va_P (dC, dI) cls2 (wM cI h0 rw pt ou y_th mR (upd y_pf (1 : Int32).toNatClampNeg x2) y_of y_sz y_bg) H := hP
      have hD : va_D (aM h0 rw pt ou) (wM cI h0 rw pt ou y_th mR (upd y_pf (1 : Int32).toNatClampNeg x2) y_of y_sz y_bg) := hD
      exact J103 x2 x3 t0 y_th (upd y_pf (1 : Int32).toNatClampNeg x2) y_of y_sz y_bg _ _ _ hP hS (lv_sub hl [1, 2, 3, 4, 0] rfl) hf
  have J85 : ∀ (x2 : Int32) (x3 : Int32) (y_th : Int32) (y_pf : (Nat → Int32)) (y_of : (Nat → Int32)) (y_sz : Int32) (y_bg : Int32) (H : Heap) (locs : List Loc) (ls : Array Slot), va_P (dC, dI) cls2 (wM cI h0 rw pt ou y_th mR y_pf y_of y_sz y_bg) H → va_S (aM h0 rw pt ou) s.heap H locs → lv_has ls 5 [(0, .ref (h0)), (1, .int (a0)), (2, .int (x2)), (3, .int (x3))] → f_M_stretch_L85 w_th w_pf w_of w_sz w_bg a0  x2 x3 y_th y_pf y_of y_sz y_bg = some r → wW p l e (headSpec (Cond.code y_M_stretch b_M_stretch 5 (Option.some FieldType.int) :: aw) ({ frames := 2, cells := 0, slots := 0, locals := 45 } : Room)).room s m ([.ref (h0), .int (a0)] : List Value).toArray below meth c (va_Qi (fun v u => v = r.1 ∧ u = r.2) (fun (u : Int32 × (Nat → Int32) × (Nat → Int32) × Int32 × Int32) t => va_P (dC, dI) cls2 (wM cI h0 rw pt ou u.1 mR u.2.1 u.2.2.1 u.2.2.2.1 u.2.2.2.2) t.heap) (aM h0 rw pt ou)) (aM h0 rw pt ou) H locs (F0 m 85 ls []) := by
    intro x2 x3 y_th y_pf y_of y_sz y_bg H locs ls hP hS hl hf
    rw [f_M_stretch_L85] at hf
    have hD : va_D (aM h0 rw pt ou) (wM cI h0 rw pt ou y_th mR y_pf y_of y_sz y_bg) := dD hD0 rfl
    refine lv_iconst (v := 1) hx hb d_M_stretch_85 (by decide) ?_
    refine lv_goto (tgt := 90) hx hb d_M_stretch_86 (by decide) ?_
    exact J90 x2 x3 1 y_th y_pf y_of y_sz y_bg _ _ _ hP hS (lv_sub hl [0, 1, 2, 3] rfl) hf
  have J60 : ∀ (x2 : Int32) (t0 : Int32) (y_th : Int32) (y_pf : (Nat → Int32)) (y_of : (Nat → Int32)) (y_sz : Int32) (y_bg : Int32) (H : Heap) (locs : List Loc) (ls : Array Slot), va_P (dC, dI) cls2 (wM cI h0 rw pt ou y_th mR y_pf y_of y_sz y_bg) H → va_S (aM h0 rw pt ou) s.heap H locs → lv_has ls 5 [(0, .ref (h0)), (1, .int (a0)), (2, .int (x2))] → f_M_stretch_L60 w_th w_pf w_of w_sz w_bg a0  x2 t0 y_th y_pf y_of y_sz y_bg = some r → wW p l e (headSpec (Cond.code y_M_stretch b_M_stretch 5 (Option.some FieldType.int) :: aw) ({ frames := 2, cells := 0, slots := 0, locals := 45 } : Room)).room s m ([.ref (h0), .int (a0)] : List Value).toArray below meth c (va_Qi (fun v u => v = r.1 ∧ u = r.2) (fun (u : Int32 × (Nat → Int32) × (Nat → Int32) × Int32 × Int32) t => va_P (dC, dI) cls2 (wM cI h0 rw pt ou u.1 mR u.2.1 u.2.2.1 u.2.2.2.1 u.2.2.2.2) t.heap) (aM h0 rw pt ou)) (aM h0 rw pt ou) H locs (F0 m 60 ls [.int (t0)]) := by
    intro x2 t0 y_th y_pf y_of y_sz y_bg H locs ls hP hS hl hf
    rw [f_M_stretch_L60] at hf
    have hD : va_D (aM h0 rw pt ou) (wM cI h0 rw pt ou y_th mR y_pf y_of y_sz y_bg) := dD hD0 rfl
    refine lv_istore_n (lv' := [(3, .int (t0)), (0, .ref (h0)), (1, .int (a0)), (2, .int (x2))]) hx hb d_M_stretch_60 rfl hl (by decide) rfl (fun ls hl => ?_)
    refine lv_iload_n hx hb d_M_stretch_61 rfl (lv_at hl 2 rfl) ?_
    refine lv_bipush (v := 48) hx hb d_M_stretch_62 (by decide) ?_
    refine lv_icmp_eq (tgt := 85) hx hb d_M_stretch_64 (by decide) (fun c_3 => ?_) (fun c_3 => ?_)
    · replace hf := (if_pos c_3).symm.trans hf
      exact J85 x2 t0 y_th y_pf y_of y_sz y_bg _ _ _ hP hS (lv_sub hl [1, 2, 3, 0] rfl) hf
    · replace hf := (if_neg c_3).symm.trans hf
      refine lv_iload_n hx hb d_M_stretch_67 rfl (lv_at hl 2 rfl) ?_
      refine lv_bipush (v := 55) hx hb d_M_stretch_68 (by decide) ?_
      refine lv_icmp_eq (tgt := 85) hx hb d_M_stretch_70 (by decide) (fun c_36 => ?_) (fun c_36 => ?_)
      · replace hf := (if_pos c_36).symm.trans hf
        exact J85 x2 t0 y_th y_pf y_of y_sz y_bg _ _ _ hP hS (lv_sub hl [1, 2, 3, 0] rfl) hf
      · replace hf := (if_neg c_36).symm.trans hf
        refine lv_iload_n hx hb d_M_stretch_73 rfl (lv_at hl 2 rfl) ?_
        refine lv_bipush (v := 68) hx hb d_M_stretch_74 (by decide) ?_
        refine lv_icmp_eq (tgt := 85) hx hb d_M_stretch_76 (by decide) (fun c_37 => ?_) (fun c_37 => ?_)
        · replace hf := (if_pos c_37).symm.trans hf
          exact J85 x2 t0 y_th y_pf y_of y_sz y_bg _ _ _ hP hS (lv_sub hl [1, 2, 3, 0] rfl) hf
        · replace hf := (if_neg c_37).symm.trans hf
          refine lv_iload_n hx hb d_M_stretch_79 rfl (lv_at hl 2 rfl) ?_
          refine lv_bipush (v := 74) hx hb d_M_stretch_80 (by decide) ?_
          refine lv_icmp_ne (tgt := 89) hx hb d_M_stretch_82 (by decide) (fun c_38 => ?_) (fun c_38 => ?_)
          · replace hf := (if_neg c_38).symm.trans hf
            refine lv_iconst (v := 0) hx hb d_M_stretch_89 (by decide) ?_
            exact J90 x2 t0 0 y_th y_pf y_of y_sz y_bg _ _ _ hP hS (lv_sub hl [1, 2, 3, 0] rfl) hf
          · replace hf := (if_pos c_38).symm.trans hf
            exact J85 x2 t0 y_th y_pf y_of y_sz y_bg _ _ _ hP hS (lv_sub hl [1, 2, 3, 0] rfl) hf
  have J55 : ∀ (x2 : Int32) (y_th : Int32) (y_pf : (Nat → Int32)) (y_of : (Nat → Int32)) (y_sz : Int32) (y_bg : Int32) (H : Heap) (locs : List Loc) (ls : Array Slot), va_P (dC, dI) cls2 (wM cI h0 rw pt ou y_th mR y_pf y_of y_sz y_bg) H → va_S (aM h0 rw pt ou) s.heap H locs → lv_has ls 5 [(0, .ref (h0)), (1, .int (a0)), (2, .int (x2))] → f_M_stretch_L55 w_th w_pf w_of w_sz w_bg a0  x2 y_th y_pf y_of y_sz y_bg = some r → wW p l e (headSpec (Cond.code y_M_stretch b_M_stretch 5 (Option.some FieldType.int) :: aw) ({ frames := 2, cells := 0, slots := 0, locals := 45 } : Room)).room s m ([.ref (h0), .int (a0)] : List Value).toArray below meth c (va_Qi (fun v u => v = r.1 ∧ u = r.2) (fun (u : Int32 × (Nat → Int32) × (Nat → Int32) × Int32 × Int32) t => va_P (dC, dI) cls2 (wM cI h0 rw pt ou u.1 mR u.2.1 u.2.2.1 u.2.2.2.1 u.2.2.2.2) t.heap) (aM h0 rw pt ou)) (aM h0 rw pt ou) H locs (F0 m 55 ls []) := by
    intro x2 y_th y_pf y_of y_sz y_bg H locs ls hP hS hl hf
    rw [f_M_stretch_L55] at hf
    have hD : va_D (aM h0 rw pt ou) (wM cI h0 rw pt ou y_th mR y_pf y_of y_sz y_bg) := dD hD0 rfl
    refine lv_iconst (v := 1) hx hb d_M_stretch_55 (by decide) ?_
    refine lv_goto (tgt := 60) hx hb d_M_stretch_56 (by decide) ?_
    exact J60 x2 1 y_th y_pf y_of y_sz y_bg _ _ _ hP hS (lv_sub hl [0, 1, 2] rfl) hf
  have J43 : ∀ (x2 : Int32) (y_th : Int32) (y_pf : (Nat → Int32)) (y_of : (Nat → Int32)) (y_sz : Int32) (y_bg : Int32) (H : Heap) (locs : List Loc) (ls : Array Slot), va_P (dC, dI) cls2 (wM cI h0 rw pt ou y_th mR y_pf y_of y_sz y_bg) H → va_S (aM h0 rw pt ou) s.heap H locs → lv_has ls 5 [(0, .ref (h0)), (1, .int (a0)), (2, .int (x2))] → f_M_stretch_L43 w_th w_pf w_of w_sz w_bg a0  x2 y_th y_pf y_of y_sz y_bg = some r → wW p l e (headSpec (Cond.code y_M_stretch b_M_stretch 5 (Option.some FieldType.int) :: aw) ({ frames := 2, cells := 0, slots := 0, locals := 45 } : Room)).room s m ([.ref (h0), .int (a0)] : List Value).toArray below meth c (va_Qi (fun v u => v = r.1 ∧ u = r.2) (fun (u : Int32 × (Nat → Int32) × (Nat → Int32) × Int32 × Int32) t => va_P (dC, dI) cls2 (wM cI h0 rw pt ou u.1 mR u.2.1 u.2.2.1 u.2.2.2.1 u.2.2.2.2) t.heap) (aM h0 rw pt ou)) (aM h0 rw pt ou) H locs (F0 m 43 ls []) := by
    intro x2 y_th y_pf y_of y_sz y_bg H locs ls hP hS hl hf
    rw [f_M_stretch_L43] at hf
    have hD : va_D (aM h0 rw pt ou) (wM cI h0 rw pt ou y_th mR y_pf y_of y_sz y_bg) := dD hD0 rfl
    refine lv_iload_n hx hb d_M_stretch_43 rfl (lv_at hl 1 rfl) ?_
    refine lv_bipush (v := 67) hx hb d_M_stretch_44 (by decide) ?_
    refine lv_icmp_eq (tgt := 55) hx hb d_M_stretch_46 (by decide) (fun c_43 => ?_) (fun c_43 => ?_)
    · replace hf := (if_pos c_43).symm.trans hf
      exact J55 x2 y_th y_pf y_of y_sz y_bg _ _ _ hP hS (lv_sub hl [0, 1, 2] rfl) hf
    · replace hf := (if_neg c_43).symm.trans hf
      refine lv_iload_n hx hb d_M_stretch_49 rfl (lv_at hl 1 rfl) ?_
      refine lv_bipush (v := 73) hx hb d_M_stretch_50 (by decide) ?_
      refine lv_icmp_ne (tgt := 59) hx hb d_M_stretch_52 (by decide) (fun c_44 => ?_) (fun c_44 => ?_)
      · replace hf := (if_neg c_44).symm.trans hf
        refine lv_iconst (v := 0) hx hb d_M_stretch_59 (by decide) ?_
        exact J60 x2 0 y_th y_pf y_of y_sz y_bg _ _ _ hP hS (lv_sub hl [0, 1, 2] rfl) hf
      · replace hf := (if_pos c_44).symm.trans hf
        exact J55 x2 y_th y_pf y_of y_sz y_bg _ _ _ hP hS (lv_sub hl [0, 1, 2] rfl) hf
  rw [f_M_stretch] at hf
  refine lv_aload_n hx hb d_M_stretch_0 rfl (lv_at hl 0 rfl) ?_
  refine va_get (D := (dC, dI)) (ci := 1) (v := .ref (pt)) (C := "CodeWordsModel") (T := F_M) (N := 6) hx hb hts (in_M _) hown hK hP 0 rfl rfl 2 (by decide) (ht aw_441) (fun _ h9 => h9) rfl d_M_stretch_1 ?_
  refine lv_iconst (v := 0) hx hb d_M_stretch_4 (by decide) ?_
  obtain ⟨z_1, hf⟩ := ju_gd hf
  refine va_iald hx hb hK hP 2 0 rfl rfl z_1 d_M_stretch_5 ?_
  refine lv_istore_n (lv' := [(2, .int (w_pf (0 : Int32).toNatClampNeg)), (0, .ref (h0)), (1, .int (a0))]) hx hb d_M_stretch_6 rfl hl (by decide) rfl (fun ls hl => ?_)
  refine lv_iload_n hx hb d_M_stretch_7 rfl (lv_at hl 2 rfl) ?_
  refine lv_bipush (v := 52) hx hb d_M_stretch_8 (by decide) ?_
  refine lv_icmp_eq (tgt := 55) hx hb d_M_stretch_10 (by decide) (fun c_2 => ?_) (fun c_2 => ?_)
  · replace hf := (if_pos c_2).symm.trans hf
    exact J55 (w_pf (0 : Int32).toNatClampNeg) w_th w_pf w_of w_sz w_bg _ _ _ hP hS (lv_sub hl [1, 2, 0] rfl) hf
  · replace hf := (if_neg c_2).symm.trans hf
    refine lv_iload_n hx hb d_M_stretch_13 rfl (lv_at hl 2 rfl) ?_
    refine lv_bipush (v := 57) hx hb d_M_stretch_14 (by decide) ?_
    refine lv_icmp_eq (tgt := 55) hx hb d_M_stretch_16 (by decide) (fun c_39 => ?_) (fun c_39 => ?_)
    · replace hf := (if_pos c_39).symm.trans hf
      exact J55 (w_pf (0 : Int32).toNatClampNeg) w_th w_pf w_of w_sz w_bg _ _ _ hP hS (lv_sub hl [1, 2, 0] rfl) hf
    · replace hf := (if_neg c_39).symm.trans hf
      refine lv_iload_n hx hb d_M_stretch_19 rfl (lv_at hl 2 rfl) ?_
      refine lv_bipush (v := 58) hx hb d_M_stretch_20 (by decide) ?_
      refine lv_icmp_eq (tgt := 55) hx hb d_M_stretch_22 (by decide) (fun c_40 => ?_) (fun c_40 => ?_)
      · replace hf := (if_pos c_40).symm.trans hf
        exact J55 (w_pf (0 : Int32).toNatClampNeg) w_th w_pf w_of w_sz w_bg _ _ _ hP hS (lv_sub hl [1, 2, 0] rfl) hf
      · replace hf := (if_neg c_40).symm.trans hf
        refine lv_iload_n hx hb d_M_stretch_25 rfl (lv_at hl 2 rfl) ?_
        refine lv_bipush (v := 59) hx hb d_M_stretch_26 (by decide) ?_
        refine lv_icmp_eq (tgt := 55) hx hb d_M_stretch_28 (by decide) (fun c_41 => ?_) (fun c_41 => ?_)
        · replace hf := (if_pos c_41).symm.trans hf
          exact J55 (w_pf (0 : Int32).toNatClampNeg) w_th w_pf w_of w_sz w_bg _ _ _ hP hS (lv_sub hl [1, 2, 0] rfl) hf
        · replace hf := (if_neg c_41).symm.trans hf
          refine lv_iload_n hx hb d_M_stretch_31 rfl (lv_at hl 2 rfl) ?_
          refine lv_bipush (v := 59) hx hb d_M_stretch_32 (by decide) ?_
          refine lv_icmp_le (tgt := 43) hx hb d_M_stretch_34 (by decide) (fun c_42 => ?_) (fun c_42 => ?_)
          · replace hf := (if_pos c_42).symm.trans hf
            exact J43 (w_pf (0 : Int32).toNatClampNeg) w_th w_pf w_of w_sz w_bg _ _ _ hP hS (lv_sub hl [1, 2, 0] rfl) hf
          · replace hf := (if_neg c_42).symm.trans hf
            refine lv_iload_n hx hb d_M_stretch_37 rfl (lv_at hl 2 rfl) ?_
            refine lv_bipush (v := 64) hx hb d_M_stretch_38 (by decide) ?_
            refine lv_icmp_lt (tgt := 55) hx hb d_M_stretch_40 (by decide) (fun c_45 => ?_) (fun c_45 => ?_)
            · replace hf := (if_pos c_45).symm.trans hf
              exact J55 (w_pf (0 : Int32).toNatClampNeg) w_th w_pf w_of w_sz w_bg _ _ _ hP hS (lv_sub hl [1, 2, 0] rfl) hf
            · replace hf := (if_neg c_45).symm.trans hf
              exact J43 (w_pf (0 : Int32).toNatClampNeg) w_th w_pf w_of w_sz w_bg _ _ _ hP hS (lv_sub hl [1, 2, 0] rfl) hf

def f_M_longer_L28 (w_th : Int32) (w_pf : Nat → Int32) (w_of : Nat → Int32) (w_sz : Int32) (w_bg : Int32) (a0 : Int32)  (x2 : Int32) (t0 : Int32) (y_th : Int32) (y_pf : (Nat → Int32)) (y_of : (Nat → Int32)) (y_sz : Int32) (y_bg : Int32) : Option (Int32 × Int32 × (Nat → Int32) × (Nat → Int32) × Int32 × Int32) :=
  if t0 = 0 then ((f_M_stretch t0 y_pf y_of y_sz y_bg x2).bind fun r_8 => some (r_8.1, r_8.2.1, r_8.2.2.1, r_8.2.2.2.1, r_8.2.2.2.2.1, r_8.2.2.2.2.2)) else (some (0, t0, y_pf, y_of, y_sz, y_bg))
def f_M_longer_L16 (w_th : Int32) (w_pf : Nat → Int32) (w_of : Nat → Int32) (w_sz : Int32) (w_bg : Int32) (a0 : Int32)  (t0 : Int32) (y_th : Int32) (y_pf : (Nat → Int32)) (y_of : (Nat → Int32)) (y_sz : Int32) (y_bg : Int32) : Option (Int32 × Int32 × (Nat → Int32) × (Nat → Int32) × Int32 × Int32) :=
  if t0 = ((-1)) then (f_M_longer_L28 w_th w_pf w_of w_sz w_bg a0  t0 1 y_th y_pf y_of y_sz y_bg) else (f_M_longer_L28 w_th w_pf w_of w_sz w_bg a0  t0 0 y_th y_pf y_of y_sz y_bg)
def f_M_longer (w_th : Int32) (w_pf : Nat → Int32) (w_of : Nat → Int32) (w_sz : Int32) (w_bg : Int32) (a0 : Int32) : Option (Int32 × Int32 × (Nat → Int32) × (Nat → Int32) × Int32 × Int32) :=
  (f_M_isLong a0).bind fun r_1 => if (bI r_1) = 0 then ((f_M_find w_th w_pf w_of w_sz w_bg a0).bind fun r_4 => f_M_longer_L16 w_th w_pf w_of w_sz w_bg a0  r_4.1 r_4.2.1 r_4.2.2.1 r_4.2.2.2.1 r_4.2.2.2.2.1 r_4.2.2.2.2.2) else (f_M_longer_L16 w_th w_pf w_of w_sz w_bg a0  ((-1)) w_th w_pf w_of w_sz w_bg)
set_option maxHeartbeats 1000000 in
set_option maxRecDepth 100000 in
theorem c_M_longer (l : Launch) {ad sk sv : Nat → Nat} {tK : Nat} (dC : Nat → ClassId) (dI : Nat → Nat → Nat) (cI : ClassId) (h0 rw pt ou : Nat) (w_th : Int32) (w_pf : Nat → Int32) (w_of : Nat → Int32) (w_sz : Int32) (w_bg : Int32) (a0 : Int32)  (r : Int32 × Int32 × (Nat → Int32) × (Nat → Int32) × Int32 × Int32) (hf : f_M_longer w_th w_pf w_of w_sz w_bg a0 = some r) : Met l y_M_longer (Cond.code y_M_longer b_M_longer 3 (Option.some FieldType.int) :: aw) ({ frames := 6, cells := 0, slots := 0, locals := 137 } : Room) (va_Pc [.ref (h0), .int (a0)] (fun U => va_P (dC, dI) cls2 (wM cI h0 rw pt ou w_th mR w_pf w_of w_sz w_bg) U.heap ∧ va_K (dC, dI) cls2 [(cI, .int)] U ∧ va_D (aM h0 rw pt ou) (wM cI h0 rw pt ou w_th mR w_pf w_of w_sz w_bg) ∧ tb ad sk sv tK (aM h0 rw pt ou) U U.heap)) (va_Qi (fun v u => v = r.1 ∧ u = r.2) (fun (u : Int32 × (Nat → Int32) × (Nat → Int32) × Int32 × Int32) t => va_P (dC, dI) cls2 (wM cI h0 rw pt ou u.1 mR u.2.1 u.2.2.1 u.2.2.2.1 u.2.2.2.2) t.heap) (aM h0 rw pt ou)) 0 0 (aM h0 rw pt ou) := by
  refine Met.ofW (cc := b_M_longer) (maxL := 3) (ret := (Option.some FieldType.int)) (by decide) rfl ?_
  intro p e s m args below meth c s₁ B hml hv
  obtain ⟨rfl, hP, hK, hD, hT⟩ := hv
  have hD0 := hD
  have hx := B.exec
  have hb := B.bytes
  have hr := B.returns
  have hts := atoms_spec (ws := (Cond.code y_M_longer b_M_longer 3 (Option.some FieldType.int) :: aw)) B.pre
  have ht : ∀ {w : Cond}, w ∈ aw → w.before ([.ref (h0), .int (a0)] : List Value).toArray s = true := fun h => hts _ (List.mem_cons_of_mem _ h)
  have hown : s.vm.findClass "CodeWordsModel" = some m.cls := findClass_of_methodNamed B.named
  have hlocks := B.notSynchronized
  have hS : va_S (aM h0 rw pt ou) s.heap s.heap [] := va_S.rf
  have hl := lv_entry ([.ref (h0), .int (a0)]) (n := 3) (Nat.le_of_ble_eq_true rfl)
  rw [lg_entry_eq]
  generalize (lg_sl ([.ref (h0), .int (a0)]) ++ List.replicate (3 - (lg_sl ([.ref (h0), .int (a0)])).length) Slot.unset).toArray = ls at hl ⊢
  have hl : lv_has ls 3 [(0, .ref (h0)), (1, .int (a0))] := hl
  have J28 : ∀ (x2 : Int32) (t0 : Int32) (y_th : Int32) (y_pf : (Nat → Int32)) (y_of : (Nat → Int32)) (y_sz : Int32) (y_bg : Int32) (H : Heap) (locs : List Loc) (ls : Array Slot), va_P (dC, dI) cls2 (wM cI h0 rw pt ou y_th mR y_pf y_of y_sz y_bg) H → va_S (aM h0 rw pt ou) s.heap H locs → lv_has ls 3 [(0, .ref (h0)), (1, .int (a0)), (2, .int (x2))] → f_M_longer_L28 w_th w_pf w_of w_sz w_bg a0  x2 t0 y_th y_pf y_of y_sz y_bg = some r → wW p l e (headSpec (Cond.code y_M_longer b_M_longer 3 (Option.some FieldType.int) :: aw) ({ frames := 6, cells := 0, slots := 0, locals := 137 } : Room)).room s m ([.ref (h0), .int (a0)] : List Value).toArray below meth c (va_Qi (fun v u => v = r.1 ∧ u = r.2) (fun (u : Int32 × (Nat → Int32) × (Nat → Int32) × Int32 × Int32) t => va_P (dC, dI) cls2 (wM cI h0 rw pt ou u.1 mR u.2.1 u.2.2.1 u.2.2.2.1 u.2.2.2.2) t.heap) (aM h0 rw pt ou)) (aM h0 rw pt ou) H locs (F0 m 28 ls [.int (t0), .ref (h0)]) := by
    intro x2 t0 y_th y_pf y_of y_sz y_bg H locs ls hP hS hl hf
    rw [f_M_longer_L28] at hf
    have hD : va_D (aM h0 rw pt ou) (wM cI h0 rw pt ou y_th mR y_pf y_of y_sz y_bg) := dD hD0 rfl
    refine va_put (D := (dC, dI)) (ci := 1) (v := .int (t0)) (ty := .int) (C := "CodeWordsModel") (T := F_M) (N := 6) hx hb hts (in_M _) ty_M tyok_M nm_M hown hK hP hD hS 0 rfl rfl 0 (by decide) (ht aw_439) (fun _ h9 => h9) rfl (by decide +kernel) rfl rfl (Nat.le_of_ble_eq_true rfl) d_M_longer_28 (fun H locs hP hD hS => ?_)
    have hP : va_P (dC, dI) cls2 (wM cI h0 rw pt ou t0 mR y_pf y_of y_sz y_bg) H := hP
    have hD : va_D (aM h0 rw pt ou) (wM cI h0 rw pt ou t0 mR y_pf y_of y_sz y_bg) := hD
    refine lv_aload_n hx hb d_M_longer_31 rfl (lv_at hl 0 rfl) ?_
    refine va_get (D := (dC, dI)) (ci := 1) (v := .int (t0)) (C := "CodeWordsModel") (T := F_M) (N := 6) hx hb hts (in_M _) hown hK hP 0 rfl rfl 0 (by decide) (ht aw_439) (fun _ h9 => h9) rfl d_M_longer_32 ?_
    refine lv_if_ne (tgt := 46) hx hb d_M_longer_35 (by decide) (fun c_7 => ?_) (fun c_7 => ?_)
    · replace hf := (if_neg c_7).symm.trans hf
      refine lv_iconst (v := 0) hx hb d_M_longer_46 (by decide) ?_
      exact W.iret (v := 0) hx hb hr (fun t ht hW => ⟨⟨_, (t0, y_pf, y_of, y_sz, y_bg), rfl, ⟨congrArg (fun z => z.1) (Option.some.inj hf), congrArg (fun z => z.2) (Option.some.inj hf)⟩, by rw [← ht] at hP; exact hP⟩, hS.F ht⟩) hS.2.2 d_M_longer_47
    · replace hf := (if_pos c_7).symm.trans hf
      refine lv_aload_n hx hb d_M_longer_38 rfl (lv_at hl 0 rfl) ?_
      refine lv_iload_n hx hb d_M_longer_39 rfl (lv_at hl 2 rfl) ?_
      obtain ⟨r_8, g_9, hf⟩ := Option.bind_eq_some_iff.mp hf
      refine va_calli (va_runV (As := [.int (x2)]) (rest := []) ⟨hx, hb, hml, hown, hts⟩ (c_M_stretch l (ad := ad) (sk := sk) (sv := sv) (tK := tK) dC dI cI h0 rw pt ou t0 y_pf y_of y_sz y_bg x2  r_8 g_9) (cwV 1 hts (aw_V aw_551 aw_553 aw_p30 aw_2 aw_554) rfl rfl rfl (by decide +kernel) ⟨Nat.le_of_ble_eq_true rfl, Nat.le_of_ble_eq_true rfl⟩) ⟨wBlind, va_recv hK hP (ci := 1) (q0 := 0) rfl rfl, fun U hU hW => ⟨rfl, by rw [hU]; exact hP, va_K.moved hW.alike hK, hD, hT.at hS hU hW (fun _ z => z)⟩⟩ rfl rfl hl.1 rfl (lv_room (Nat.le_of_ble_eq_true rfl)) d_M_longer_40 ⟨Nat.le_refl _, Nat.le_refl _⟩) hS (fun _ _ h => h) (fun _ h => h) (fun v1 u t H1 locs ht1 hvm hw hB hz1 hk1 hS => ?_)
      obtain ⟨hw1, hw2⟩ := hw
      rw [hw1]
      rw [hw2] at hB
      rw [ht1] at hB
      have hP : va_P (dC, dI) cls2 (wM cI h0 rw pt ou r_8.2.1 mR r_8.2.2.1 r_8.2.2.2.1 r_8.2.2.2.2.1 r_8.2.2.2.2.2) H1 := hB
      have hD : va_D (aM h0 rw pt ou) (wM cI h0 rw pt ou r_8.2.1 mR r_8.2.2.1 r_8.2.2.2.1 r_8.2.2.2.2.1 r_8.2.2.2.2.2) := dD hD0 rfl
      refine lv_goto (tgt := 47) hx hb d_M_longer_43 (by decide) ?_
      exact W.iret (v := r_8.1) hx hb hr (fun t ht hW => ⟨⟨_, (r_8.2.1, r_8.2.2.1, r_8.2.2.2.1, r_8.2.2.2.2.1, r_8.2.2.2.2.2), rfl, ⟨congrArg (fun z => z.1) (Option.some.inj hf), congrArg (fun z => z.2) (Option.some.inj hf)⟩, by rw [← ht] at hP; exact hP⟩, hS.F ht⟩) hS.2.2 d_M_longer_47
  have J16 : ∀ (t0 : Int32) (y_th : Int32) (y_pf : (Nat → Int32)) (y_of : (Nat → Int32)) (y_sz : Int32) (y_bg : Int32) (H : Heap) (locs : List Loc) (ls : Array Slot), va_P (dC, dI) cls2 (wM cI h0 rw pt ou y_th mR y_pf y_of y_sz y_bg) H → va_S (aM h0 rw pt ou) s.heap H locs → lv_has ls 3 [(0, .ref (h0)), (1, .int (a0))] → f_M_longer_L16 w_th w_pf w_of w_sz w_bg a0  t0 y_th y_pf y_of y_sz y_bg = some r → wW p l e (headSpec (Cond.code y_M_longer b_M_longer 3 (Option.some FieldType.int) :: aw) ({ frames := 6, cells := 0, slots := 0, locals := 137 } : Room)).room s m ([.ref (h0), .int (a0)] : List Value).toArray below meth c (va_Qi (fun v u => v = r.1 ∧ u = r.2) (fun (u : Int32 × (Nat → Int32) × (Nat → Int32) × Int32 × Int32) t => va_P (dC, dI) cls2 (wM cI h0 rw pt ou u.1 mR u.2.1 u.2.2.1 u.2.2.2.1 u.2.2.2.2) t.heap) (aM h0 rw pt ou)) (aM h0 rw pt ou) H locs (F0 m 16 ls [.int (t0)]) := by
    intro t0 y_th y_pf y_of y_sz y_bg H locs ls hP hS hl hf
    rw [f_M_longer_L16] at hf
    have hD : va_D (aM h0 rw pt ou) (wM cI h0 rw pt ou y_th mR y_pf y_of y_sz y_bg) := dD hD0 rfl
    refine lv_istore_n (lv' := [(2, .int (t0)), (0, .ref (h0)), (1, .int (a0))]) hx hb d_M_longer_16 rfl hl (by decide) rfl (fun ls hl => ?_)
    refine lv_aload_n hx hb d_M_longer_17 rfl (lv_at hl 1 rfl) ?_
    refine lv_iload_n hx hb d_M_longer_18 rfl (lv_at hl 0 rfl) ?_
    refine lv_iconst (v := (-1)) hx hb d_M_longer_19 (by decide) ?_
    refine lv_icmp_ne (tgt := 27) hx hb d_M_longer_20 (by decide) (fun c_6 => ?_) (fun c_6 => ?_)
    · replace hf := (if_neg c_6).symm.trans hf
      refine lv_iconst (v := 0) hx hb d_M_longer_27 (by decide) ?_
      exact J28 t0 0 y_th y_pf y_of y_sz y_bg _ _ _ hP hS (lv_sub hl [1, 2, 0] rfl) hf
    · replace hf := (if_pos c_6).symm.trans hf
      refine lv_iconst (v := 1) hx hb d_M_longer_23 (by decide) ?_
      refine lv_goto (tgt := 28) hx hb d_M_longer_24 (by decide) ?_
      exact J28 t0 1 y_th y_pf y_of y_sz y_bg _ _ _ hP hS (lv_sub hl [1, 2, 0] rfl) hf
  rw [f_M_longer] at hf
  refine lv_iload_n hx hb d_M_longer_0 rfl (lv_at hl 1 rfl) ?_
  obtain ⟨r_1, g_2, hf⟩ := Option.bind_eq_some_iff.mp hf
  refine ju_calli (W.runS (As := [.int (a0)]) (rest := []) ⟨hx, hb, hml, hown, hts⟩ (c_M_isLong l (ad := ad) (sk := sk) (sv := sv) (tK := tK)  a0  r_1 g_2) (va_cwS 1 hts (aw_S aw_528 aw_529 aw_2 aw_530) rfl rfl rfl (by decide +kernel) ⟨Nat.le_of_ble_eq_true rfl, Nat.le_of_ble_eq_true rfl⟩) ⟨fun a U g mk q => ⟨q.1, q.2.call⟩, fun U hU hW => ⟨rfl, hT.at hS hU hW (fun _ z => z.elim)⟩⟩ rfl rfl hl.1 rfl (lv_room (Nat.le_of_ble_eq_true rfl)) d_M_longer_1 ⟨Nat.le_refl _, Nat.le_refl _⟩) ?_
  refine lv_if_eq (tgt := 11) hx hb d_M_longer_4 (by decide) (fun c_3 => ?_) (fun c_3 => ?_)
  · replace hf := (if_pos c_3).symm.trans hf
    refine lv_aload_n hx hb d_M_longer_11 rfl (lv_at hl 0 rfl) ?_
    refine lv_iload_n hx hb d_M_longer_12 rfl (lv_at hl 1 rfl) ?_
    obtain ⟨r_4, g_5, hf⟩ := Option.bind_eq_some_iff.mp hf
    refine va_calli (va_runV (As := [.int (a0)]) (rest := []) ⟨hx, hb, hml, hown, hts⟩ (c_M_find l (ad := ad) (sk := sk) (sv := sv) (tK := tK) dC dI cI h0 rw pt ou w_th w_pf w_of w_sz w_bg a0  r_4 g_5) (cwV 1 hts (aw_V aw_524 aw_526 aw_p28 aw_2 aw_527) rfl rfl rfl (by decide +kernel) ⟨Nat.le_of_ble_eq_true rfl, Nat.le_of_ble_eq_true rfl⟩) ⟨wBlind, va_recv hK hP (ci := 1) (q0 := 0) rfl rfl, fun U hU hW => ⟨rfl, by rw [hU]; exact hP, va_K.moved hW.alike hK, hD, hT.at hS hU hW (fun _ z => z)⟩⟩ rfl rfl hl.1 rfl (lv_room (Nat.le_of_ble_eq_true rfl)) d_M_longer_13 ⟨Nat.le_refl _, Nat.le_refl _⟩) hS (fun _ _ h => h) (fun _ h => h) (fun v1 u t H1 locs ht1 hvm hw hB hz1 hk1 hS => ?_)
    obtain ⟨hw1, hw2⟩ := hw
    rw [hw1]
    rw [hw2] at hB
    rw [ht1] at hB
    have hP : va_P (dC, dI) cls2 (wM cI h0 rw pt ou r_4.2.1 mR r_4.2.2.1 r_4.2.2.2.1 r_4.2.2.2.2.1 r_4.2.2.2.2.2) H1 := hB
    have hD : va_D (aM h0 rw pt ou) (wM cI h0 rw pt ou r_4.2.1 mR r_4.2.2.1 r_4.2.2.2.1 r_4.2.2.2.2.1 r_4.2.2.2.2.2) := dD hD0 rfl
    exact J16 r_4.1 r_4.2.1 r_4.2.2.1 r_4.2.2.2.1 r_4.2.2.2.2.1 r_4.2.2.2.2.2 _ _ _ hP hS (lv_sub hl [0, 1] rfl) hf
  · replace hf := (if_neg c_3).symm.trans hf
    refine lv_iconst (v := (-1)) hx hb d_M_longer_7 (by decide) ?_
    refine lv_goto (tgt := 16) hx hb d_M_longer_8 (by decide) ?_
    exact J16 ((-1)) w_th w_pf w_of w_sz w_bg _ _ _ hP hS (lv_sub hl [0, 1] rfl) hf

def f_M_shrink_L3 (w_th : Int32) (w_pf : Nat → Int32) (w_of : Nat → Int32) (w_sz : Int32) (w_bg : Int32) (a0 : Int32)  : Nat → Int32 → Int32 → (Nat → Int32) → (Nat → Int32) → Int32 → Int32 → Option (Int32 × Int32 × (Nat → Int32) × (Nat → Int32) × Int32 × Int32)
  | 0, _, _, _, _, _, _ => none
  | n + 1, x2, y_th, y_pf, y_of, y_sz, y_bg =>
    if 75 ≤ x2 then (some ((-1), y_th, y_pf, y_of, y_sz, y_bg)) else ((f_M_find y_th y_pf y_of y_sz y_bg a0).bind fun r_2 => (f_M_longKind x2).bind fun r_4 => if r_2.1 = r_4 then ((f_M_areGood r_2.2.1 r_2.2.2.1 r_2.2.2.2.1 r_2.2.2.2.2.1 r_2.2.2.2.2.2 x2).bind fun r_7 => if (bI r_7) = 0 then (f_M_shrink_L3 w_th w_pf w_of w_sz w_bg a0  n (x2 + 1) r_2.2.1 r_2.2.2.1 r_2.2.2.2.1 r_2.2.2.2.2.1 r_2.2.2.2.2.2) else ((f_M_put r_2.2.1 r_2.2.2.1 r_2.2.2.2.1 r_2.2.2.2.2.1 r_2.2.2.2.2.2 x2).bind fun r_10 => (f_M_find r_2.2.1 r_2.2.2.1 r_2.2.2.2.1 r_2.2.2.2.2.1 r_2.2.2.2.2.2 r_10).bind fun r_12 => if r_12.1 = x2 then ((f_M_stretch r_12.2.1 r_12.2.2.1 r_12.2.2.2.1 r_12.2.2.2.2.1 r_12.2.2.2.2.2 x2).bind fun r_15 => if r_15.1 = a0 then (some (r_10, r_15.2.1, r_15.2.2.1, r_15.2.2.2.1, r_15.2.2.2.2.1, r_15.2.2.2.2.2)) else (f_M_shrink_L3 w_th w_pf w_of w_sz w_bg a0  n (x2 + 1) r_15.2.1 r_15.2.2.1 r_15.2.2.2.1 r_15.2.2.2.2.1 r_15.2.2.2.2.2)) else (f_M_shrink_L3 w_th w_pf w_of w_sz w_bg a0  n (x2 + 1) r_12.2.1 r_12.2.2.1 r_12.2.2.2.1 r_12.2.2.2.2.1 r_12.2.2.2.2.2))) else (f_M_shrink_L3 w_th w_pf w_of w_sz w_bg a0  n (x2 + 1) r_2.2.1 r_2.2.2.1 r_2.2.2.2.1 r_2.2.2.2.2.1 r_2.2.2.2.2.2))
def f_M_shrink (w_th : Int32) (w_pf : Nat → Int32) (w_of : Nat → Int32) (w_sz : Int32) (w_bg : Int32) (a0 : Int32) : Option (Int32 × Int32 × (Nat → Int32) × (Nat → Int32) × Int32 × Int32) :=
  f_M_shrink_L3 w_th w_pf w_of w_sz w_bg a0  80 48 w_th w_pf w_of w_sz w_bg
set_option maxHeartbeats 1000000 in
set_option maxRecDepth 100000 in
theorem c_M_shrink (l : Launch) {ad sk sv : Nat → Nat} {tK : Nat} (dC : Nat → ClassId) (dI : Nat → Nat → Nat) (cI : ClassId) (h0 rw pt ou : Nat) (w_th : Int32) (w_pf : Nat → Int32) (w_of : Nat → Int32) (w_sz : Int32) (w_bg : Int32) (a0 : Int32)  (r : Int32 × Int32 × (Nat → Int32) × (Nat → Int32) × Int32 × Int32) (hf : f_M_shrink w_th w_pf w_of w_sz w_bg a0 = some r) : Met l y_M_shrink (Cond.code y_M_shrink b_M_shrink 5 (Option.some FieldType.int) :: aw) ({ frames := 6, cells := 0, slots := 0, locals := 137 } : Room) (va_Pc [.ref (h0), .int (a0)] (fun U => va_P (dC, dI) cls2 (wM cI h0 rw pt ou w_th mR w_pf w_of w_sz w_bg) U.heap ∧ va_K (dC, dI) cls2 [(cI, .int)] U ∧ va_D (aM h0 rw pt ou) (wM cI h0 rw pt ou w_th mR w_pf w_of w_sz w_bg) ∧ tb ad sk sv tK (aM h0 rw pt ou) U U.heap)) (va_Qi (fun v u => v = r.1 ∧ u = r.2) (fun (u : Int32 × (Nat → Int32) × (Nat → Int32) × Int32 × Int32) t => va_P (dC, dI) cls2 (wM cI h0 rw pt ou u.1 mR u.2.1 u.2.2.1 u.2.2.2.1 u.2.2.2.2) t.heap) (aM h0 rw pt ou)) 0 0 (aM h0 rw pt ou) := by
  refine Met.ofW (cc := b_M_shrink) (maxL := 5) (ret := (Option.some FieldType.int)) (by decide) rfl ?_
  intro p e s m args below meth c s₁ B hml hv
  obtain ⟨rfl, hP, hK, hD, hT⟩ := hv
  have hD0 := hD
  have hx := B.exec
  have hb := B.bytes
  have hr := B.returns
  have hts := atoms_spec (ws := (Cond.code y_M_shrink b_M_shrink 5 (Option.some FieldType.int) :: aw)) B.pre
  have ht : ∀ {w : Cond}, w ∈ aw → w.before ([.ref (h0), .int (a0)] : List Value).toArray s = true := fun h => hts _ (List.mem_cons_of_mem _ h)
  have hown : s.vm.findClass "CodeWordsModel" = some m.cls := findClass_of_methodNamed B.named
  have hlocks := B.notSynchronized
  have hS : va_S (aM h0 rw pt ou) s.heap s.heap [] := va_S.rf
  have hl := lv_entry ([.ref (h0), .int (a0)]) (n := 5) (Nat.le_of_ble_eq_true rfl)
  rw [lg_entry_eq]
  generalize (lg_sl ([.ref (h0), .int (a0)]) ++ List.replicate (5 - (lg_sl ([.ref (h0), .int (a0)])).length) Slot.unset).toArray = ls at hl ⊢
  have hl : lv_has ls 5 [(0, .ref (h0)), (1, .int (a0))] := hl
  have J3 : ∀ (n : Nat) (x2 : Int32) (y_th : Int32) (y_pf : (Nat → Int32)) (y_of : (Nat → Int32)) (y_sz : Int32) (y_bg : Int32) (H : Heap) (locs : List Loc) (ls : Array Slot), va_P (dC, dI) cls2 (wM cI h0 rw pt ou y_th mR y_pf y_of y_sz y_bg) H → va_S (aM h0 rw pt ou) s.heap H locs → lv_has ls 5 [(0, .ref (h0)), (1, .int (a0)), (2, .int (x2))] → f_M_shrink_L3 w_th w_pf w_of w_sz w_bg a0  n x2 y_th y_pf y_of y_sz y_bg = some r → wW p l e (headSpec (Cond.code y_M_shrink b_M_shrink 5 (Option.some FieldType.int) :: aw) ({ frames := 6, cells := 0, slots := 0, locals := 137 } : Room)).room s m ([.ref (h0), .int (a0)] : List Value).toArray below meth c (va_Qi (fun v u => v = r.1 ∧ u = r.2) (fun (u : Int32 × (Nat → Int32) × (Nat → Int32) × Int32 × Int32) t => va_P (dC, dI) cls2 (wM cI h0 rw pt ou u.1 mR u.2.1 u.2.2.1 u.2.2.2.1 u.2.2.2.2) t.heap) (aM h0 rw pt ou)) (aM h0 rw pt ou) H locs (F0 m 3 ls []) := by
    intro n
    induction n with
    | zero =>
      intro x2 y_th y_pf y_of y_sz y_bg H locs ls hP hS hl hf
      rw [f_M_shrink_L3] at hf
      cases hf
    | succ n ih =>
      intro x2 y_th y_pf y_of y_sz y_bg H locs ls hP hS hl hf
      rw [f_M_shrink_L3] at hf
      have hD : va_D (aM h0 rw pt ou) (wM cI h0 rw pt ou y_th mR y_pf y_of y_sz y_bg) := dD hD0 rfl
      refine lv_iload_n hx hb d_M_shrink_3 rfl (lv_at hl 2 rfl) ?_
      refine lv_bipush (v := 75) hx hb d_M_shrink_4 (by decide) ?_
      refine lv_icmp_ge (tgt := 69) hx hb d_M_shrink_6 (by decide) (fun c_1 => ?_) (fun c_1 => ?_)
      · replace hf := (if_pos c_1).symm.trans hf
        refine lv_iconst (v := (-1)) hx hb d_M_shrink_69 (by decide) ?_
        exact W.iret (v := (-1)) hx hb hr (fun t ht hW => ⟨⟨_, (y_th, y_pf, y_of, y_sz, y_bg), rfl, ⟨congrArg (fun z => z.1) (Option.some.inj hf), congrArg (fun z => z.2) (Option.some.inj hf)⟩, by rw [← ht] at hP; exact hP⟩, hS.F ht⟩) hS.2.2 d_M_shrink_70
      · replace hf := (if_neg c_1).symm.trans hf
        refine lv_aload_n hx hb d_M_shrink_9 rfl (lv_at hl 0 rfl) ?_
        refine lv_iload_n hx hb d_M_shrink_10 rfl (lv_at hl 1 rfl) ?_
        obtain ⟨r_2, g_3, hf⟩ := Option.bind_eq_some_iff.mp hf
        refine va_calli (va_runV (As := [.int (a0)]) (rest := []) ⟨hx, hb, hml, hown, hts⟩ (c_M_find l (ad := ad) (sk := sk) (sv := sv) (tK := tK) dC dI cI h0 rw pt ou y_th y_pf y_of y_sz y_bg a0  r_2 g_3) (cwV 1 hts (aw_V aw_524 aw_526 aw_p28 aw_2 aw_527) rfl rfl rfl (by decide +kernel) ⟨Nat.le_of_ble_eq_true rfl, Nat.le_of_ble_eq_true rfl⟩) ⟨wBlind, va_recv hK hP (ci := 1) (q0 := 0) rfl rfl, fun U hU hW => ⟨rfl, by rw [hU]; exact hP, va_K.moved hW.alike hK, hD, hT.at hS hU hW (fun _ z => z)⟩⟩ rfl rfl hl.1 rfl (lv_room (Nat.le_of_ble_eq_true rfl)) d_M_shrink_11 ⟨Nat.le_refl _, Nat.le_refl _⟩) hS (fun _ _ h => h) (fun _ h => h) (fun v1 u t H1 locs ht1 hvm hw hB hz1 hk1 hS => ?_)
        obtain ⟨hw1, hw2⟩ := hw
        rw [hw1]
        rw [hw2] at hB
        rw [ht1] at hB
        have hP : va_P (dC, dI) cls2 (wM cI h0 rw pt ou r_2.2.1 mR r_2.2.2.1 r_2.2.2.2.1 r_2.2.2.2.2.1 r_2.2.2.2.2.2) H1 := hB
        have hD : va_D (aM h0 rw pt ou) (wM cI h0 rw pt ou r_2.2.1 mR r_2.2.2.1 r_2.2.2.2.1 r_2.2.2.2.2.1 r_2.2.2.2.2.2) := dD hD0 rfl
        refine lv_istore_n (lv' := [(3, .int (r_2.1)), (0, .ref (h0)), (1, .int (a0)), (2, .int (x2))]) hx hb d_M_shrink_14 rfl hl (by decide) rfl (fun ls hl => ?_)
        refine lv_iload_n hx hb d_M_shrink_15 rfl (lv_at hl 0 rfl) ?_
        refine lv_iload_n hx hb d_M_shrink_16 rfl (lv_at hl 3 rfl) ?_
        obtain ⟨r_4, g_5, hf⟩ := Option.bind_eq_some_iff.mp hf
        refine ju_calli (W.runS (As := [.int (x2)]) (rest := [.int (r_2.1)]) ⟨hx, hb, hml, hown, hts⟩ (c_M_longKind l (ad := ad) (sk := sk) (sv := sv) (tK := tK)  x2  r_4 g_5) (va_cwS 1 hts (aw_S aw_555 aw_556 aw_2 aw_557) rfl rfl rfl (by decide +kernel) ⟨Nat.le_of_ble_eq_true rfl, Nat.le_of_ble_eq_true rfl⟩) ⟨fun a U g mk q => ⟨q.1, q.2.call⟩, fun U hU hW => ⟨rfl, hT.at hS hU hW (fun _ z => z.elim)⟩⟩ rfl rfl hl.1 rfl (lv_room (Nat.le_of_ble_eq_true rfl)) d_M_shrink_17 ⟨Nat.le_refl _, Nat.le_refl _⟩) ?_
        refine lv_icmp_ne (tgt := 63) hx hb d_M_shrink_20 (by decide) (fun c_6 => ?_) (fun c_6 => ?_)
        · replace hf := (if_neg c_6).symm.trans hf
          refine lv_iinc (v := x2 + 1) (lv' := [(2, .int (x2 + 1)), (3, .int (r_2.1)), (0, .ref (h0)), (1, .int (a0))]) hx hb d_M_shrink_63 hl (k := 3) rfl rfl (by decide) rfl (fun ls hl => ?_)
          refine lv_goto (tgt := 3) hx hb d_M_shrink_66 (by decide) ?_
          exact ih (x2 + 1) r_2.2.1 r_2.2.2.1 r_2.2.2.2.1 r_2.2.2.2.2.1 r_2.2.2.2.2.2 _ _ _ hP hS (lv_sub hl [2, 3, 0] rfl) hf
        · replace hf := (if_pos c_6).symm.trans hf
          refine lv_aload_n hx hb d_M_shrink_23 rfl (lv_at hl 1 rfl) ?_
          refine lv_iload_n hx hb d_M_shrink_24 rfl (lv_at hl 3 rfl) ?_
          obtain ⟨r_7, g_8, hf⟩ := Option.bind_eq_some_iff.mp hf
          refine ju_calli (W.runV (As := [.int (x2)]) (rest := []) ⟨hx, hb, hml, hown, hts⟩ (c_M_areGood l (ad := ad) (sk := sk) (sv := sv) (tK := tK) dC dI cI h0 rw pt ou r_2.2.1 r_2.2.2.1 r_2.2.2.2.1 r_2.2.2.2.2.1 r_2.2.2.2.2.2 x2  r_7 g_8) (cwV 1 hts (aw_V aw_470 aw_472 aw_p23 aw_2 aw_473) rfl rfl rfl (by decide +kernel) ⟨Nat.le_of_ble_eq_true rfl, Nat.le_of_ble_eq_true rfl⟩) ⟨wBlind, va_recv hK hP (ci := 1) (q0 := 0) rfl rfl, fun U hU hW => ⟨rfl, by rw [hU]; exact hP, va_K.moved hW.alike hK, hD, hT.at hS hU hW (fun _ z => z)⟩⟩ rfl rfl hl.1 rfl (lv_room (Nat.le_of_ble_eq_true rfl)) d_M_shrink_25 ⟨Nat.le_refl _, Nat.le_refl _⟩) ?_
          refine lv_if_ne (tgt := 34) hx hb d_M_shrink_28 (by decide) (fun c_9 => ?_) (fun c_9 => ?_)
          · replace hf := (if_neg c_9).symm.trans hf
            refine lv_aload_n hx hb d_M_shrink_34 rfl (lv_at hl 1 rfl) ?_
            refine lv_iload_n hx hb d_M_shrink_35 rfl (lv_at hl 3 rfl) ?_
            obtain ⟨r_10, g_11, hf⟩ := Option.bind_eq_some_iff.mp hf
            refine ju_calli (W.runV (As := [.int (x2)]) (rest := []) ⟨hx, hb, hml, hown, hts⟩ (c_M_put l (ad := ad) (sk := sk) (sv := sv) (tK := tK) dC dI cI h0 rw pt ou r_2.2.1 r_2.2.2.1 r_2.2.2.2.1 r_2.2.2.2.2.1 r_2.2.2.2.2.2 x2  r_10 g_11) (cwV 1 hts (aw_V aw_516 aw_518 aw_p27 aw_2 aw_519) rfl rfl rfl (by decide +kernel) ⟨Nat.le_of_ble_eq_true rfl, Nat.le_of_ble_eq_true rfl⟩) ⟨wBlind, va_recv hK hP (ci := 1) (q0 := 0) rfl rfl, fun U hU hW => ⟨rfl, by rw [hU]; exact hP, va_K.moved hW.alike hK, hD, hT.at hS hU hW (fun _ z => z)⟩⟩ rfl rfl hl.1 rfl (lv_room (Nat.le_of_ble_eq_true rfl)) d_M_shrink_36 ⟨Nat.le_refl _, Nat.le_refl _⟩) ?_
            refine lv_istore (lv' := [(4, .int (r_10)), (3, .int (r_2.1)), (0, .ref (h0)), (1, .int (a0)), (2, .int (x2))]) hx hb d_M_shrink_39 hl (by decide) rfl (fun ls hl => ?_)
            refine lv_aload_n hx hb d_M_shrink_41 rfl (lv_at hl 2 rfl) ?_
            refine lv_iload hx hb d_M_shrink_42 (lv_at hl 0 rfl) ?_
            obtain ⟨r_12, g_13, hf⟩ := Option.bind_eq_some_iff.mp hf
            refine va_calli (va_runV (As := [.int (r_10)]) (rest := []) ⟨hx, hb, hml, hown, hts⟩ (c_M_find l (ad := ad) (sk := sk) (sv := sv) (tK := tK) dC dI cI h0 rw pt ou r_2.2.1 r_2.2.2.1 r_2.2.2.2.1 r_2.2.2.2.2.1 r_2.2.2.2.2.2 r_10  r_12 g_13) (cwV 1 hts (aw_V aw_524 aw_526 aw_p28 aw_2 aw_527) rfl rfl rfl (by decide +kernel) ⟨Nat.le_of_ble_eq_true rfl, Nat.le_of_ble_eq_true rfl⟩) ⟨wBlind, va_recv hK hP (ci := 1) (q0 := 0) rfl rfl, fun U hU hW => ⟨rfl, by rw [hU]; exact hP, va_K.moved hW.alike hK, hD, hT.at hS hU hW (fun _ z => z)⟩⟩ rfl rfl hl.1 rfl (lv_room (Nat.le_of_ble_eq_true rfl)) d_M_shrink_44 ⟨Nat.le_refl _, Nat.le_refl _⟩) hS (fun _ _ h => h) (fun _ h => h) (fun v1 u t H1 locs ht1 hvm hw hB hz1 hk1 hS => ?_)
            obtain ⟨hw1, hw2⟩ := hw
            rw [hw1]
            rw [hw2] at hB
            rw [ht1] at hB
            have hP : va_P (dC, dI) cls2 (wM cI h0 rw pt ou r_12.2.1 mR r_12.2.2.1 r_12.2.2.2.1 r_12.2.2.2.2.1 r_12.2.2.2.2.2) H1 := hB
            have hD : va_D (aM h0 rw pt ou) (wM cI h0 rw pt ou r_12.2.1 mR r_12.2.2.1 r_12.2.2.2.1 r_12.2.2.2.2.1 r_12.2.2.2.2.2) := dD hD0 rfl
            refine lv_iload_n hx hb d_M_shrink_47 rfl (lv_at hl 4 rfl) ?_
            refine lv_icmp_ne (tgt := 63) hx hb d_M_shrink_48 (by decide) (fun c_14 => ?_) (fun c_14 => ?_)
            · replace hf := (if_neg c_14).symm.trans hf
              refine lv_iinc (v := x2 + 1) (lv' := [(2, .int (x2 + 1)), (4, .int (r_10)), (3, .int (r_2.1)), (0, .ref (h0)), (1, .int (a0))]) hx hb d_M_shrink_63 hl (k := 4) rfl rfl (by decide) rfl (fun ls hl => ?_)
              refine lv_goto (tgt := 3) hx hb d_M_shrink_66 (by decide) ?_
              exact ih (x2 + 1) r_12.2.1 r_12.2.2.1 r_12.2.2.2.1 r_12.2.2.2.2.1 r_12.2.2.2.2.2 _ _ _ hP hS (lv_sub hl [3, 4, 0] rfl) hf
            · replace hf := (if_pos c_14).symm.trans hf
              refine lv_aload_n hx hb d_M_shrink_51 rfl (lv_at hl 2 rfl) ?_
              refine lv_iload_n hx hb d_M_shrink_52 rfl (lv_at hl 4 rfl) ?_
              obtain ⟨r_15, g_16, hf⟩ := Option.bind_eq_some_iff.mp hf
              refine va_calli (va_runV (As := [.int (x2)]) (rest := []) ⟨hx, hb, hml, hown, hts⟩ (c_M_stretch l (ad := ad) (sk := sk) (sv := sv) (tK := tK) dC dI cI h0 rw pt ou r_12.2.1 r_12.2.2.1 r_12.2.2.2.1 r_12.2.2.2.2.1 r_12.2.2.2.2.2 x2  r_15 g_16) (cwV 1 hts (aw_V aw_551 aw_553 aw_p30 aw_2 aw_554) rfl rfl rfl (by decide +kernel) ⟨Nat.le_of_ble_eq_true rfl, Nat.le_of_ble_eq_true rfl⟩) ⟨wBlind, va_recv hK hP (ci := 1) (q0 := 0) rfl rfl, fun U hU hW => ⟨rfl, by rw [hU]; exact hP, va_K.moved hW.alike hK, hD, hT.at hS hU hW (fun _ z => z)⟩⟩ rfl rfl hl.1 rfl (lv_room (Nat.le_of_ble_eq_true rfl)) d_M_shrink_53 ⟨Nat.le_refl _, Nat.le_refl _⟩) hS (fun _ _ h => h) (fun _ h => h) (fun v1 u t H1 locs ht1 hvm hw hB hz1 hk1 hS => ?_)
              obtain ⟨hw1, hw2⟩ := hw
              rw [hw1]
              rw [hw2] at hB
              rw [ht1] at hB
              have hP : va_P (dC, dI) cls2 (wM cI h0 rw pt ou r_15.2.1 mR r_15.2.2.1 r_15.2.2.2.1 r_15.2.2.2.2.1 r_15.2.2.2.2.2) H1 := hB
              have hD : va_D (aM h0 rw pt ou) (wM cI h0 rw pt ou r_15.2.1 mR r_15.2.2.1 r_15.2.2.2.1 r_15.2.2.2.2.1 r_15.2.2.2.2.2) := dD hD0 rfl
              refine lv_iload_n hx hb d_M_shrink_56 rfl (lv_at hl 3 rfl) ?_
              refine lv_icmp_ne (tgt := 63) hx hb d_M_shrink_57 (by decide) (fun c_17 => ?_) (fun c_17 => ?_)
              · replace hf := (if_neg c_17).symm.trans hf
                refine lv_iinc (v := x2 + 1) (lv' := [(2, .int (x2 + 1)), (4, .int (r_10)), (3, .int (r_2.1)), (0, .ref (h0)), (1, .int (a0))]) hx hb d_M_shrink_63 hl (k := 4) rfl rfl (by decide) rfl (fun ls hl => ?_)
                refine lv_goto (tgt := 3) hx hb d_M_shrink_66 (by decide) ?_
                exact ih (x2 + 1) r_15.2.1 r_15.2.2.1 r_15.2.2.2.1 r_15.2.2.2.2.1 r_15.2.2.2.2.2 _ _ _ hP hS (lv_sub hl [3, 4, 0] rfl) hf
              · replace hf := (if_pos c_17).symm.trans hf
                refine lv_iload hx hb d_M_shrink_60 (lv_at hl 0 rfl) ?_
                exact W.iret (v := r_10) hx hb hr (fun t ht hW => ⟨⟨_, (r_15.2.1, r_15.2.2.1, r_15.2.2.2.1, r_15.2.2.2.2.1, r_15.2.2.2.2.2), rfl, ⟨congrArg (fun z => z.1) (Option.some.inj hf), congrArg (fun z => z.2) (Option.some.inj hf)⟩, by rw [← ht] at hP; exact hP⟩, hS.F ht⟩) hS.2.2 d_M_shrink_62
          · replace hf := (if_pos c_9).symm.trans hf
            refine lv_goto (tgt := 63) hx hb d_M_shrink_31 (by decide) ?_
            refine lv_iinc (v := x2 + 1) (lv' := [(2, .int (x2 + 1)), (3, .int (r_2.1)), (0, .ref (h0)), (1, .int (a0))]) hx hb d_M_shrink_63 hl (k := 3) rfl rfl (by decide) rfl (fun ls hl => ?_)
            refine lv_goto (tgt := 3) hx hb d_M_shrink_66 (by decide) ?_
            exact ih (x2 + 1) r_2.2.1 r_2.2.2.1 r_2.2.2.2.1 r_2.2.2.2.2.1 r_2.2.2.2.2.2 _ _ _ hP hS (lv_sub hl [2, 3, 0] rfl) hf
  rw [f_M_shrink] at hf
  refine lv_bipush (v := 48) hx hb d_M_shrink_0 (by decide) ?_
  refine lv_istore_n (lv' := [(2, .int (48)), (0, .ref (h0)), (1, .int (a0))]) hx hb d_M_shrink_2 rfl hl (by decide) rfl (fun ls hl => ?_)
  exact J3 80 48 w_th w_pf w_of w_sz w_bg _ _ _ hP hS (lv_sub hl [1, 2, 0] rfl) hf

def f_M_shorter_L110 (w_th : Int32) (w_pf : Nat → Int32) (w_of : Nat → Int32) (w_sz : Int32) (w_bg : Int32) (a0 : Int32)  (x2 : Int32) (x3 : Int32) (x4 : Int32) (y_th : Int32) (y_pf : (Nat → Int32)) (y_of : (Nat → Int32)) (y_sz : Int32) (y_bg : Int32) : Option (Int32 × Int32 × (Nat → Int32) × (Nat → Int32) × Int32 × Int32) :=
  if x3 = 18 then (if (3 : Int32) < 0 ∨ 4 ≤ (3 : Int32).toNatClampNeg then none else if (y_pf (3 : Int32).toNatClampNeg) = 0 then (if (0 : Int32) < 0 ∨ 4 ≤ (0 : Int32).toNatClampNeg then none else if (y_pf (0 : Int32).toNatClampNeg) = 0 then (some ((-1), y_th, y_pf, y_of, y_sz, y_bg)) else (if x4 = 0 then (some ((-1), y_th, y_pf, y_of, y_sz, y_bg)) else (if (1 : Int32) < 0 ∨ 4 ≤ (1 : Int32).toNatClampNeg then none else if (2 : Int32) < 0 ∨ 4 ≤ (2 : Int32).toNatClampNeg then none else (f_M_put y_th (upd (upd y_pf (1 : Int32).toNatClampNeg 0) (2 : Int32).toNatClampNeg x4) y_of y_sz y_bg 27).bind fun r_22 => (f_M_shrink y_th (upd (upd y_pf (1 : Int32).toNatClampNeg 0) (2 : Int32).toNatClampNeg x4) y_of y_sz y_bg r_22).bind fun r_24 => some (r_24.1, r_24.2.1, r_24.2.2.1, r_24.2.2.2.1, r_24.2.2.2.2.1, r_24.2.2.2.2.2)))) else (some ((-1), y_th, y_pf, y_of, y_sz, y_bg))) else (some ((-1), y_th, y_pf, y_of, y_sz, y_bg))
def f_M_shorter_L65 (w_th : Int32) (w_pf : Nat → Int32) (w_of : Nat → Int32) (w_sz : Int32) (w_bg : Int32) (a0 : Int32)  (x2 : Int32) (x3 : Int32) (x4 : Int32) (y_th : Int32) (y_pf : (Nat → Int32)) (y_of : (Nat → Int32)) (y_sz : Int32) (y_bg : Int32) : Option (Int32 × Int32 × (Nat → Int32) × (Nat → Int32) × Int32 × Int32) :=
  if (0 : Int32) < 0 ∨ 4 ≤ (0 : Int32).toNatClampNeg then none else if (2 : Int32) < 0 ∨ 4 ≤ (2 : Int32).toNatClampNeg then none else if (y_pf (0 : Int32).toNatClampNeg) = (y_pf (2 : Int32).toNatClampNeg) then (if (2 : Int32) < 0 ∨ 4 ≤ (2 : Int32).toNatClampNeg then none else if (1 : Int32) < 0 ∨ 4 ≤ (1 : Int32).toNatClampNeg then none else if (2 : Int32) < 0 ∨ 4 ≤ (2 : Int32).toNatClampNeg then none else (f_M_put y_th (upd (upd y_pf (1 : Int32).toNatClampNeg (y_pf (2 : Int32).toNatClampNeg)) (2 : Int32).toNatClampNeg x4) y_of y_sz y_bg x3).bind fun r_29 => (f_M_shrink y_th (upd (upd y_pf (1 : Int32).toNatClampNeg (y_pf (2 : Int32).toNatClampNeg)) (2 : Int32).toNatClampNeg x4) y_of y_sz y_bg r_29).bind fun r_31 => some (r_31.1, r_31.2.1, r_31.2.2.1, r_31.2.2.2.1, r_31.2.2.2.2.1, r_31.2.2.2.2.2)) else (f_M_shorter_L110 w_th w_pf w_of w_sz w_bg a0  x2 x3 x4 y_th y_pf y_of y_sz y_bg)
def f_M_shorter (w_th : Int32) (w_pf : Nat → Int32) (w_of : Nat → Int32) (w_sz : Int32) (w_bg : Int32) (a0 : Int32) : Option (Int32 × Int32 × (Nat → Int32) × (Nat → Int32) × Int32 × Int32) :=
  (f_M_isLong a0).bind fun r_1 => if (bI r_1) = 0 then (some ((-1), 0, w_pf, w_of, w_sz, w_bg)) else ((f_M_shrink 0 w_pf w_of w_sz w_bg a0).bind fun r_4 => if r_4.1 = ((-1)) then ((f_M_find r_4.2.1 r_4.2.2.1 r_4.2.2.2.1 r_4.2.2.2.2.1 r_4.2.2.2.2.2 a0).bind fun r_7 => if (1 : Int32) < 0 ∨ 4 ≤ (1 : Int32).toNatClampNeg then none else if r_7.1 = 27 then (f_M_shorter_L65 w_th w_pf w_of w_sz w_bg a0  r_4.1 r_7.1 (r_7.2.2.1 (1 : Int32).toNatClampNeg) r_7.2.1 r_7.2.2.1 r_7.2.2.2.1 r_7.2.2.2.2.1 r_7.2.2.2.2.2) else (if r_7.1 = 32 then (f_M_shorter_L65 w_th w_pf w_of w_sz w_bg a0  r_4.1 r_7.1 (r_7.2.2.1 (1 : Int32).toNatClampNeg) r_7.2.1 r_7.2.2.1 r_7.2.2.2.1 r_7.2.2.2.2.1 r_7.2.2.2.2.2) else (if r_7.1 = 35 then (f_M_shorter_L65 w_th w_pf w_of w_sz w_bg a0  r_4.1 r_7.1 (r_7.2.2.1 (1 : Int32).toNatClampNeg) r_7.2.1 r_7.2.2.1 r_7.2.2.2.1 r_7.2.2.2.2.1 r_7.2.2.2.2.2) else (if r_7.1 = 36 then (f_M_shorter_L65 w_th w_pf w_of w_sz w_bg a0  r_4.1 r_7.1 (r_7.2.2.1 (1 : Int32).toNatClampNeg) r_7.2.1 r_7.2.2.1 r_7.2.2.2.1 r_7.2.2.2.2.1 r_7.2.2.2.2.2) else (f_M_shorter_L110 w_th w_pf w_of w_sz w_bg a0  r_4.1 r_7.1 (r_7.2.2.1 (1 : Int32).toNatClampNeg) r_7.2.1 r_7.2.2.1 r_7.2.2.2.1 r_7.2.2.2.2.1 r_7.2.2.2.2.2))))) else (some (r_4.1, r_4.2.1, r_4.2.2.1, r_4.2.2.2.1, r_4.2.2.2.2.1, r_4.2.2.2.2.2)))
set_option maxHeartbeats 1000000 in
set_option maxRecDepth 100000 in
theorem c_M_shorter (l : Launch) {ad sk sv : Nat → Nat} {tK : Nat} (dC : Nat → ClassId) (dI : Nat → Nat → Nat) (cI : ClassId) (h0 rw pt ou : Nat) (w_th : Int32) (w_pf : Nat → Int32) (w_of : Nat → Int32) (w_sz : Int32) (w_bg : Int32) (a0 : Int32)  (r : Int32 × Int32 × (Nat → Int32) × (Nat → Int32) × Int32 × Int32) (hf : f_M_shorter w_th w_pf w_of w_sz w_bg a0 = some r) : Met l y_M_shorter (Cond.code y_M_shorter b_M_shorter 5 (Option.some FieldType.int) :: aw) ({ frames := 7, cells := 0, slots := 0, locals := 161 } : Room) (va_Pc [.ref (h0), .int (a0)] (fun U => va_P (dC, dI) cls2 (wM cI h0 rw pt ou w_th mR w_pf w_of w_sz w_bg) U.heap ∧ va_K (dC, dI) cls2 [(cI, .int)] U ∧ va_D (aM h0 rw pt ou) (wM cI h0 rw pt ou w_th mR w_pf w_of w_sz w_bg) ∧ tb ad sk sv tK (aM h0 rw pt ou) U U.heap)) (va_Qi (fun v u => v = r.1 ∧ u = r.2) (fun (u : Int32 × (Nat → Int32) × (Nat → Int32) × Int32 × Int32) t => va_P (dC, dI) cls2 (wM cI h0 rw pt ou u.1 mR u.2.1 u.2.2.1 u.2.2.2.1 u.2.2.2.2) t.heap) (aM h0 rw pt ou)) 0 0 (aM h0 rw pt ou) := by
  refine Met.ofW (cc := b_M_shorter) (maxL := 5) (ret := (Option.some FieldType.int)) (by decide) rfl ?_
  intro p e s m args below meth c s₁ B hml hv
  obtain ⟨rfl, hP, hK, hD, hT⟩ := hv
  have hD0 := hD
  have hx := B.exec
  have hb := B.bytes
  have hr := B.returns
  have hts := atoms_spec (ws := (Cond.code y_M_shorter b_M_shorter 5 (Option.some FieldType.int) :: aw)) B.pre
  have ht : ∀ {w : Cond}, w ∈ aw → w.before ([.ref (h0), .int (a0)] : List Value).toArray s = true := fun h => hts _ (List.mem_cons_of_mem _ h)
  have hown : s.vm.findClass "CodeWordsModel" = some m.cls := findClass_of_methodNamed B.named
  have hlocks := B.notSynchronized
  have hS : va_S (aM h0 rw pt ou) s.heap s.heap [] := va_S.rf
  have hl := lv_entry ([.ref (h0), .int (a0)]) (n := 5) (Nat.le_of_ble_eq_true rfl)
  rw [lg_entry_eq]
  generalize (lg_sl ([.ref (h0), .int (a0)]) ++ List.replicate (5 - (lg_sl ([.ref (h0), .int (a0)])).length) Slot.unset).toArray = ls at hl ⊢
  have hl : lv_has ls 5 [(0, .ref (h0)), (1, .int (a0))] := hl
  have J110 : ∀ (x2 : Int32) (x3 : Int32) (x4 : Int32) (y_th : Int32) (y_pf : (Nat → Int32)) (y_of : (Nat → Int32)) (y_sz : Int32) (y_bg : Int32) (H : Heap) (locs : List Loc) (ls : Array Slot), va_P (dC, dI) cls2 (wM cI h0 rw pt ou y_th mR y_pf y_of y_sz y_bg) H → va_S (aM h0 rw pt ou) s.heap H locs → lv_has ls 5 [(0, .ref (h0)), (1, .int (a0)), (2, .int (x2)), (3, .int (x3)), (4, .int (x4))] → f_M_shorter_L110 w_th w_pf w_of w_sz w_bg a0  x2 x3 x4 y_th y_pf y_of y_sz y_bg = some r → wW p l e (headSpec (Cond.code y_M_shorter b_M_shorter 5 (Option.some FieldType.int) :: aw) ({ frames := 7, cells := 0, slots := 0, locals := 161 } : Room)).room s m ([.ref (h0), .int (a0)] : List Value).toArray below meth c (va_Qi (fun v u => v = r.1 ∧ u = r.2) (fun (u : Int32 × (Nat → Int32) × (Nat → Int32) × Int32 × Int32) t => va_P (dC, dI) cls2 (wM cI h0 rw pt ou u.1 mR u.2.1 u.2.2.1 u.2.2.2.1 u.2.2.2.2) t.heap) (aM h0 rw pt ou)) (aM h0 rw pt ou) H locs (F0 m 110 ls []) := by
    intro x2 x3 x4 y_th y_pf y_of y_sz y_bg H locs ls hP hS hl hf
    rw [f_M_shorter_L110] at hf
    have hD : va_D (aM h0 rw pt ou) (wM cI h0 rw pt ou y_th mR y_pf y_of y_sz y_bg) := dD hD0 rfl
    refine lv_iload_n hx hb d_M_shorter_110 rfl (lv_at hl 3 rfl) ?_
    refine lv_bipush (v := 18) hx hb d_M_shorter_111 (by decide) ?_
    refine lv_icmp_ne (tgt := 139) hx hb d_M_shorter_113 (by decide) (fun c_14 => ?_) (fun c_14 => ?_)
    · replace hf := (if_neg c_14).symm.trans hf
      refine lv_iconst (v := (-1)) hx hb d_M_shorter_139 (by decide) ?_
      exact W.iret (v := (-1)) hx hb hr (fun t ht hW => ⟨⟨_, (y_th, y_pf, y_of, y_sz, y_bg), rfl, ⟨congrArg (fun z => z.1) (Option.some.inj hf), congrArg (fun z => z.2) (Option.some.inj hf)⟩, by rw [← ht] at hP; exact hP⟩, hS.F ht⟩) hS.2.2 d_M_shorter_140
    · replace hf := (if_pos c_14).symm.trans hf
      refine lv_aload_n hx hb d_M_shorter_116 rfl (lv_at hl 0 rfl) ?_
      refine va_get (D := (dC, dI)) (ci := 1) (v := .ref (pt)) (C := "CodeWordsModel") (T := F_M) (N := 6) hx hb hts (in_M _) hown hK hP 0 rfl rfl 2 (by decide) (ht aw_441) (fun _ h9 => h9) rfl d_M_shorter_117 ?_
      refine lv_iconst (v := 3) hx hb d_M_shorter_120 (by decide) ?_
      obtain ⟨z_15, hf⟩ := ju_gd hf
      refine va_iald hx hb hK hP 2 0 rfl rfl z_15 d_M_shorter_121 ?_
      refine lv_if_ne (tgt := 139) hx hb d_M_shorter_122 (by decide) (fun c_16 => ?_) (fun c_16 => ?_)
      · replace hf := (if_neg c_16).symm.trans hf
        refine lv_iconst (v := (-1)) hx hb d_M_shorter_139 (by decide) ?_
        exact W.iret (v := (-1)) hx hb hr (fun t ht hW => ⟨⟨_, (y_th, y_pf, y_of, y_sz, y_bg), rfl, ⟨congrArg (fun z => z.1) (Option.some.inj hf), congrArg (fun z => z.2) (Option.some.inj hf)⟩, by rw [← ht] at hP; exact hP⟩, hS.F ht⟩) hS.2.2 d_M_shorter_140
      · replace hf := (if_pos c_16).symm.trans hf
        refine lv_aload_n hx hb d_M_shorter_125 rfl (lv_at hl 0 rfl) ?_
        refine va_get (D := (dC, dI)) (ci := 1) (v := .ref (pt)) (C := "CodeWordsModel") (T := F_M) (N := 6) hx hb hts (in_M _) hown hK hP 0 rfl rfl 2 (by decide) (ht aw_441) (fun _ h9 => h9) rfl d_M_shorter_126 ?_
        refine lv_iconst (v := 0) hx hb d_M_shorter_129 (by decide) ?_
        obtain ⟨z_17, hf⟩ := ju_gd hf
        refine va_iald hx hb hK hP 2 0 rfl rfl z_17 d_M_shorter_130 ?_
        refine lv_if_eq (tgt := 139) hx hb d_M_shorter_131 (by decide) (fun c_18 => ?_) (fun c_18 => ?_)
        · replace hf := (if_pos c_18).symm.trans hf
          refine lv_iconst (v := (-1)) hx hb d_M_shorter_139 (by decide) ?_
          exact W.iret (v := (-1)) hx hb hr (fun t ht hW => ⟨⟨_, (y_th, y_pf, y_of, y_sz, y_bg), rfl, ⟨congrArg (fun z => z.1) (Option.some.inj hf), congrArg (fun z => z.2) (Option.some.inj hf)⟩, by rw [← ht] at hP; exact hP⟩, hS.F ht⟩) hS.2.2 d_M_shorter_140
        · replace hf := (if_neg c_18).symm.trans hf
          refine lv_iload hx hb d_M_shorter_134 (lv_at hl 4 rfl) ?_
          refine lv_if_ne (tgt := 141) hx hb d_M_shorter_136 (by decide) (fun c_19 => ?_) (fun c_19 => ?_)
          · replace hf := (if_neg c_19).symm.trans hf
            refine lv_aload_n hx hb d_M_shorter_141 rfl (lv_at hl 0 rfl) ?_
            refine va_get (D := (dC, dI)) (ci := 1) (v := .ref (pt)) (C := "CodeWordsModel") (T := F_M) (N := 6) hx hb hts (in_M _) hown hK hP 0 rfl rfl 2 (by decide) (ht aw_441) (fun _ h9 => h9) rfl d_M_shorter_142 ?_
            refine lv_iconst (v := 1) hx hb d_M_shorter_145 (by decide) ?_
            refine lv_iconst (v := 0) hx hb d_M_shorter_146 (by decide) ?_
            obtain ⟨z_20, hf⟩ := ju_gd hf
            refine va_iast hx hb hK hP hD hS 2 0 rfl rfl z_20 d_M_shorter_147 (fun H locs hP hD hS => ?_)
            have hP : va_P (dC, dI) cls2 (wM cI h0 rw pt ou y_th mR (upd y_pf (1 : Int32).toNatClampNeg 0) y_of y_sz y_bg) H := hP
            have hD : va_D (aM h0 rw pt ou) (wM cI h0 rw pt ou y_th mR (upd y_pf (1 : Int32).toNatClampNeg 0) y_of y_sz y_bg) := hD
            refine lv_aload_n hx hb d_M_shorter_148 rfl (lv_at hl 0 rfl) ?_
            refine va_get (D := (dC, dI)) (ci := 1) (v := .ref (pt)) (C := "CodeWordsModel") (T := F_M) (N := 6) hx hb hts (in_M _) hown hK hP 0 rfl rfl 2 (by decide) (ht aw_441) (fun _ h9 => h9) rfl d_M_shorter_149 ?_
            refine lv_iconst (v := 2) hx hb d_M_shorter_152 (by decide) ?_
            refine lv_iload hx hb d_M_shorter_153 (lv_at hl 4 rfl) ?_
            obtain ⟨z_21, hf⟩ := ju_gd hf
            refine va_iast hx hb hK hP hD hS 2 0 rfl rfl z_21 d_M_shorter_155 (fun H locs hP hD hS => ?_)
            have hP : va_P (dC, dI) cls2 (wM cI h0 rw pt ou y_th mR (upd (upd y_pf (1 : Int32).toNatClampNeg 0) (2 : Int32).toNatClampNeg x4) y_of y_sz y_bg) H := hP
            have hD : va_D (aM h0 rw pt ou) (wM cI h0 rw pt ou y_th mR (upd (upd y_pf (1 : Int32).toNatClampNeg 0) (2 : Int32).toNatClampNeg x4) y_of y_sz y_bg) := hD
            refine lv_aload_n hx hb d_M_shorter_156 rfl (lv_at hl 0 rfl) ?_
            refine lv_aload_n hx hb d_M_shorter_157 rfl (lv_at hl 0 rfl) ?_
            refine lv_bipush (v := 27) hx hb d_M_shorter_158 (by decide) ?_
            obtain ⟨r_22, g_23, hf⟩ := Option.bind_eq_some_iff.mp hf
            refine ju_calli (W.runV (As := [.int (27)]) (rest := [.ref (h0)]) ⟨hx, hb, hml, hown, hts⟩ (c_M_put l (ad := ad) (sk := sk) (sv := sv) (tK := tK) dC dI cI h0 rw pt ou y_th (upd (upd y_pf (1 : Int32).toNatClampNeg 0) (2 : Int32).toNatClampNeg x4) y_of y_sz y_bg 27  r_22 g_23) (cwV 1 hts (aw_V aw_516 aw_518 aw_p27 aw_2 aw_519) rfl rfl rfl (by decide +kernel) ⟨Nat.le_of_ble_eq_true rfl, Nat.le_of_ble_eq_true rfl⟩) ⟨wBlind, va_recv hK hP (ci := 1) (q0 := 0) rfl rfl, fun U hU hW => ⟨rfl, by rw [hU]; exact hP, va_K.moved hW.alike hK, hD, hT.at hS hU hW (fun _ z => z)⟩⟩ rfl rfl hl.1 rfl (lv_room (Nat.le_of_ble_eq_true rfl)) d_M_shorter_160 ⟨Nat.le_refl _, Nat.le_refl _⟩) ?_
            obtain ⟨r_24, g_25, hf⟩ := Option.bind_eq_some_iff.mp hf
            refine va_calli (va_runV (As := [.int (r_22)]) (rest := []) ⟨hx, hb, hml, hown, hts⟩ (c_M_shrink l (ad := ad) (sk := sk) (sv := sv) (tK := tK) dC dI cI h0 rw pt ou y_th (upd (upd y_pf (1 : Int32).toNatClampNeg 0) (2 : Int32).toNatClampNeg x4) y_of y_sz y_bg r_22  r_24 g_25) (cwV 1 hts (aw_V aw_562 aw_564 aw_p31 aw_2 aw_565) rfl rfl rfl (by decide +kernel) ⟨Nat.le_of_ble_eq_true rfl, Nat.le_of_ble_eq_true rfl⟩) ⟨wBlind, va_recv hK hP (ci := 1) (q0 := 0) rfl rfl, fun U hU hW => ⟨rfl, by rw [hU]; exact hP, va_K.moved hW.alike hK, hD, hT.at hS hU hW (fun _ z => z)⟩⟩ rfl rfl hl.1 rfl (lv_room (Nat.le_of_ble_eq_true rfl)) d_M_shorter_163 ⟨Nat.le_refl _, Nat.le_refl _⟩) hS (fun _ _ h => h) (fun _ h => h) (fun v1 u t H1 locs ht1 hvm hw hB hz1 hk1 hS => ?_)
            obtain ⟨hw1, hw2⟩ := hw
            rw [hw1]
            rw [hw2] at hB
            rw [ht1] at hB
            have hP : va_P (dC, dI) cls2 (wM cI h0 rw pt ou r_24.2.1 mR r_24.2.2.1 r_24.2.2.2.1 r_24.2.2.2.2.1 r_24.2.2.2.2.2) H1 := hB
            have hD : va_D (aM h0 rw pt ou) (wM cI h0 rw pt ou r_24.2.1 mR r_24.2.2.1 r_24.2.2.2.1 r_24.2.2.2.2.1 r_24.2.2.2.2.2) := dD hD0 rfl
            exact W.iret (v := r_24.1) hx hb hr (fun t ht hW => ⟨⟨_, (r_24.2.1, r_24.2.2.1, r_24.2.2.2.1, r_24.2.2.2.2.1, r_24.2.2.2.2.2), rfl, ⟨congrArg (fun z => z.1) (Option.some.inj hf), congrArg (fun z => z.2) (Option.some.inj hf)⟩, by rw [← ht] at hP; exact hP⟩, hS.F ht⟩) hS.2.2 d_M_shorter_166
          · replace hf := (if_pos c_19).symm.trans hf
            refine lv_iconst (v := (-1)) hx hb d_M_shorter_139 (by decide) ?_
            exact W.iret (v := (-1)) hx hb hr (fun t ht hW => ⟨⟨_, (y_th, y_pf, y_of, y_sz, y_bg), rfl, ⟨congrArg (fun z => z.1) (Option.some.inj hf), congrArg (fun z => z.2) (Option.some.inj hf)⟩, by rw [← ht] at hP; exact hP⟩, hS.F ht⟩) hS.2.2 d_M_shorter_140
  have J65 : ∀ (x2 : Int32) (x3 : Int32) (x4 : Int32) (y_th : Int32) (y_pf : (Nat → Int32)) (y_of : (Nat → Int32)) (y_sz : Int32) (y_bg : Int32) (H : Heap) (locs : List Loc) (ls : Array Slot), va_P (dC, dI) cls2 (wM cI h0 rw pt ou y_th mR y_pf y_of y_sz y_bg) H → va_S (aM h0 rw pt ou) s.heap H locs → lv_has ls 5 [(0, .ref (h0)), (1, .int (a0)), (2, .int (x2)), (3, .int (x3)), (4, .int (x4))] → f_M_shorter_L65 w_th w_pf w_of w_sz w_bg a0  x2 x3 x4 y_th y_pf y_of y_sz y_bg = some r → wW p l e (headSpec (Cond.code y_M_shorter b_M_shorter 5 (Option.some FieldType.int) :: aw) ({ frames := 7, cells := 0, slots := 0, locals := 161 } : Room)).room s m ([.ref (h0), .int (a0)] : List Value).toArray below meth c (va_Qi (fun v u => v = r.1 ∧ u = r.2) (fun (u : Int32 × (Nat → Int32) × (Nat → Int32) × Int32 × Int32) t => va_P (dC, dI) cls2 (wM cI h0 rw pt ou u.1 mR u.2.1 u.2.2.1 u.2.2.2.1 u.2.2.2.2) t.heap) (aM h0 rw pt ou)) (aM h0 rw pt ou) H locs (F0 m 65 ls []) := by
    intro x2 x3 x4 y_th y_pf y_of y_sz y_bg H locs ls hP hS hl hf
    rw [f_M_shorter_L65] at hf
    have hD : va_D (aM h0 rw pt ou) (wM cI h0 rw pt ou y_th mR y_pf y_of y_sz y_bg) := dD hD0 rfl
    refine lv_aload_n hx hb d_M_shorter_65 rfl (lv_at hl 0 rfl) ?_
    refine va_get (D := (dC, dI)) (ci := 1) (v := .ref (pt)) (C := "CodeWordsModel") (T := F_M) (N := 6) hx hb hts (in_M _) hown hK hP 0 rfl rfl 2 (by decide) (ht aw_441) (fun _ h9 => h9) rfl d_M_shorter_66 ?_
    refine lv_iconst (v := 0) hx hb d_M_shorter_69 (by decide) ?_
    obtain ⟨z_11, hf⟩ := ju_gd hf
    refine va_iald hx hb hK hP 2 0 rfl rfl z_11 d_M_shorter_70 ?_
    refine lv_aload_n hx hb d_M_shorter_71 rfl (lv_at hl 0 rfl) ?_
    refine va_get (D := (dC, dI)) (ci := 1) (v := .ref (pt)) (C := "CodeWordsModel") (T := F_M) (N := 6) hx hb hts (in_M _) hown hK hP 0 rfl rfl 2 (by decide) (ht aw_441) (fun _ h9 => h9) rfl d_M_shorter_72 ?_
    refine lv_iconst (v := 2) hx hb d_M_shorter_75 (by decide) ?_
    obtain ⟨z_12, hf⟩ := ju_gd hf
    refine va_iald hx hb hK hP 2 0 rfl rfl z_12 d_M_shorter_76 ?_
    refine lv_icmp_ne (tgt := 110) hx hb d_M_shorter_77 (by decide) (fun c_13 => ?_) (fun c_13 => ?_)
    · replace hf := (if_neg c_13).symm.trans hf
      exact J110 x2 x3 x4 y_th y_pf y_of y_sz y_bg _ _ _ hP hS (lv_sub hl [0, 1, 2, 3, 4] rfl) hf
    · replace hf := (if_pos c_13).symm.trans hf
      refine lv_aload_n hx hb d_M_shorter_80 rfl (lv_at hl 0 rfl) ?_
      refine va_get (D := (dC, dI)) (ci := 1) (v := .ref (pt)) (C := "CodeWordsModel") (T := F_M) (N := 6) hx hb hts (in_M _) hown hK hP 0 rfl rfl 2 (by decide) (ht aw_441) (fun _ h9 => h9) rfl d_M_shorter_81 ?_
      refine lv_iconst (v := 1) hx hb d_M_shorter_84 (by decide) ?_
      refine lv_aload_n hx hb d_M_shorter_85 rfl (lv_at hl 0 rfl) ?_
      refine va_get (D := (dC, dI)) (ci := 1) (v := .ref (pt)) (C := "CodeWordsModel") (T := F_M) (N := 6) hx hb hts (in_M _) hown hK hP 0 rfl rfl 2 (by decide) (ht aw_441) (fun _ h9 => h9) rfl d_M_shorter_86 ?_
      refine lv_iconst (v := 2) hx hb d_M_shorter_89 (by decide) ?_
      obtain ⟨z_26, hf⟩ := ju_gd hf
      refine va_iald hx hb hK hP 2 0 rfl rfl z_26 d_M_shorter_90 ?_
      obtain ⟨z_27, hf⟩ := ju_gd hf
      refine va_iast hx hb hK hP hD hS 2 0 rfl rfl z_27 d_M_shorter_91 (fun H locs hP hD hS => ?_)
      have hP : va_P (dC, dI) cls2 (wM cI h0 rw pt ou y_th mR (upd y_pf (1 : Int32).toNatClampNeg (y_pf (2 : Int32).toNatClampNeg)) y_of y_sz y_bg) H := hP
      have hD : va_D (aM h0 rw pt ou) (wM cI h0 rw pt ou y_th mR (upd y_pf (1 : Int32).toNatClampNeg (y_pf (2 : Int32).toNatClampNeg)) y_of y_sz y_bg) := hD
      refine lv_aload_n hx hb d_M_shorter_92 rfl (lv_at hl 0 rfl) ?_
      refine va_get (D := (dC, dI)) (ci := 1) (v := .ref (pt)) (C := "CodeWordsModel") (T := F_M) (N := 6) hx hb hts (in_M _) hown hK hP 0 rfl rfl 2 (by decide) (ht aw_441) (fun _ h9 => h9) rfl d_M_shorter_93 ?_
      refine lv_iconst (v := 2) hx hb d_M_shorter_96 (by decide) ?_
      refine lv_iload hx hb d_M_shorter_97 (lv_at hl 4 rfl) ?_
      obtain ⟨z_28, hf⟩ := ju_gd hf
      refine va_iast hx hb hK hP hD hS 2 0 rfl rfl z_28 d_M_shorter_99 (fun H locs hP hD hS => ?_)
      have hP : va_P (dC, dI) cls2 (wM cI h0 rw pt ou y_th mR (upd (upd y_pf (1 : Int32).toNatClampNeg (y_pf (2 : Int32).toNatClampNeg)) (2 : Int32).toNatClampNeg x4) y_of y_sz y_bg) H := hP
      have hD : va_D (aM h0 rw pt ou) (wM cI h0 rw pt ou y_th mR (upd (upd y_pf (1 : Int32).toNatClampNeg (y_pf (2 : Int32).toNatClampNeg)) (2 : Int32).toNatClampNeg x4) y_of y_sz y_bg) := hD
      refine lv_aload_n hx hb d_M_shorter_100 rfl (lv_at hl 0 rfl) ?_
      refine lv_aload_n hx hb d_M_shorter_101 rfl (lv_at hl 0 rfl) ?_
      refine lv_iload_n hx hb d_M_shorter_102 rfl (lv_at hl 3 rfl) ?_
      obtain ⟨r_29, g_30, hf⟩ := Option.bind_eq_some_iff.mp hf
      refine ju_calli (W.runV (As := [.int (x3)]) (rest := [.ref (h0)]) ⟨hx, hb, hml, hown, hts⟩ (c_M_put l (ad := ad) (sk := sk) (sv := sv) (tK := tK) dC dI cI h0 rw pt ou y_th (upd (upd y_pf (1 : Int32).toNatClampNeg (y_pf (2 : Int32).toNatClampNeg)) (2 : Int32).toNatClampNeg x4) y_of y_sz y_bg x3  r_29 g_30) (cwV 1 hts (aw_V aw_516 aw_518 aw_p27 aw_2 aw_519) rfl rfl rfl (by decide +kernel) ⟨Nat.le_of_ble_eq_true rfl, Nat.le_of_ble_eq_true rfl⟩) ⟨wBlind, va_recv hK hP (ci := 1) (q0 := 0) rfl rfl, fun U hU hW => ⟨rfl, by rw [hU]; exact hP, va_K.moved hW.alike hK, hD, hT.at hS hU hW (fun _ z => z)⟩⟩ rfl rfl hl.1 rfl (lv_room (Nat.le_of_ble_eq_true rfl)) d_M_shorter_103 ⟨Nat.le_refl _, Nat.le_refl _⟩) ?_
      obtain ⟨r_31, g_32, hf⟩ := Option.bind_eq_some_iff.mp hf
      refine va_calli (va_runV (As := [.int (r_29)]) (rest := []) ⟨hx, hb, hml, hown, hts⟩ (c_M_shrink l (ad := ad) (sk := sk) (sv := sv) (tK := tK) dC dI cI h0 rw pt ou y_th (upd (upd y_pf (1 : Int32).toNatClampNeg (y_pf (2 : Int32).toNatClampNeg)) (2 : Int32).toNatClampNeg x4) y_of y_sz y_bg r_29  r_31 g_32) (cwV 1 hts (aw_V aw_562 aw_564 aw_p31 aw_2 aw_565) rfl rfl rfl (by decide +kernel) ⟨Nat.le_of_ble_eq_true rfl, Nat.le_of_ble_eq_true rfl⟩) ⟨wBlind, va_recv hK hP (ci := 1) (q0 := 0) rfl rfl, fun U hU hW => ⟨rfl, by rw [hU]; exact hP, va_K.moved hW.alike hK, hD, hT.at hS hU hW (fun _ z => z)⟩⟩ rfl rfl hl.1 rfl (lv_room (Nat.le_of_ble_eq_true rfl)) d_M_shorter_106 ⟨Nat.le_refl _, Nat.le_refl _⟩) hS (fun _ _ h => h) (fun _ h => h) (fun v1 u t H1 locs ht1 hvm hw hB hz1 hk1 hS => ?_)
      obtain ⟨hw1, hw2⟩ := hw
      rw [hw1]
      rw [hw2] at hB
      rw [ht1] at hB
      have hP : va_P (dC, dI) cls2 (wM cI h0 rw pt ou r_31.2.1 mR r_31.2.2.1 r_31.2.2.2.1 r_31.2.2.2.2.1 r_31.2.2.2.2.2) H1 := hB
      have hD : va_D (aM h0 rw pt ou) (wM cI h0 rw pt ou r_31.2.1 mR r_31.2.2.1 r_31.2.2.2.1 r_31.2.2.2.2.1 r_31.2.2.2.2.2) := dD hD0 rfl
      exact W.iret (v := r_31.1) hx hb hr (fun t ht hW => ⟨⟨_, (r_31.2.1, r_31.2.2.1, r_31.2.2.2.1, r_31.2.2.2.2.1, r_31.2.2.2.2.2), rfl, ⟨congrArg (fun z => z.1) (Option.some.inj hf), congrArg (fun z => z.2) (Option.some.inj hf)⟩, by rw [← ht] at hP; exact hP⟩, hS.F ht⟩) hS.2.2 d_M_shorter_109
  rw [f_M_shorter] at hf
  refine lv_aload_n hx hb d_M_shorter_0 rfl (lv_at hl 0 rfl) ?_
  refine lv_iconst (v := 0) hx hb d_M_shorter_1 (by decide) ?_
  refine va_put (D := (dC, dI)) (ci := 1) (v := .int (0)) (ty := .int) (C := "CodeWordsModel") (T := F_M) (N := 6) hx hb hts (in_M _) ty_M tyok_M nm_M hown hK hP hD hS 0 rfl rfl 0 (by decide) (ht aw_439) (fun _ h9 => h9) rfl (by decide +kernel) rfl rfl (Nat.le_of_ble_eq_true rfl) d_M_shorter_2 (fun H locs hP hD hS => ?_)
  have hP : va_P (dC, dI) cls2 (wM cI h0 rw pt ou 0 mR w_pf w_of w_sz w_bg) H := hP
  have hD : va_D (aM h0 rw pt ou) (wM cI h0 rw pt ou 0 mR w_pf w_of w_sz w_bg) := hD
  refine lv_iload_n hx hb d_M_shorter_5 rfl (lv_at hl 1 rfl) ?_
  obtain ⟨r_1, g_2, hf⟩ := Option.bind_eq_some_iff.mp hf
  refine ju_calli (W.runS (As := [.int (a0)]) (rest := []) ⟨hx, hb, hml, hown, hts⟩ (c_M_isLong l (ad := ad) (sk := sk) (sv := sv) (tK := tK)  a0  r_1 g_2) (va_cwS 1 hts (aw_S aw_528 aw_529 aw_2 aw_530) rfl rfl rfl (by decide +kernel) ⟨Nat.le_of_ble_eq_true rfl, Nat.le_of_ble_eq_true rfl⟩) ⟨fun a U g mk q => ⟨q.1, q.2.call⟩, fun U hU hW => ⟨rfl, hT.at hS hU hW (fun _ z => z.elim)⟩⟩ rfl rfl hl.1 rfl (lv_room (Nat.le_of_ble_eq_true rfl)) d_M_shorter_6 ⟨Nat.le_refl _, Nat.le_refl _⟩) ?_
  refine lv_if_ne (tgt := 14) hx hb d_M_shorter_9 (by decide) (fun c_3 => ?_) (fun c_3 => ?_)
  · replace hf := (if_neg c_3).symm.trans hf
    refine lv_aload_n hx hb d_M_shorter_14 rfl (lv_at hl 0 rfl) ?_
    refine lv_iload_n hx hb d_M_shorter_15 rfl (lv_at hl 1 rfl) ?_
    obtain ⟨r_4, g_5, hf⟩ := Option.bind_eq_some_iff.mp hf
    refine va_calli (va_runV (As := [.int (a0)]) (rest := []) ⟨hx, hb, hml, hown, hts⟩ (c_M_shrink l (ad := ad) (sk := sk) (sv := sv) (tK := tK) dC dI cI h0 rw pt ou 0 w_pf w_of w_sz w_bg a0  r_4 g_5) (cwV 1 hts (aw_V aw_562 aw_564 aw_p31 aw_2 aw_565) rfl rfl rfl (by decide +kernel) ⟨Nat.le_of_ble_eq_true rfl, Nat.le_of_ble_eq_true rfl⟩) ⟨wBlind, va_recv hK hP (ci := 1) (q0 := 0) rfl rfl, fun U hU hW => ⟨rfl, by rw [hU]; exact hP, va_K.moved hW.alike hK, hD, hT.at hS hU hW (fun _ z => z)⟩⟩ rfl rfl hl.1 rfl (lv_room (Nat.le_of_ble_eq_true rfl)) d_M_shorter_16 ⟨Nat.le_refl _, Nat.le_refl _⟩) hS (fun _ _ h => h) (fun _ h => h) (fun v1 u t H1 locs ht1 hvm hw hB hz1 hk1 hS => ?_)
    obtain ⟨hw1, hw2⟩ := hw
    rw [hw1]
    rw [hw2] at hB
    rw [ht1] at hB
    have hP : va_P (dC, dI) cls2 (wM cI h0 rw pt ou r_4.2.1 mR r_4.2.2.1 r_4.2.2.2.1 r_4.2.2.2.2.1 r_4.2.2.2.2.2) H1 := hB
    have hD : va_D (aM h0 rw pt ou) (wM cI h0 rw pt ou r_4.2.1 mR r_4.2.2.1 r_4.2.2.2.1 r_4.2.2.2.2.1 r_4.2.2.2.2.2) := dD hD0 rfl
    refine lv_istore_n (lv' := [(2, .int (r_4.1)), (0, .ref (h0)), (1, .int (a0))]) hx hb d_M_shorter_19 rfl hl (by decide) rfl (fun ls hl => ?_)
    refine lv_iload_n hx hb d_M_shorter_20 rfl (lv_at hl 0 rfl) ?_
    refine lv_iconst (v := (-1)) hx hb d_M_shorter_21 (by decide) ?_
    refine lv_icmp_eq (tgt := 27) hx hb d_M_shorter_22 (by decide) (fun c_6 => ?_) (fun c_6 => ?_)
    · replace hf := (if_pos c_6).symm.trans hf
      refine lv_aload_n hx hb d_M_shorter_27 rfl (lv_at hl 1 rfl) ?_
      refine lv_iload_n hx hb d_M_shorter_28 rfl (lv_at hl 2 rfl) ?_
      obtain ⟨r_7, g_8, hf⟩ := Option.bind_eq_some_iff.mp hf
      refine va_calli (va_runV (As := [.int (a0)]) (rest := []) ⟨hx, hb, hml, hown, hts⟩ (c_M_find l (ad := ad) (sk := sk) (sv := sv) (tK := tK) dC dI cI h0 rw pt ou r_4.2.1 r_4.2.2.1 r_4.2.2.2.1 r_4.2.2.2.2.1 r_4.2.2.2.2.2 a0  r_7 g_8) (cwV 1 hts (aw_V aw_524 aw_526 aw_p28 aw_2 aw_527) rfl rfl rfl (by decide +kernel) ⟨Nat.le_of_ble_eq_true rfl, Nat.le_of_ble_eq_true rfl⟩) ⟨wBlind, va_recv hK hP (ci := 1) (q0 := 0) rfl rfl, fun U hU hW => ⟨rfl, by rw [hU]; exact hP, va_K.moved hW.alike hK, hD, hT.at hS hU hW (fun _ z => z)⟩⟩ rfl rfl hl.1 rfl (lv_room (Nat.le_of_ble_eq_true rfl)) d_M_shorter_29 ⟨Nat.le_refl _, Nat.le_refl _⟩) hS (fun _ _ h => h) (fun _ h => h) (fun v1 u t H1 locs ht1 hvm hw hB hz1 hk1 hS => ?_)
      obtain ⟨hw1, hw2⟩ := hw
      rw [hw1]
      rw [hw2] at hB
      rw [ht1] at hB
      have hP : va_P (dC, dI) cls2 (wM cI h0 rw pt ou r_7.2.1 mR r_7.2.2.1 r_7.2.2.2.1 r_7.2.2.2.2.1 r_7.2.2.2.2.2) H1 := hB
      have hD : va_D (aM h0 rw pt ou) (wM cI h0 rw pt ou r_7.2.1 mR r_7.2.2.1 r_7.2.2.2.1 r_7.2.2.2.2.1 r_7.2.2.2.2.2) := dD hD0 rfl
      refine lv_istore_n (lv' := [(3, .int (r_7.1)), (2, .int (r_4.1)), (0, .ref (h0)), (1, .int (a0))]) hx hb d_M_shorter_32 rfl hl (by decide) rfl (fun ls hl => ?_)
      refine lv_aload_n hx hb d_M_shorter_33 rfl (lv_at hl 2 rfl) ?_
      refine va_get (D := (dC, dI)) (ci := 1) (v := .ref (pt)) (C := "CodeWordsModel") (T := F_M) (N := 6) hx hb hts (in_M _) hown hK hP 0 rfl rfl 2 (by decide) (ht aw_441) (fun _ h9 => h9) rfl d_M_shorter_34 ?_
      refine lv_iconst (v := 1) hx hb d_M_shorter_37 (by decide) ?_
      obtain ⟨z_9, hf⟩ := ju_gd hf
      refine va_iald hx hb hK hP 2 0 rfl rfl z_9 d_M_shorter_38 ?_
      refine lv_istore (lv' := [(4, .int (r_7.2.2.1 (1 : Int32).toNatClampNeg)), (3, .int (r_7.1)), (2, .int (r_4.1)), (0, .ref (h0)), (1, .int (a0))]) hx hb d_M_shorter_39 hl (by decide) rfl (fun ls hl => ?_)
      refine lv_iload_n hx hb d_M_shorter_41 rfl (lv_at hl 1 rfl) ?_
      refine lv_bipush (v := 27) hx hb d_M_shorter_42 (by decide) ?_
      refine lv_icmp_eq (tgt := 65) hx hb d_M_shorter_44 (by decide) (fun c_10 => ?_) (fun c_10 => ?_)
      · replace hf := (if_pos c_10).symm.trans hf
        exact J65 r_4.1 r_7.1 (r_7.2.2.1 (1 : Int32).toNatClampNeg) r_7.2.1 r_7.2.2.1 r_7.2.2.2.1 r_7.2.2.2.2.1 r_7.2.2.2.2.2 _ _ _ hP hS (lv_sub hl [3, 4, 2, 1, 0] rfl) hf
      · replace hf := (if_neg c_10).symm.trans hf
        refine lv_iload_n hx hb d_M_shorter_47 rfl (lv_at hl 1 rfl) ?_
        refine lv_bipush (v := 32) hx hb d_M_shorter_48 (by decide) ?_
        refine lv_icmp_eq (tgt := 65) hx hb d_M_shorter_50 (by decide) (fun c_33 => ?_) (fun c_33 => ?_)
        · replace hf := (if_pos c_33).symm.trans hf
          exact J65 r_4.1 r_7.1 (r_7.2.2.1 (1 : Int32).toNatClampNeg) r_7.2.1 r_7.2.2.1 r_7.2.2.2.1 r_7.2.2.2.2.1 r_7.2.2.2.2.2 _ _ _ hP hS (lv_sub hl [3, 4, 2, 1, 0] rfl) hf
        · replace hf := (if_neg c_33).symm.trans hf
          refine lv_iload_n hx hb d_M_shorter_53 rfl (lv_at hl 1 rfl) ?_
          refine lv_bipush (v := 35) hx hb d_M_shorter_54 (by decide) ?_
          refine lv_icmp_eq (tgt := 65) hx hb d_M_shorter_56 (by decide) (fun c_34 => ?_) (fun c_34 => ?_)
          · replace hf := (if_pos c_34).symm.trans hf
            exact J65 r_4.1 r_7.1 (r_7.2.2.1 (1 : Int32).toNatClampNeg) r_7.2.1 r_7.2.2.1 r_7.2.2.2.1 r_7.2.2.2.2.1 r_7.2.2.2.2.2 _ _ _ hP hS (lv_sub hl [3, 4, 2, 1, 0] rfl) hf
          · replace hf := (if_neg c_34).symm.trans hf
            refine lv_iload_n hx hb d_M_shorter_59 rfl (lv_at hl 1 rfl) ?_
            refine lv_bipush (v := 36) hx hb d_M_shorter_60 (by decide) ?_
            refine lv_icmp_ne (tgt := 110) hx hb d_M_shorter_62 (by decide) (fun c_35 => ?_) (fun c_35 => ?_)
            · replace hf := (if_neg c_35).symm.trans hf
              exact J110 r_4.1 r_7.1 (r_7.2.2.1 (1 : Int32).toNatClampNeg) r_7.2.1 r_7.2.2.1 r_7.2.2.2.1 r_7.2.2.2.2.1 r_7.2.2.2.2.2 _ _ _ hP hS (lv_sub hl [3, 4, 2, 1, 0] rfl) hf
            · replace hf := (if_pos c_35).symm.trans hf
              exact J65 r_4.1 r_7.1 (r_7.2.2.1 (1 : Int32).toNatClampNeg) r_7.2.1 r_7.2.2.1 r_7.2.2.2.1 r_7.2.2.2.2.1 r_7.2.2.2.2.2 _ _ _ hP hS (lv_sub hl [3, 4, 2, 1, 0] rfl) hf
    · replace hf := (if_neg c_6).symm.trans hf
      refine lv_iload_n hx hb d_M_shorter_25 rfl (lv_at hl 0 rfl) ?_
      exact W.iret (v := r_4.1) hx hb hr (fun t ht hW => ⟨⟨_, (r_4.2.1, r_4.2.2.1, r_4.2.2.2.1, r_4.2.2.2.2.1, r_4.2.2.2.2.2), rfl, ⟨congrArg (fun z => z.1) (Option.some.inj hf), congrArg (fun z => z.2) (Option.some.inj hf)⟩, by rw [← ht] at hP; exact hP⟩, hS.F ht⟩) hS.2.2 d_M_shorter_26
  · replace hf := (if_pos c_3).symm.trans hf
    refine lv_iconst (v := (-1)) hx hb d_M_shorter_12 (by decide) ?_
    exact W.iret (v := (-1)) hx hb hr (fun t ht hW => ⟨⟨_, (0, w_pf, w_of, w_sz, w_bg), rfl, ⟨congrArg (fun z => z.1) (Option.some.inj hf), congrArg (fun z => z.2) (Option.some.inj hf)⟩, by rw [← ht] at hP; exact hP⟩, hS.F ht⟩) hS.2.2 d_M_shorter_13

def f_M_may (w_th : Int32) (w_pf : Nat → Int32) (w_of : Nat → Int32) (w_sz : Int32) (w_bg : Int32) (a0 : Int32) (a1 : Int64) : Option (Bool × Int32 × (Nat → Int32) × (Nat → Int32) × Int32 × Int32) :=
  (f_M_isKind a0).bind fun r_1 => if (bI r_1) = 0 then (some (false, 0, w_pf, w_of, w_sz, w_bg)) else ((f_M_has 0 w_pf w_of w_sz w_bg a0 3).bind fun r_4 => if (bI r_4) = 0 then (some (false, 0, w_pf, w_of, w_sz, w_bg)) else ((f_M_isImmediate a0 a1).bind fun r_7 => if (bI r_7) = 0 then (some (false, 0, w_pf, w_of, w_sz, w_bg)) else (some (true, 0, w_pf, w_of, w_sz, w_bg))))
set_option maxHeartbeats 1000000 in
set_option maxRecDepth 100000 in
theorem c_M_may (l : Launch) {ad sk sv : Nat → Nat} {tK : Nat} (dC : Nat → ClassId) (dI : Nat → Nat → Nat) (cI : ClassId) (h0 rw pt ou : Nat) (w_th : Int32) (w_pf : Nat → Int32) (w_of : Nat → Int32) (w_sz : Int32) (w_bg : Int32) (a0 : Int32) (a1 : Int64)  (r : Bool × Int32 × (Nat → Int32) × (Nat → Int32) × Int32 × Int32) (hf : f_M_may w_th w_pf w_of w_sz w_bg a0 a1 = some r) : Met l y_M_may (Cond.code y_M_may b_M_may 4 (Option.some FieldType.boolean) :: aw) ({ frames := 2, cells := 0, slots := 0, locals := 49 } : Room) (va_Pc [.ref (h0), .int (a0), .long (a1)] (fun U => va_P (dC, dI) cls2 (wM cI h0 rw pt ou w_th mR w_pf w_of w_sz w_bg) U.heap ∧ va_K (dC, dI) cls2 [(cI, .int)] U ∧ va_D (aM h0 rw pt ou) (wM cI h0 rw pt ou w_th mR w_pf w_of w_sz w_bg) ∧ tb ad sk sv tK (aM h0 rw pt ou) U U.heap)) (va_Qi (fun v u => v = bI r.1 ∧ u = r.2) (fun (u : Int32 × (Nat → Int32) × (Nat → Int32) × Int32 × Int32) t => va_P (dC, dI) cls2 (wM cI h0 rw pt ou u.1 mR u.2.1 u.2.2.1 u.2.2.2.1 u.2.2.2.2) t.heap) (aM h0 rw pt ou)) 0 0 (aM h0 rw pt ou) := by
  refine Met.ofW (cc := b_M_may) (maxL := 4) (ret := (Option.some FieldType.boolean)) (by decide) rfl ?_
  intro p e s m args below meth c s₁ B hml hv
  obtain ⟨rfl, hP, hK, hD, hT⟩ := hv
  have hD0 := hD
  have hx := B.exec
  have hb := B.bytes
  have hr := B.returns
  have hts := atoms_spec (ws := (Cond.code y_M_may b_M_may 4 (Option.some FieldType.boolean) :: aw)) B.pre
  have ht : ∀ {w : Cond}, w ∈ aw → w.before ([.ref (h0), .int (a0), .long (a1)] : List Value).toArray s = true := fun h => hts _ (List.mem_cons_of_mem _ h)
  have hown : s.vm.findClass "CodeWordsModel" = some m.cls := findClass_of_methodNamed B.named
  have hlocks := B.notSynchronized
  have hS : va_S (aM h0 rw pt ou) s.heap s.heap [] := va_S.rf
  have hl := lv_entry ([.ref (h0), .int (a0), .long (a1)]) (n := 4) (Nat.le_of_ble_eq_true rfl)
  rw [lg_entry_eq]
  generalize (lg_sl ([.ref (h0), .int (a0), .long (a1)]) ++ List.replicate (4 - (lg_sl ([.ref (h0), .int (a0), .long (a1)])).length) Slot.unset).toArray = ls at hl ⊢
  have hl : lv_has ls 4 [(0, .ref (h0)), (1, .int (a0)), (2, .long (a1))] := hl
  rw [f_M_may] at hf
  refine lv_aload_n hx hb d_M_may_0 rfl (lv_at hl 0 rfl) ?_
  refine lv_iconst (v := 0) hx hb d_M_may_1 (by decide) ?_
  refine va_put (D := (dC, dI)) (ci := 1) (v := .int (0)) (ty := .int) (C := "CodeWordsModel") (T := F_M) (N := 6) hx hb hts (in_M _) ty_M tyok_M nm_M hown hK hP hD hS 0 rfl rfl 0 (by decide) (ht aw_439) (fun _ h9 => h9) rfl (by decide +kernel) rfl rfl (Nat.le_of_ble_eq_true rfl) d_M_may_2 (fun H locs hP hD hS => ?_)
  have hP : va_P (dC, dI) cls2 (wM cI h0 rw pt ou 0 mR w_pf w_of w_sz w_bg) H := hP
  have hD : va_D (aM h0 rw pt ou) (wM cI h0 rw pt ou 0 mR w_pf w_of w_sz w_bg) := hD
  refine lv_iload_n hx hb d_M_may_5 rfl (lv_at hl 1 rfl) ?_
  obtain ⟨r_1, g_2, hf⟩ := Option.bind_eq_some_iff.mp hf
  refine ju_calli (W.runS (As := [.int (a0)]) (rest := []) ⟨hx, hb, hml, hown, hts⟩ (c_M_isKind l (ad := ad) (sk := sk) (sv := sv) (tK := tK)  a0  r_1 g_2) (va_cwS 1 hts (aw_S aw_467 aw_468 aw_2 aw_469) rfl rfl rfl (by decide +kernel) ⟨Nat.le_of_ble_eq_true rfl, Nat.le_of_ble_eq_true rfl⟩) ⟨fun a U g mk q => ⟨q.1, q.2.call⟩, fun U hU hW => ⟨rfl, hT.at hS hU hW (fun _ z => z.elim)⟩⟩ rfl rfl hl.1 rfl (lv_room (Nat.le_of_ble_eq_true rfl)) d_M_may_6 ⟨Nat.le_refl _, Nat.le_refl _⟩) ?_
  refine lv_if_eq (tgt := 33) hx hb d_M_may_9 (by decide) (fun c_3 => ?_) (fun c_3 => ?_)
  · replace hf := (if_pos c_3).symm.trans hf
    refine lv_iconst (v := 0) hx hb d_M_may_33 (by decide) ?_
    exact W.zret (v := 0) hx hb hr (ju_nz false) (fun t ht hW => ⟨⟨_, (0, w_pf, w_of, w_sz, w_bg), rfl, ⟨congrArg (fun z : Bool × Int32 × (Nat → Int32) × (Nat → Int32) × Int32 × Int32 => bI z.1) (Option.some.inj hf), congrArg (fun z => z.2) (Option.some.inj hf)⟩, by rw [← ht] at hP; exact hP⟩, hS.F ht⟩) hS.2.2 d_M_may_34
  · replace hf := (if_neg c_3).symm.trans hf
    refine lv_aload_n hx hb d_M_may_12 rfl (lv_at hl 0 rfl) ?_
    refine lv_iload_n hx hb d_M_may_13 rfl (lv_at hl 1 rfl) ?_
    refine lv_iconst (v := 3) hx hb d_M_may_14 (by decide) ?_
    obtain ⟨r_4, g_5, hf⟩ := Option.bind_eq_some_iff.mp hf
    refine ju_calli (W.runV (As := [.int (a0), .int (3)]) (rest := []) ⟨hx, hb, hml, hown, hts⟩ (c_M_has l (ad := ad) (sk := sk) (sv := sv) (tK := tK) dC dI cI h0 rw pt ou 0 w_pf w_of w_sz w_bg a0 3  r_4 g_5) (cwV 2 hts (aw_V aw_474 aw_476 aw_p24 aw_2 aw_477) rfl rfl rfl (by decide +kernel) ⟨Nat.le_of_ble_eq_true rfl, Nat.le_of_ble_eq_true rfl⟩) ⟨wBlind, va_recv hK hP (ci := 1) (q0 := 0) rfl rfl, fun U hU hW => ⟨rfl, by rw [hU]; exact hP, va_K.moved hW.alike hK, hD, hT.at hS hU hW (fun _ z => z)⟩⟩ rfl rfl hl.1 rfl (lv_room (Nat.le_of_ble_eq_true rfl)) d_M_may_15 ⟨Nat.le_refl _, Nat.le_refl _⟩) ?_
    refine lv_if_eq (tgt := 33) hx hb d_M_may_18 (by decide) (fun c_6 => ?_) (fun c_6 => ?_)
    · replace hf := (if_pos c_6).symm.trans hf
      refine lv_iconst (v := 0) hx hb d_M_may_33 (by decide) ?_
      exact W.zret (v := 0) hx hb hr (ju_nz false) (fun t ht hW => ⟨⟨_, (0, w_pf, w_of, w_sz, w_bg), rfl, ⟨congrArg (fun z : Bool × Int32 × (Nat → Int32) × (Nat → Int32) × Int32 × Int32 => bI z.1) (Option.some.inj hf), congrArg (fun z => z.2) (Option.some.inj hf)⟩, by rw [← ht] at hP; exact hP⟩, hS.F ht⟩) hS.2.2 d_M_may_34
    · replace hf := (if_neg c_6).symm.trans hf
      refine lv_iload_n hx hb d_M_may_21 rfl (lv_at hl 1 rfl) ?_
      refine lv_lload_n hx hb d_M_may_22 rfl (lv_at hl 2 rfl) ?_
      obtain ⟨r_7, g_8, hf⟩ := Option.bind_eq_some_iff.mp hf
      refine ju_calli (W.runS (As := [.int (a0), .long (a1)]) (rest := []) ⟨hx, hb, hml, hown, hts⟩ (c_M_isImmediate l (ad := ad) (sk := sk) (sv := sv) (tK := tK)  a0 a1  r_7 g_8) (va_cwS 2 hts (aw_S aw_489 aw_490 aw_2 aw_491) rfl rfl rfl (by decide +kernel) ⟨Nat.le_of_ble_eq_true rfl, Nat.le_of_ble_eq_true rfl⟩) ⟨fun a U g mk q => ⟨q.1, q.2.call⟩, fun U hU hW => ⟨rfl, hT.at hS hU hW (fun _ z => z.elim)⟩⟩ rfl rfl hl.1 rfl (lv_room (Nat.le_of_ble_eq_true rfl)) d_M_may_23 ⟨Nat.le_refl _, Nat.le_refl _⟩) ?_
      refine lv_if_eq (tgt := 33) hx hb d_M_may_26 (by decide) (fun c_9 => ?_) (fun c_9 => ?_)
      · replace hf := (if_pos c_9).symm.trans hf
        refine lv_iconst (v := 0) hx hb d_M_may_33 (by decide) ?_
        exact W.zret (v := 0) hx hb hr (ju_nz false) (fun t ht hW => ⟨⟨_, (0, w_pf, w_of, w_sz, w_bg), rfl, ⟨congrArg (fun z : Bool × Int32 × (Nat → Int32) × (Nat → Int32) × Int32 × Int32 => bI z.1) (Option.some.inj hf), congrArg (fun z => z.2) (Option.some.inj hf)⟩, by rw [← ht] at hP; exact hP⟩, hS.F ht⟩) hS.2.2 d_M_may_34
      · replace hf := (if_neg c_9).symm.trans hf
        refine lv_iconst (v := 1) hx hb d_M_may_29 (by decide) ?_
        refine lv_goto (tgt := 34) hx hb d_M_may_30 (by decide) ?_
        exact W.zret (v := 1) hx hb hr (ju_nz true) (fun t ht hW => ⟨⟨_, (0, w_pf, w_of, w_sz, w_bg), rfl, ⟨congrArg (fun z : Bool × Int32 × (Nat → Int32) × (Nat → Int32) × Int32 × Int32 => bI z.1) (Option.some.inj hf), congrArg (fun z => z.2) (Option.some.inj hf)⟩, by rw [← ht] at hP; exact hP⟩, hS.F ht⟩) hS.2.2 d_M_may_34

def f_M_fit_L38 (w_th : Int32) (w_pf : Nat → Int32) (w_of : Nat → Int32) (w_sz : Int32) (w_bg : Int32) (a0 : Int32) (a1 : Int64)  (x4 : Int32) (t0 : Int32) (y_th : Int32) (y_pf : (Nat → Int32)) (y_of : (Nat → Int32)) (y_sz : Int32) (y_bg : Int32) : Option (Int32 × Int32 × (Nat → Int32) × (Nat → Int32) × Int32 × Int32) :=
  if t0 = 0 then (if (3 : Int32) < 0 ∨ 4 ≤ (3 : Int32).toNatClampNeg then none else (f_M_put t0 (upd y_pf (3 : Int32).toNatClampNeg a1.toInt32) y_of y_sz y_bg x4).bind fun r_6 => some (r_6, t0, upd y_pf (3 : Int32).toNatClampNeg a1.toInt32, y_of, y_sz, y_bg)) else (some (0, t0, y_pf, y_of, y_sz, y_bg))
def f_M_fit_L37 (w_th : Int32) (w_pf : Nat → Int32) (w_of : Nat → Int32) (w_sz : Int32) (w_bg : Int32) (a0 : Int32) (a1 : Int64)  (x4 : Int32) (y_th : Int32) (y_pf : (Nat → Int32)) (y_of : (Nat → Int32)) (y_sz : Int32) (y_bg : Int32) : Option (Int32 × Int32 × (Nat → Int32) × (Nat → Int32) × Int32 × Int32) :=
  f_M_fit_L38 w_th w_pf w_of w_sz w_bg a0 a1  x4 1 y_th y_pf y_of y_sz y_bg
def f_M_fit (w_th : Int32) (w_pf : Nat → Int32) (w_of : Nat → Int32) (w_sz : Int32) (w_bg : Int32) (a0 : Int32) (a1 : Int64) : Option (Int32 × Int32 × (Nat → Int32) × (Nat → Int32) × Int32 × Int32) :=
  (f_M_find w_th w_pf w_of w_sz w_bg a0).bind fun r_1 => if r_1.1 = ((-1)) then (f_M_fit_L37 w_th w_pf w_of w_sz w_bg a0 a1  r_1.1 r_1.2.1 r_1.2.2.1 r_1.2.2.2.1 r_1.2.2.2.2.1 r_1.2.2.2.2.2) else ((f_M_has r_1.2.1 r_1.2.2.1 r_1.2.2.2.1 r_1.2.2.2.2.1 r_1.2.2.2.2.2 r_1.1 3).bind fun r_8 => if (bI r_8) = 0 then (f_M_fit_L37 w_th w_pf w_of w_sz w_bg a0 a1  r_1.1 r_1.2.1 r_1.2.2.1 r_1.2.2.2.1 r_1.2.2.2.2.1 r_1.2.2.2.2.2) else ((f_M_isImmediate r_1.1 a1).bind fun r_11 => if (bI r_11) = 0 then (f_M_fit_L37 w_th w_pf w_of w_sz w_bg a0 a1  r_1.1 r_1.2.1 r_1.2.2.1 r_1.2.2.2.1 r_1.2.2.2.2.1 r_1.2.2.2.2.2) else (f_M_fit_L38 w_th w_pf w_of w_sz w_bg a0 a1  r_1.1 0 r_1.2.1 r_1.2.2.1 r_1.2.2.2.1 r_1.2.2.2.2.1 r_1.2.2.2.2.2)))
set_option maxHeartbeats 1000000 in
set_option maxRecDepth 100000 in
theorem c_M_fit (l : Launch) {ad sk sv : Nat → Nat} {tK : Nat} (dC : Nat → ClassId) (dI : Nat → Nat → Nat) (cI : ClassId) (h0 rw pt ou : Nat) (w_th : Int32) (w_pf : Nat → Int32) (w_of : Nat → Int32) (w_sz : Int32) (w_bg : Int32) (a0 : Int32) (a1 : Int64)  (r : Int32 × Int32 × (Nat → Int32) × (Nat → Int32) × Int32 × Int32) (hf : f_M_fit w_th w_pf w_of w_sz w_bg a0 a1 = some r) : Met l y_M_fit (Cond.code y_M_fit b_M_fit 5 (Option.some FieldType.int) :: aw) ({ frames := 6, cells := 0, slots := 0, locals := 137 } : Room) (va_Pc [.ref (h0), .int (a0), .long (a1)] (fun U => va_P (dC, dI) cls2 (wM cI h0 rw pt ou w_th mR w_pf w_of w_sz w_bg) U.heap ∧ va_K (dC, dI) cls2 [(cI, .int)] U ∧ va_D (aM h0 rw pt ou) (wM cI h0 rw pt ou w_th mR w_pf w_of w_sz w_bg) ∧ tb ad sk sv tK (aM h0 rw pt ou) U U.heap)) (va_Qi (fun v u => v = r.1 ∧ u = r.2) (fun (u : Int32 × (Nat → Int32) × (Nat → Int32) × Int32 × Int32) t => va_P (dC, dI) cls2 (wM cI h0 rw pt ou u.1 mR u.2.1 u.2.2.1 u.2.2.2.1 u.2.2.2.2) t.heap) (aM h0 rw pt ou)) 0 0 (aM h0 rw pt ou) := by
  refine Met.ofW (cc := b_M_fit) (maxL := 5) (ret := (Option.some FieldType.int)) (by decide) rfl ?_
  intro p e s m args below meth c s₁ B hml hv
  obtain ⟨rfl, hP, hK, hD, hT⟩ := hv
  have hD0 := hD
  have hx := B.exec
  have hb := B.bytes
  have hr := B.returns
  have hts := atoms_spec (ws := (Cond.code y_M_fit b_M_fit 5 (Option.some FieldType.int) :: aw)) B.pre
  have ht : ∀ {w : Cond}, w ∈ aw → w.before ([.ref (h0), .int (a0), .long (a1)] : List Value).toArray s = true := fun h => hts _ (List.mem_cons_of_mem _ h)
  have hown : s.vm.findClass "CodeWordsModel" = some m.cls := findClass_of_methodNamed B.named
  have hlocks := B.notSynchronized
  have hS : va_S (aM h0 rw pt ou) s.heap s.heap [] := va_S.rf
  have hl := lv_entry ([.ref (h0), .int (a0), .long (a1)]) (n := 5) (Nat.le_of_ble_eq_true rfl)
  rw [lg_entry_eq]
  generalize (lg_sl ([.ref (h0), .int (a0), .long (a1)]) ++ List.replicate (5 - (lg_sl ([.ref (h0), .int (a0), .long (a1)])).length) Slot.unset).toArray = ls at hl ⊢
  have hl : lv_has ls 5 [(0, .ref (h0)), (1, .int (a0)), (2, .long (a1))] := hl
  have J38 : ∀ (x4 : Int32) (t0 : Int32) (y_th : Int32) (y_pf : (Nat → Int32)) (y_of : (Nat → Int32)) (y_sz : Int32) (y_bg : Int32) (H : Heap) (locs : List Loc) (ls : Array Slot), va_P (dC, dI) cls2 (wM cI h0 rw pt ou y_th mR y_pf y_of y_sz y_bg) H → va_S (aM h0 rw pt ou) s.heap H locs → lv_has ls 5 [(0, .ref (h0)), (1, .int (a0)), (2, .long (a1)), (4, .int (x4))] → f_M_fit_L38 w_th w_pf w_of w_sz w_bg a0 a1  x4 t0 y_th y_pf y_of y_sz y_bg = some r → wW p l e (headSpec (Cond.code y_M_fit b_M_fit 5 (Option.some FieldType.int) :: aw) ({ frames := 6, cells := 0, slots := 0, locals := 137 } : Room)).room s m ([.ref (h0), .int (a0), .long (a1)] : List Value).toArray below meth c (va_Qi (fun v u => v = r.1 ∧ u = r.2) (fun (u : Int32 × (Nat → Int32) × (Nat → Int32) × Int32 × Int32) t => va_P (dC, dI) cls2 (wM cI h0 rw pt ou u.1 mR u.2.1 u.2.2.1 u.2.2.2.1 u.2.2.2.2) t.heap) (aM h0 rw pt ou)) (aM h0 rw pt ou) H locs (F0 m 38 ls [.int (t0), .ref (h0)]) := by
    intro x4 t0 y_th y_pf y_of y_sz y_bg H locs ls hP hS hl hf
    rw [f_M_fit_L38] at hf
    have hD : va_D (aM h0 rw pt ou) (wM cI h0 rw pt ou y_th mR y_pf y_of y_sz y_bg) := dD hD0 rfl
    refine va_put (D := (dC, dI)) (ci := 1) (v := .int (t0)) (ty := .int) (C := "CodeWordsModel") (T := F_M) (N := 6) hx hb hts (in_M _) ty_M tyok_M nm_M hown hK hP hD hS 0 rfl rfl 0 (by decide) (ht aw_439) (fun _ h9 => h9) rfl (by decide +kernel) rfl rfl (Nat.le_of_ble_eq_true rfl) d_M_fit_38 (fun H locs hP hD hS => ?_)
    have hP : va_P (dC, dI) cls2 (wM cI h0 rw pt ou t0 mR y_pf y_of y_sz y_bg) H := hP
    have hD : va_D (aM h0 rw pt ou) (wM cI h0 rw pt ou t0 mR y_pf y_of y_sz y_bg) := hD
    refine lv_aload_n hx hb d_M_fit_41 rfl (lv_at hl 0 rfl) ?_
    refine va_get (D := (dC, dI)) (ci := 1) (v := .int (t0)) (C := "CodeWordsModel") (T := F_M) (N := 6) hx hb hts (in_M _) hown hK hP 0 rfl rfl 0 (by decide) (ht aw_439) (fun _ h9 => h9) rfl d_M_fit_42 ?_
    refine lv_if_eq (tgt := 50) hx hb d_M_fit_45 (by decide) (fun c_4 => ?_) (fun c_4 => ?_)
    · replace hf := (if_pos c_4).symm.trans hf
      refine lv_aload_n hx hb d_M_fit_50 rfl (lv_at hl 0 rfl) ?_
      refine va_get (D := (dC, dI)) (ci := 1) (v := .ref (pt)) (C := "CodeWordsModel") (T := F_M) (N := 6) hx hb hts (in_M _) hown hK hP 0 rfl rfl 2 (by decide) (ht aw_441) (fun _ h9 => h9) rfl d_M_fit_51 ?_
      refine lv_iconst (v := 3) hx hb d_M_fit_54 (by decide) ?_
      refine lv_lload_n hx hb d_M_fit_55 rfl (lv_at hl 2 rfl) ?_
      refine lv_l2i (v := a1.toInt32) hx hb d_M_fit_56 rfl ?_
      obtain ⟨z_5, hf⟩ := ju_gd hf
      refine va_iast hx hb hK hP hD hS 2 0 rfl rfl z_5 d_M_fit_57 (fun H locs hP hD hS => ?_)
      have hP : va_P (dC, dI) cls2 (wM cI h0 rw pt ou t0 mR (upd y_pf (3 : Int32).toNatClampNeg a1.toInt32) y_of y_sz y_bg) H := hP
      have hD : va_D (aM h0 rw pt ou) (wM cI h0 rw pt ou t0 mR (upd y_pf (3 : Int32).toNatClampNeg a1.toInt32) y_of y_sz y_bg) := hD
      refine lv_aload_n hx hb d_M_fit_58 rfl (lv_at hl 0 rfl) ?_
      refine lv_iload hx hb d_M_fit_59 (lv_at hl 3 rfl) ?_
      obtain ⟨r_6, g_7, hf⟩ := Option.bind_eq_some_iff.mp hf
      refine ju_calli (W.runV (As := [.int (x4)]) (rest := []) ⟨hx, hb, hml, hown, hts⟩ (c_M_put l (ad := ad) (sk := sk) (sv := sv) (tK := tK) dC dI cI h0 rw pt ou t0 (upd y_pf (3 : Int32).toNatClampNeg a1.toInt32) y_of y_sz y_bg x4  r_6 g_7) (cwV 1 hts (aw_V aw_516 aw_518 aw_p27 aw_2 aw_519) rfl rfl rfl (by decide +kernel) ⟨Nat.le_of_ble_eq_true rfl, Nat.le_of_ble_eq_true rfl⟩) ⟨wBlind, va_recv hK hP (ci := 1) (q0 := 0) rfl rfl, fun U hU hW => ⟨rfl, by rw [hU]; exact hP, va_K.moved hW.alike hK, hD, hT.at hS hU hW (fun _ z => z)⟩⟩ rfl rfl hl.1 rfl (lv_room (Nat.le_of_ble_eq_true rfl)) d_M_fit_61 ⟨Nat.le_refl _, Nat.le_refl _⟩) ?_
      exact W.iret (v := r_6) hx hb hr (fun t ht hW => ⟨⟨_, (t0, upd y_pf (3 : Int32).toNatClampNeg a1.toInt32, y_of, y_sz, y_bg), rfl, ⟨congrArg (fun z => z.1) (Option.some.inj hf), congrArg (fun z => z.2) (Option.some.inj hf)⟩, by rw [← ht] at hP; exact hP⟩, hS.F ht⟩) hS.2.2 d_M_fit_64
    · replace hf := (if_neg c_4).symm.trans hf
      refine lv_iconst (v := 0) hx hb d_M_fit_48 (by decide) ?_
      exact W.iret (v := 0) hx hb hr (fun t ht hW => ⟨⟨_, (t0, y_pf, y_of, y_sz, y_bg), rfl, ⟨congrArg (fun z => z.1) (Option.some.inj hf), congrArg (fun z => z.2) (Option.some.inj hf)⟩, by rw [← ht] at hP; exact hP⟩, hS.F ht⟩) hS.2.2 d_M_fit_49
  have J37 : ∀ (x4 : Int32) (y_th : Int32) (y_pf : (Nat → Int32)) (y_of : (Nat → Int32)) (y_sz : Int32) (y_bg : Int32) (H : Heap) (locs : List Loc) (ls : Array Slot), va_P (dC, dI) cls2 (wM cI h0 rw pt ou y_th mR y_pf y_of y_sz y_bg) H → va_S (aM h0 rw pt ou) s.heap H locs → lv_has ls 5 [(0, .ref (h0)), (1, .int (a0)), (2, .long (a1)), (4, .int (x4))] → f_M_fit_L37 w_th w_pf w_of w_sz w_bg a0 a1  x4 y_th y_pf y_of y_sz y_bg = some r → wW p l e (headSpec (Cond.code y_M_fit b_M_fit 5 (Option.some FieldType.int) :: aw) ({ frames := 6, cells := 0, slots := 0, locals := 137 } : Room)).room s m ([.ref (h0), .int (a0), .long (a1)] : List Value).toArray below meth c (va_Qi (fun v u => v = r.1 ∧ u = r.2) (fun (u : Int32 × (Nat → Int32) × (Nat → Int32) × Int32 × Int32) t => va_P (dC, dI) cls2 (wM cI h0 rw pt ou u.1 mR u.2.1 u.2.2.1 u.2.2.2.1 u.2.2.2.2) t.heap) (aM h0 rw pt ou)) (aM h0 rw pt ou) H locs (F0 m 37 ls [.ref (h0)]) := by
    intro x4 y_th y_pf y_of y_sz y_bg H locs ls hP hS hl hf
    rw [f_M_fit_L37] at hf
    have hD : va_D (aM h0 rw pt ou) (wM cI h0 rw pt ou y_th mR y_pf y_of y_sz y_bg) := dD hD0 rfl
    refine lv_iconst (v := 1) hx hb d_M_fit_37 (by decide) ?_
    exact J38 x4 1 y_th y_pf y_of y_sz y_bg _ _ _ hP hS (lv_sub hl [0, 1, 2, 3] rfl) hf
  rw [f_M_fit] at hf
  refine lv_aload_n hx hb d_M_fit_0 rfl (lv_at hl 0 rfl) ?_
  refine lv_iload_n hx hb d_M_fit_1 rfl (lv_at hl 1 rfl) ?_
  obtain ⟨r_1, g_2, hf⟩ := Option.bind_eq_some_iff.mp hf
  refine va_calli (va_runV (As := [.int (a0)]) (rest := []) ⟨hx, hb, hml, hown, hts⟩ (c_M_find l (ad := ad) (sk := sk) (sv := sv) (tK := tK) dC dI cI h0 rw pt ou w_th w_pf w_of w_sz w_bg a0  r_1 g_2) (cwV 1 hts (aw_V aw_524 aw_526 aw_p28 aw_2 aw_527) rfl rfl rfl (by decide +kernel) ⟨Nat.le_of_ble_eq_true rfl, Nat.le_of_ble_eq_true rfl⟩) ⟨wBlind, va_recv hK hP (ci := 1) (q0 := 0) rfl rfl, fun U hU hW => ⟨rfl, by rw [hU]; exact hP, va_K.moved hW.alike hK, hD, hT.at hS hU hW (fun _ z => z)⟩⟩ rfl rfl hl.1 rfl (lv_room (Nat.le_of_ble_eq_true rfl)) d_M_fit_2 ⟨Nat.le_refl _, Nat.le_refl _⟩) hS (fun _ _ h => h) (fun _ h => h) (fun v1 u t H1 locs ht1 hvm hw hB hz1 hk1 hS => ?_)
  obtain ⟨hw1, hw2⟩ := hw
  rw [hw1]
  rw [hw2] at hB
  rw [ht1] at hB
  have hP : va_P (dC, dI) cls2 (wM cI h0 rw pt ou r_1.2.1 mR r_1.2.2.1 r_1.2.2.2.1 r_1.2.2.2.2.1 r_1.2.2.2.2.2) H1 := hB
  have hD : va_D (aM h0 rw pt ou) (wM cI h0 rw pt ou r_1.2.1 mR r_1.2.2.1 r_1.2.2.2.1 r_1.2.2.2.2.1 r_1.2.2.2.2.2) := dD hD0 rfl
  refine lv_istore (lv' := [(4, .int (r_1.1)), (0, .ref (h0)), (1, .int (a0)), (2, .long (a1))]) hx hb d_M_fit_5 hl (by decide) rfl (fun ls hl => ?_)
  refine lv_aload_n hx hb d_M_fit_7 rfl (lv_at hl 1 rfl) ?_
  refine lv_iload hx hb d_M_fit_8 (lv_at hl 0 rfl) ?_
  refine lv_iconst (v := (-1)) hx hb d_M_fit_10 (by decide) ?_
  refine lv_icmp_eq (tgt := 37) hx hb d_M_fit_11 (by decide) (fun c_3 => ?_) (fun c_3 => ?_)
  · replace hf := (if_pos c_3).symm.trans hf
    exact J37 r_1.1 r_1.2.1 r_1.2.2.1 r_1.2.2.2.1 r_1.2.2.2.2.1 r_1.2.2.2.2.2 _ _ _ hP hS (lv_sub hl [1, 2, 3, 0] rfl) hf
  · replace hf := (if_neg c_3).symm.trans hf
    refine lv_aload_n hx hb d_M_fit_14 rfl (lv_at hl 1 rfl) ?_
    refine lv_iload hx hb d_M_fit_15 (lv_at hl 0 rfl) ?_
    refine lv_iconst (v := 3) hx hb d_M_fit_17 (by decide) ?_
    obtain ⟨r_8, g_9, hf⟩ := Option.bind_eq_some_iff.mp hf
    refine ju_calli (W.runV (As := [.int (r_1.1), .int (3)]) (rest := [.ref (h0)]) ⟨hx, hb, hml, hown, hts⟩ (c_M_has l (ad := ad) (sk := sk) (sv := sv) (tK := tK) dC dI cI h0 rw pt ou r_1.2.1 r_1.2.2.1 r_1.2.2.2.1 r_1.2.2.2.2.1 r_1.2.2.2.2.2 r_1.1 3  r_8 g_9) (cwV 2 hts (aw_V aw_474 aw_476 aw_p24 aw_2 aw_477) rfl rfl rfl (by decide +kernel) ⟨Nat.le_of_ble_eq_true rfl, Nat.le_of_ble_eq_true rfl⟩) ⟨wBlind, va_recv hK hP (ci := 1) (q0 := 0) rfl rfl, fun U hU hW => ⟨rfl, by rw [hU]; exact hP, va_K.moved hW.alike hK, hD, hT.at hS hU hW (fun _ z => z)⟩⟩ rfl rfl hl.1 rfl (lv_room (Nat.le_of_ble_eq_true rfl)) d_M_fit_18 ⟨Nat.le_refl _, Nat.le_refl _⟩) ?_
    refine lv_if_eq (tgt := 37) hx hb d_M_fit_21 (by decide) (fun c_10 => ?_) (fun c_10 => ?_)
    · replace hf := (if_pos c_10).symm.trans hf
      exact J37 r_1.1 r_1.2.1 r_1.2.2.1 r_1.2.2.2.1 r_1.2.2.2.2.1 r_1.2.2.2.2.2 _ _ _ hP hS (lv_sub hl [1, 2, 3, 0] rfl) hf
    · replace hf := (if_neg c_10).symm.trans hf
      refine lv_iload hx hb d_M_fit_24 (lv_at hl 0 rfl) ?_
      refine lv_lload_n hx hb d_M_fit_26 rfl (lv_at hl 3 rfl) ?_
      obtain ⟨r_11, g_12, hf⟩ := Option.bind_eq_some_iff.mp hf
      refine ju_calli (W.runS (As := [.int (r_1.1), .long (a1)]) (rest := [.ref (h0)]) ⟨hx, hb, hml, hown, hts⟩ (c_M_isImmediate l (ad := ad) (sk := sk) (sv := sv) (tK := tK)  r_1.1 a1  r_11 g_12) (va_cwS 2 hts (aw_S aw_489 aw_490 aw_2 aw_491) rfl rfl rfl (by decide +kernel) ⟨Nat.le_of_ble_eq_true rfl, Nat.le_of_ble_eq_true rfl⟩) ⟨fun a U g mk q => ⟨q.1, q.2.call⟩, fun U hU hW => ⟨rfl, hT.at hS hU hW (fun _ z => z.elim)⟩⟩ rfl rfl hl.1 rfl (lv_room (Nat.le_of_ble_eq_true rfl)) d_M_fit_27 ⟨Nat.le_refl _, Nat.le_refl _⟩) ?_
      refine lv_if_eq (tgt := 37) hx hb d_M_fit_30 (by decide) (fun c_13 => ?_) (fun c_13 => ?_)
      · replace hf := (if_pos c_13).symm.trans hf
        exact J37 r_1.1 r_1.2.1 r_1.2.2.1 r_1.2.2.2.1 r_1.2.2.2.2.1 r_1.2.2.2.2.2 _ _ _ hP hS (lv_sub hl [1, 2, 3, 0] rfl) hf
      · replace hf := (if_neg c_13).symm.trans hf
        refine lv_iconst (v := 0) hx hb d_M_fit_33 (by decide) ?_
        refine lv_goto (tgt := 38) hx hb d_M_fit_34 (by decide) ?_
        exact J38 r_1.1 0 r_1.2.1 r_1.2.2.1 r_1.2.2.2.1 r_1.2.2.2.2.1 r_1.2.2.2.2.2 _ _ _ hP hS (lv_sub hl [1, 2, 3, 0] rfl) hf

def f_M_letter (w_th : Int32) (w_pf : Nat → Int32) (w_of : Nat → Int32) (w_sz : Int32) (w_bg : Int32) (a0 : Int32) : Option (Int32 × Int32 × (Nat → Int32) × (Nat → Int32) × Int32 × Int32) :=
  if a0 < 0 then (some ((-1), 0, w_pf, w_of, w_sz, w_bg)) else (if w_sz ≤ a0 then (some ((-1), 0, w_pf, w_of, w_sz, w_bg)) else (if a0 < 0 ∨ 80 ≤ a0.toNatClampNeg then none else some (w_of a0.toNatClampNeg, 0, w_pf, w_of, w_sz, w_bg)))
set_option maxHeartbeats 1000000 in
set_option maxRecDepth 100000 in
theorem c_M_letter (l : Launch) {ad sk sv : Nat → Nat} {tK : Nat} (dC : Nat → ClassId) (dI : Nat → Nat → Nat) (cI : ClassId) (h0 rw pt ou : Nat) (w_th : Int32) (w_pf : Nat → Int32) (w_of : Nat → Int32) (w_sz : Int32) (w_bg : Int32) (a0 : Int32)  (r : Int32 × Int32 × (Nat → Int32) × (Nat → Int32) × Int32 × Int32) (hf : f_M_letter w_th w_pf w_of w_sz w_bg a0 = some r) : Met l y_M_letter (Cond.code y_M_letter b_M_letter 2 (Option.some FieldType.int) :: aw) ({ frames := 0, cells := 0, slots := 0, locals := 0 } : Room) (va_Pc [.ref (h0), .int (a0)] (fun U => va_P (dC, dI) cls2 (wM cI h0 rw pt ou w_th mR w_pf w_of w_sz w_bg) U.heap ∧ va_K (dC, dI) cls2 [(cI, .int)] U ∧ va_D (aM h0 rw pt ou) (wM cI h0 rw pt ou w_th mR w_pf w_of w_sz w_bg) ∧ tb ad sk sv tK (aM h0 rw pt ou) U U.heap)) (va_Qi (fun v u => v = r.1 ∧ u = r.2) (fun (u : Int32 × (Nat → Int32) × (Nat → Int32) × Int32 × Int32) t => va_P (dC, dI) cls2 (wM cI h0 rw pt ou u.1 mR u.2.1 u.2.2.1 u.2.2.2.1 u.2.2.2.2) t.heap) (aM h0 rw pt ou)) 0 0 (aM h0 rw pt ou) := by
  refine Met.ofW (cc := b_M_letter) (maxL := 2) (ret := (Option.some FieldType.int)) (by decide) rfl ?_
  intro p e s m args below meth c s₁ B hml hv
  obtain ⟨rfl, hP, hK, hD, hT⟩ := hv
  have hD0 := hD
  have hx := B.exec
  have hb := B.bytes
  have hr := B.returns
  have hts := atoms_spec (ws := (Cond.code y_M_letter b_M_letter 2 (Option.some FieldType.int) :: aw)) B.pre
  have ht : ∀ {w : Cond}, w ∈ aw → w.before ([.ref (h0), .int (a0)] : List Value).toArray s = true := fun h => hts _ (List.mem_cons_of_mem _ h)
  have hown : s.vm.findClass "CodeWordsModel" = some m.cls := findClass_of_methodNamed B.named
  have hlocks := B.notSynchronized
  have hS : va_S (aM h0 rw pt ou) s.heap s.heap [] := va_S.rf
  have hl := lv_entry ([.ref (h0), .int (a0)]) (n := 2) (Nat.le_of_ble_eq_true rfl)
  rw [lg_entry_eq]
  generalize (lg_sl ([.ref (h0), .int (a0)]) ++ List.replicate (2 - (lg_sl ([.ref (h0), .int (a0)])).length) Slot.unset).toArray = ls at hl ⊢
  have hl : lv_has ls 2 [(0, .ref (h0)), (1, .int (a0))] := hl
  rw [f_M_letter] at hf
  refine lv_aload_n hx hb d_M_letter_0 rfl (lv_at hl 0 rfl) ?_
  refine lv_iconst (v := 0) hx hb d_M_letter_1 (by decide) ?_
  refine va_put (D := (dC, dI)) (ci := 1) (v := .int (0)) (ty := .int) (C := "CodeWordsModel") (T := F_M) (N := 6) hx hb hts (in_M _) ty_M tyok_M nm_M hown hK hP hD hS 0 rfl rfl 0 (by decide) (ht aw_439) (fun _ h9 => h9) rfl (by decide +kernel) rfl rfl (Nat.le_of_ble_eq_true rfl) d_M_letter_2 (fun H locs hP hD hS => ?_)
  have hP : va_P (dC, dI) cls2 (wM cI h0 rw pt ou 0 mR w_pf w_of w_sz w_bg) H := hP
  have hD : va_D (aM h0 rw pt ou) (wM cI h0 rw pt ou 0 mR w_pf w_of w_sz w_bg) := hD
  refine lv_iload_n hx hb d_M_letter_5 rfl (lv_at hl 1 rfl) ?_
  refine lv_if_lt (tgt := 26) hx hb d_M_letter_6 (by decide) (fun c_1 => ?_) (fun c_1 => ?_)
  · replace hf := (if_pos c_1).symm.trans hf
    refine lv_iconst (v := (-1)) hx hb d_M_letter_26 (by decide) ?_
    exact W.iret (v := (-1)) hx hb hr (fun t ht hW => ⟨⟨_, (0, w_pf, w_of, w_sz, w_bg), rfl, ⟨congrArg (fun z => z.1) (Option.some.inj hf), congrArg (fun z => z.2) (Option.some.inj hf)⟩, by rw [← ht] at hP; exact hP⟩, hS.F ht⟩) hS.2.2 d_M_letter_27
  · replace hf := (if_neg c_1).symm.trans hf
    refine lv_iload_n hx hb d_M_letter_9 rfl (lv_at hl 1 rfl) ?_
    refine lv_aload_n hx hb d_M_letter_10 rfl (lv_at hl 0 rfl) ?_
    refine va_get (D := (dC, dI)) (ci := 1) (v := .int (w_sz)) (C := "CodeWordsModel") (T := F_M) (N := 6) hx hb hts (in_M _) hown hK hP 0 rfl rfl 4 (by decide) (ht aw_443) (fun _ h9 => h9) rfl d_M_letter_11 ?_
    refine lv_icmp_ge (tgt := 26) hx hb d_M_letter_14 (by decide) (fun c_2 => ?_) (fun c_2 => ?_)
    · replace hf := (if_pos c_2).symm.trans hf
      refine lv_iconst (v := (-1)) hx hb d_M_letter_26 (by decide) ?_
      exact W.iret (v := (-1)) hx hb hr (fun t ht hW => ⟨⟨_, (0, w_pf, w_of, w_sz, w_bg), rfl, ⟨congrArg (fun z => z.1) (Option.some.inj hf), congrArg (fun z => z.2) (Option.some.inj hf)⟩, by rw [← ht] at hP; exact hP⟩, hS.F ht⟩) hS.2.2 d_M_letter_27
    · replace hf := (if_neg c_2).symm.trans hf
      refine lv_aload_n hx hb d_M_letter_17 rfl (lv_at hl 0 rfl) ?_
      refine va_get (D := (dC, dI)) (ci := 1) (v := .ref (ou)) (C := "CodeWordsModel") (T := F_M) (N := 6) hx hb hts (in_M _) hown hK hP 0 rfl rfl 3 (by decide) (ht aw_442) (fun _ h9 => h9) rfl d_M_letter_18 ?_
      refine lv_iload_n hx hb d_M_letter_21 rfl (lv_at hl 1 rfl) ?_
      obtain ⟨z_3, hf⟩ := ju_gd hf
      refine va_iald hx hb hK hP 3 0 rfl rfl z_3 d_M_letter_22 ?_
      refine lv_goto (tgt := 27) hx hb d_M_letter_23 (by decide) ?_
      exact W.iret (v := w_of a0.toNatClampNeg) hx hb hr (fun t ht hW => ⟨⟨_, (0, w_pf, w_of, w_sz, w_bg), rfl, ⟨congrArg (fun z => z.1) (Option.some.inj hf), congrArg (fun z => z.2) (Option.some.inj hf)⟩, by rw [← ht] at hP; exact hP⟩, hS.F ht⟩) hS.2.2 d_M_letter_27

def f_M_named_L104 (w_th : Int32) (w_pf : Nat → Int32) (w_of : Nat → Int32) (w_sz : Int32) (w_bg : Int32) (a0 : Int64) (a1 : Int64)  : Nat → Int64 → Int32 → Int32 → Int32 → (Nat → Int32) → (Nat → Int32) → Int32 → Int32 → Option (Int32 × Int32 × (Nat → Int32) × (Nat → Int32) × Int32 × Int32)
  | 0, _, _, _, _, _, _, _, _ => none
  | n + 1, x5, x7, x8, y_th, y_pf, y_of, y_sz, y_bg =>
    if 75 ≤ x8 then (some ((-1), y_th, y_pf, y_of, y_sz, y_bg)) else ((f_M_nameOf x8).bind fun r_3 => if (lg_cmp r_3 x5) = 0 then (some (x8, y_th, y_pf, y_of, y_sz, y_bg)) else (f_M_named_L104 w_th w_pf w_of w_sz w_bg a0 a1  n x5 x7 (x8 + 1) y_th y_pf y_of y_sz y_bg))
def f_M_named_L33 (w_th : Int32) (w_pf : Nat → Int32) (w_of : Nat → Int32) (w_sz : Int32) (w_bg : Int32) (a0 : Int64) (a1 : Int64) (k14 : Int64 → Int32 → Int32 → Int32 → (Nat → Int32) → (Nat → Int32) → Int32 → Int32 → Option (Int32 × Int32 × (Nat → Int32) × (Nat → Int32) × Int32 × Int32)) (x5 : Int64) (x7 : Int32) (x8 : Int32) (t0 : Int64) (y_th : Int32) (y_pf : (Nat → Int32)) (y_of : (Nat → Int32)) (y_sz : Int32) (y_bg : Int32) : Option (Int32 × Int32 × (Nat → Int32) × (Nat → Int32) × Int32 × Int32) :=
  if (((ju_lshr t0 (56 - (8 * (x8 - x8 / 8 * 8)))) &&& 255).toInt32) = 0 then (k14 x5 x7 (x8 + 1) y_th y_pf y_of y_sz y_bg) else ((f_M_codeOf (((ju_lshr t0 (56 - (8 * (x8 - x8 / 8 * 8)))) &&& 255).toInt32)).bind fun r_8 => if r_8 = 0 then (some ((-1), y_th, y_pf, y_of, y_sz, y_bg)) else (if x7 = 11 then (some ((-1), y_th, y_pf, y_of, y_sz, y_bg)) else ((f_M_codeOf (((ju_lshr t0 (56 - (8 * (x8 - x8 / 8 * 8)))) &&& 255).toInt32)).bind fun r_12 => k14 ((40 * x5) + r_12.toInt64) (x7 + 1) (x8 + 1) y_th y_pf y_of y_sz y_bg)))
def f_M_named_L14 (w_th : Int32) (w_pf : Nat → Int32) (w_of : Nat → Int32) (w_sz : Int32) (w_bg : Int32) (a0 : Int64) (a1 : Int64)  : Nat → Int64 → Int32 → Int32 → Int32 → (Nat → Int32) → (Nat → Int32) → Int32 → Int32 → Option (Int32 × Int32 × (Nat → Int32) × (Nat → Int32) × Int32 × Int32)
  | 0, _, _, _, _, _, _, _, _ => none
  | n + 1, x5, x7, x8, y_th, y_pf, y_of, y_sz, y_bg =>
    if 16 ≤ x8 then (f_M_named_L104 w_th w_pf w_of w_sz w_bg a0 a1  80 x5 x7 0 y_th y_pf y_of y_sz y_bg) else (if 8 ≤ x8 then (f_M_named_L33 w_th w_pf w_of w_sz w_bg a0 a1 (fun y0 y1 y2 y3 y4 y5 y6 y7 => f_M_named_L14 w_th w_pf w_of w_sz w_bg a0 a1  n y0 y1 y2 y3 y4 y5 y6 y7) x5 x7 x8 a1 y_th y_pf y_of y_sz y_bg) else (f_M_named_L33 w_th w_pf w_of w_sz w_bg a0 a1 (fun y0 y1 y2 y3 y4 y5 y6 y7 => f_M_named_L14 w_th w_pf w_of w_sz w_bg a0 a1  n y0 y1 y2 y3 y4 y5 y6 y7) x5 x7 x8 a0 y_th y_pf y_of y_sz y_bg))
def f_M_named (w_th : Int32) (w_pf : Nat → Int32) (w_of : Nat → Int32) (w_sz : Int32) (w_bg : Int32) (a0 : Int64) (a1 : Int64) : Option (Int32 × Int32 × (Nat → Int32) × (Nat → Int32) × Int32 × Int32) :=
  f_M_named_L14 w_th w_pf w_of w_sz w_bg a0 a1  80 0 0 0 0 w_pf w_of w_sz w_bg
set_option maxHeartbeats 1000000 in
set_option maxRecDepth 100000 in
theorem c_M_named (l : Launch) {ad sk sv : Nat → Nat} {tK : Nat} (dC : Nat → ClassId) (dI : Nat → Nat → Nat) (cI : ClassId) (h0 rw pt ou : Nat) (w_th : Int32) (w_pf : Nat → Int32) (w_of : Nat → Int32) (w_sz : Int32) (w_bg : Int32) (a0 : Int64) (a1 : Int64)  (r : Int32 × Int32 × (Nat → Int32) × (Nat → Int32) × Int32 × Int32) (hf : f_M_named w_th w_pf w_of w_sz w_bg a0 a1 = some r) : Met l y_M_named (Cond.code y_M_named b_M_named 10 (Option.some FieldType.int) :: aw) ({ frames := 1, cells := 0, slots := 0, locals := 20 } : Room) (va_Pc [.ref (h0), .long (a0), .long (a1)] (fun U => va_P (dC, dI) cls2 (wM cI h0 rw pt ou w_th mR w_pf w_of w_sz w_bg) U.heap ∧ va_K (dC, dI) cls2 [(cI, .int)] U ∧ va_D (aM h0 rw pt ou) (wM cI h0 rw pt ou w_th mR w_pf w_of w_sz w_bg) ∧ tb ad sk sv tK (aM h0 rw pt ou) U U.heap)) (va_Qi (fun v u => v = r.1 ∧ u = r.2) (fun (u : Int32 × (Nat → Int32) × (Nat → Int32) × Int32 × Int32) t => va_P (dC, dI) cls2 (wM cI h0 rw pt ou u.1 mR u.2.1 u.2.2.1 u.2.2.2.1 u.2.2.2.2) t.heap) (aM h0 rw pt ou)) 0 0 (aM h0 rw pt ou) := by
  refine Met.ofW (cc := b_M_named) (maxL := 10) (ret := (Option.some FieldType.int)) (by decide) rfl ?_
  intro p e s m args below meth c s₁ B hml hv
  obtain ⟨rfl, hP, hK, hD, hT⟩ := hv
  have hD0 := hD
  have hx := B.exec
  have hb := B.bytes
  have hr := B.returns
  have hts := atoms_spec (ws := (Cond.code y_M_named b_M_named 10 (Option.some FieldType.int) :: aw)) B.pre
  have ht : ∀ {w : Cond}, w ∈ aw → w.before ([.ref (h0), .long (a0), .long (a1)] : List Value).toArray s = true := fun h => hts _ (List.mem_cons_of_mem _ h)
  have hown : s.vm.findClass "CodeWordsModel" = some m.cls := findClass_of_methodNamed B.named
  have hlocks := B.notSynchronized
  have hS : va_S (aM h0 rw pt ou) s.heap s.heap [] := va_S.rf
  have hl := lv_entry ([.ref (h0), .long (a0), .long (a1)]) (n := 10) (Nat.le_of_ble_eq_true rfl)
  rw [lg_entry_eq]
  generalize (lg_sl ([.ref (h0), .long (a0), .long (a1)]) ++ List.replicate (10 - (lg_sl ([.ref (h0), .long (a0), .long (a1)])).length) Slot.unset).toArray = ls at hl ⊢
  have hl : lv_has ls 10 [(0, .ref (h0)), (1, .long (a0)), (3, .long (a1))] := hl
  have J104 : ∀ (n : Nat) (x5 : Int64) (x7 : Int32) (x8 : Int32) (y_th : Int32) (y_pf : (Nat → Int32)) (y_of : (Nat → Int32)) (y_sz : Int32) (y_bg : Int32) (H : Heap) (locs : List Loc) (ls : Array Slot), va_P (dC, dI) cls2 (wM cI h0 rw pt ou y_th mR y_pf y_of y_sz y_bg) H → va_S (aM h0 rw pt ou) s.heap H locs → lv_has ls 10 [(0, .ref (h0)), (1, .long (a0)), (3, .long (a1)), (5, .long (x5)), (7, .int (x7)), (8, .int (x8))] → f_M_named_L104 w_th w_pf w_of w_sz w_bg a0 a1  n x5 x7 x8 y_th y_pf y_of y_sz y_bg = some r → wW p l e (headSpec (Cond.code y_M_named b_M_named 10 (Option.some FieldType.int) :: aw) ({ frames := 1, cells := 0, slots := 0, locals := 20 } : Room)).room s m ([.ref (h0), .long (a0), .long (a1)] : List Value).toArray below meth c (va_Qi (fun v u => v = r.1 ∧ u = r.2) (fun (u : Int32 × (Nat → Int32) × (Nat → Int32) × Int32 × Int32) t => va_P (dC, dI) cls2 (wM cI h0 rw pt ou u.1 mR u.2.1 u.2.2.1 u.2.2.2.1 u.2.2.2.2) t.heap) (aM h0 rw pt ou)) (aM h0 rw pt ou) H locs (F0 m 104 ls []) := by
    intro n
    induction n with
    | zero =>
      intro x5 x7 x8 y_th y_pf y_of y_sz y_bg H locs ls hP hS hl hf
      rw [f_M_named_L104] at hf
      cases hf
    | succ n ih =>
      intro x5 x7 x8 y_th y_pf y_of y_sz y_bg H locs ls hP hS hl hf
      rw [f_M_named_L104] at hf
      have hD : va_D (aM h0 rw pt ou) (wM cI h0 rw pt ou y_th mR y_pf y_of y_sz y_bg) := dD hD0 rfl
      refine lv_iload hx hb d_M_named_104 (lv_at hl 5 rfl) ?_
      refine lv_bipush (v := 75) hx hb d_M_named_106 (by decide) ?_
      refine lv_icmp_ge (tgt := 131) hx hb d_M_named_108 (by decide) (fun c_2 => ?_) (fun c_2 => ?_)
      · replace hf := (if_pos c_2).symm.trans hf
        refine lv_iconst (v := (-1)) hx hb d_M_named_131 (by decide) ?_
        exact W.iret (v := (-1)) hx hb hr (fun t ht hW => ⟨⟨_, (y_th, y_pf, y_of, y_sz, y_bg), rfl, ⟨congrArg (fun z => z.1) (Option.some.inj hf), congrArg (fun z => z.2) (Option.some.inj hf)⟩, by rw [← ht] at hP; exact hP⟩, hS.F ht⟩) hS.2.2 d_M_named_132
      · replace hf := (if_neg c_2).symm.trans hf
        refine lv_iload hx hb d_M_named_111 (lv_at hl 5 rfl) ?_
        obtain ⟨r_3, g_4, hf⟩ := Option.bind_eq_some_iff.mp hf
        refine ju_calll (W.runS (As := [.int (x8)]) (rest := []) ⟨hx, hb, hml, hown, hts⟩ (c_M_nameOf l (ad := ad) (sk := sk) (sv := sv) (tK := tK)  x8  r_3 g_4) (va_cwS 1 hts (aw_S aw_578 aw_579 aw_2 aw_580) rfl rfl rfl (by decide +kernel) ⟨Nat.le_of_ble_eq_true rfl, Nat.le_of_ble_eq_true rfl⟩) ⟨fun a U g mk q => ⟨q.1, q.2.call⟩, fun U hU hW => ⟨rfl, hT.at hS hU hW (fun _ z => z.elim)⟩⟩ rfl rfl hl.1 rfl (lv_room (Nat.le_of_ble_eq_true rfl)) d_M_named_113 ⟨Nat.le_refl _, Nat.le_refl _⟩) ?_
        refine lv_lload hx hb d_M_named_116 (lv_at hl 3 rfl) ?_
        refine W.lcmp hx hb d_M_named_118 ?_
        refine lv_if_ne (tgt := 125) hx hb d_M_named_119 (by decide) (fun c_5 => ?_) (fun c_5 => ?_)
        · replace hf := (if_neg c_5).symm.trans hf
          refine lv_iinc (v := x8 + 1) (lv' := [(8, .int (x8 + 1)), (0, .ref (h0)), (1, .long (a0)), (3, .long (a1)), (5, .long (x5)), (7, .int (x7))]) hx hb d_M_named_125 hl (k := 5) rfl rfl (by decide) rfl (fun ls hl => ?_)
          refine lv_goto (tgt := 104) hx hb d_M_named_128 (by decide) ?_
          exact ih x5 x7 (x8 + 1) y_th y_pf y_of y_sz y_bg _ _ _ hP hS (lv_sub hl [1, 2, 3, 4, 5, 0] rfl) hf
        · replace hf := (if_pos c_5).symm.trans hf
          refine lv_iload hx hb d_M_named_122 (lv_at hl 5 rfl) ?_
          exact W.iret (v := x8) hx hb hr (fun t ht hW => ⟨⟨_, (y_th, y_pf, y_of, y_sz, y_bg), rfl, ⟨congrArg (fun z => z.1) (Option.some.inj hf), congrArg (fun z => z.2) (Option.some.inj hf)⟩, by rw [← ht] at hP; exact hP⟩, hS.F ht⟩) hS.2.2 d_M_named_124
  have J14 : ∀ (n : Nat) (x5 : Int64) (x7 : Int32) (x8 : Int32) (y_th : Int32) (y_pf : (Nat → Int32)) (y_of : (Nat → Int32)) (y_sz : Int32) (y_bg : Int32) (H : Heap) (locs : List Loc) (ls : Array Slot), va_P (dC, dI) cls2 (wM cI h0 rw pt ou y_th mR y_pf y_of y_sz y_bg) H → va_S (aM h0 rw pt ou) s.heap H locs → lv_has ls 10 [(0, .ref (h0)), (1, .long (a0)), (3, .long (a1)), (5, .long (x5)), (7, .int (x7)), (8, .int (x8))] → f_M_named_L14 w_th w_pf w_of w_sz w_bg a0 a1  n x5 x7 x8 y_th y_pf y_of y_sz y_bg = some r → wW p l e (headSpec (Cond.code y_M_named b_M_named 10 (Option.some FieldType.int) :: aw) ({ frames := 1, cells := 0, slots := 0, locals := 20 } : Room)).room s m ([.ref (h0), .long (a0), .long (a1)] : List Value).toArray below meth c (va_Qi (fun v u => v = r.1 ∧ u = r.2) (fun (u : Int32 × (Nat → Int32) × (Nat → Int32) × Int32 × Int32) t => va_P (dC, dI) cls2 (wM cI h0 rw pt ou u.1 mR u.2.1 u.2.2.1 u.2.2.2.1 u.2.2.2.2) t.heap) (aM h0 rw pt ou)) (aM h0 rw pt ou) H locs (F0 m 14 ls []) := by
    intro n
    induction n with
    | zero =>
      intro x5 x7 x8 y_th y_pf y_of y_sz y_bg H locs ls hP hS hl hf
      rw [f_M_named_L14] at hf
      cases hf
    | succ n ih =>
      intro x5 x7 x8 y_th y_pf y_of y_sz y_bg H locs ls hP hS hl hf
      rw [f_M_named_L14] at hf
      have hD : va_D (aM h0 rw pt ou) (wM cI h0 rw pt ou y_th mR y_pf y_of y_sz y_bg) := dD hD0 rfl
      have J33 : ∀ (x5 : Int64) (x7 : Int32) (x8 : Int32) (t0 : Int64) (y_th : Int32) (y_pf : (Nat → Int32)) (y_of : (Nat → Int32)) (y_sz : Int32) (y_bg : Int32) (H : Heap) (locs : List Loc) (ls : Array Slot), va_P (dC, dI) cls2 (wM cI h0 rw pt ou y_th mR y_pf y_of y_sz y_bg) H → va_S (aM h0 rw pt ou) s.heap H locs → lv_has ls 10 [(0, .ref (h0)), (1, .long (a0)), (3, .long (a1)), (5, .long (x5)), (7, .int (x7)), (8, .int (x8))] → f_M_named_L33 w_th w_pf w_of w_sz w_bg a0 a1 (fun y0 y1 y2 y3 y4 y5 y6 y7 => f_M_named_L14 w_th w_pf w_of w_sz w_bg a0 a1  n y0 y1 y2 y3 y4 y5 y6 y7) x5 x7 x8 t0 y_th y_pf y_of y_sz y_bg = some r → wW p l e (headSpec (Cond.code y_M_named b_M_named 10 (Option.some FieldType.int) :: aw) ({ frames := 1, cells := 0, slots := 0, locals := 20 } : Room)).room s m ([.ref (h0), .long (a0), .long (a1)] : List Value).toArray below meth c (va_Qi (fun v u => v = r.1 ∧ u = r.2) (fun (u : Int32 × (Nat → Int32) × (Nat → Int32) × Int32 × Int32) t => va_P (dC, dI) cls2 (wM cI h0 rw pt ou u.1 mR u.2.1 u.2.2.1 u.2.2.2.1 u.2.2.2.2) t.heap) (aM h0 rw pt ou)) (aM h0 rw pt ou) H locs (F0 m 33 ls [.long (t0)]) := by
        intro x5 x7 x8 t0 y_th y_pf y_of y_sz y_bg H locs ls hP hS hl hf
        rw [f_M_named_L33] at hf
        have hD : va_D (aM h0 rw pt ou) (wM cI h0 rw pt ou y_th mR y_pf y_of y_sz y_bg) := dD hD0 rfl
        refine lv_bipush (v := 56) hx hb d_M_named_33 (by decide) ?_
        refine lv_bipush (v := 8) hx hb d_M_named_35 (by decide) ?_
        refine lv_iload hx hb d_M_named_37 (lv_at hl 5 rfl) ?_
        refine lv_bipush (v := 8) hx hb d_M_named_39 (by decide) ?_
        refine lv_irem hx hb d_M_named_41 (by decide) ?_
        refine lv_imul hx hb d_M_named_42 ?_
        refine lv_isub hx hb d_M_named_43 ?_
        refine lv_lshr (v := ju_lshr t0 (56 - (8 * (x8 - x8 / 8 * 8)))) hx hb d_M_named_44 rfl ?_
        refine lv_ldc2 (v := 255) hx hb hown (ht aw_751) d_M_named_45 ?_
        refine lv_land hx hb d_M_named_48 ?_
        refine lv_l2i (v := ((ju_lshr t0 (56 - (8 * (x8 - x8 / 8 * 8)))) &&& 255).toInt32) hx hb d_M_named_49 rfl ?_
        refine lv_istore (lv' := [(9, .int (((ju_lshr t0 (56 - (8 * (x8 - x8 / 8 * 8)))) &&& 255).toInt32)), (0, .ref (h0)), (1, .long (a0)), (3, .long (a1)), (5, .long (x5)), (7, .int (x7)), (8, .int (x8))]) hx hb d_M_named_50 hl (by decide) rfl (fun ls hl => ?_)
        refine lv_iload hx hb d_M_named_52 (lv_at hl 0 rfl) ?_
        refine lv_if_ne (tgt := 60) hx hb d_M_named_54 (by decide) (fun c_7 => ?_) (fun c_7 => ?_)
        · replace hf := (if_neg c_7).symm.trans hf
          refine lv_iload hx hb d_M_named_60 (lv_at hl 0 rfl) ?_
          obtain ⟨r_8, g_9, hf⟩ := Option.bind_eq_some_iff.mp hf
          refine ju_calli (W.runS (As := [.int (((ju_lshr t0 (56 - (8 * (x8 - x8 / 8 * 8)))) &&& 255).toInt32)]) (rest := []) ⟨hx, hb, hml, hown, hts⟩ (c_M_codeOf l (ad := ad) (sk := sk) (sv := sv) (tK := tK)  (((ju_lshr t0 (56 - (8 * (x8 - x8 / 8 * 8)))) &&& 255).toInt32)  r_8 g_9) (va_cwS 1 hts (aw_S aw_752 aw_753 aw_2 aw_754) rfl rfl rfl (by decide +kernel) ⟨Nat.le_of_ble_eq_true rfl, Nat.le_of_ble_eq_true rfl⟩) ⟨fun a U g mk q => ⟨q.1, q.2.call⟩, fun U hU hW => ⟨rfl, hT.at hS hU hW (fun _ z => z.elim)⟩⟩ rfl rfl hl.1 rfl (lv_room (Nat.le_of_ble_eq_true rfl)) d_M_named_62 ⟨Nat.le_refl _, Nat.le_refl _⟩) ?_
          refine lv_if_eq (tgt := 75) hx hb d_M_named_65 (by decide) (fun c_10 => ?_) (fun c_10 => ?_)
          · replace hf := (if_pos c_10).symm.trans hf
            refine lv_iconst (v := (-1)) hx hb d_M_named_75 (by decide) ?_
            exact W.iret (v := (-1)) hx hb hr (fun t ht hW => ⟨⟨_, (y_th, y_pf, y_of, y_sz, y_bg), rfl, ⟨congrArg (fun z => z.1) (Option.some.inj hf), congrArg (fun z => z.2) (Option.some.inj hf)⟩, by rw [← ht] at hP; exact hP⟩, hS.F ht⟩) hS.2.2 d_M_named_76
          · replace hf := (if_neg c_10).symm.trans hf
            refine lv_iload hx hb d_M_named_68 (lv_at hl 5 rfl) ?_
            refine lv_bipush (v := 11) hx hb d_M_named_70 (by decide) ?_
            refine lv_icmp_ne (tgt := 77) hx hb d_M_named_72 (by decide) (fun c_11 => ?_) (fun c_11 => ?_)
            · replace hf := (if_neg c_11).symm.trans hf
              refine lv_ldc2 (v := 40) hx hb hown (ht aw_663) d_M_named_77 ?_
              refine lv_lload hx hb d_M_named_80 (lv_at hl 4 rfl) ?_
              refine lv_lmul hx hb d_M_named_82 ?_
              refine lv_iload hx hb d_M_named_83 (lv_at hl 0 rfl) ?_
              obtain ⟨r_12, g_13, hf⟩ := Option.bind_eq_some_iff.mp hf
              refine ju_calli (W.runS (As := [.int (((ju_lshr t0 (56 - (8 * (x8 - x8 / 8 * 8)))) &&& 255).toInt32)]) (rest := [.long (40 * x5)]) ⟨hx, hb, hml, hown, hts⟩ (c_M_codeOf l (ad := ad) (sk := sk) (sv := sv) (tK := tK)  (((ju_lshr t0 (56 - (8 * (x8 - x8 / 8 * 8)))) &&& 255).toInt32)  r_12 g_13) (va_cwS 1 hts (aw_S aw_752 aw_753 aw_2 aw_754) rfl rfl rfl (by decide +kernel) ⟨Nat.le_of_ble_eq_true rfl, Nat.le_of_ble_eq_true rfl⟩) ⟨fun a U g mk q => ⟨q.1, q.2.call⟩, fun U hU hW => ⟨rfl, hT.at hS hU hW (fun _ z => z.elim)⟩⟩ rfl rfl hl.1 rfl (lv_room (Nat.le_of_ble_eq_true rfl)) d_M_named_85 ⟨Nat.le_refl _, Nat.le_refl _⟩) ?_
              refine lv_i2l (v := r_12.toInt64) hx hb d_M_named_88 rfl ?_
              refine lv_ladd hx hb d_M_named_89 ?_
              refine lv_lstore (lv' := [(5, .long ((40 * x5) + r_12.toInt64)), (9, .int (((ju_lshr t0 (56 - (8 * (x8 - x8 / 8 * 8)))) &&& 255).toInt32)), (0, .ref (h0)), (1, .long (a0)), (3, .long (a1)), (7, .int (x7)), (8, .int (x8))]) hx hb d_M_named_90 hl (by decide) rfl (fun ls hl => ?_)
              refine lv_iinc (v := x7 + 1) (lv' := [(7, .int (x7 + 1)), (5, .long ((40 * x5) + r_12.toInt64)), (9, .int (((ju_lshr t0 (56 - (8 * (x8 - x8 / 8 * 8)))) &&& 255).toInt32)), (0, .ref (h0)), (1, .long (a0)), (3, .long (a1)), (8, .int (x8))]) hx hb d_M_named_92 hl (k := 5) rfl rfl (by decide) rfl (fun ls hl => ?_)
              refine lv_iinc (v := x8 + 1) (lv' := [(8, .int (x8 + 1)), (7, .int (x7 + 1)), (5, .long ((40 * x5) + r_12.toInt64)), (9, .int (((ju_lshr t0 (56 - (8 * (x8 - x8 / 8 * 8)))) &&& 255).toInt32)), (0, .ref (h0)), (1, .long (a0)), (3, .long (a1))]) hx hb d_M_named_95 hl (k := 6) rfl rfl (by decide) rfl (fun ls hl => ?_)
              refine lv_goto (tgt := 14) hx hb d_M_named_98 (by decide) ?_
              exact ih ((40 * x5) + r_12.toInt64) (x7 + 1) (x8 + 1) y_th y_pf y_of y_sz y_bg _ _ _ hP hS (lv_sub hl [4, 5, 6, 2, 1, 0] rfl) hf
            · replace hf := (if_pos c_11).symm.trans hf
              refine lv_iconst (v := (-1)) hx hb d_M_named_75 (by decide) ?_
              exact W.iret (v := (-1)) hx hb hr (fun t ht hW => ⟨⟨_, (y_th, y_pf, y_of, y_sz, y_bg), rfl, ⟨congrArg (fun z => z.1) (Option.some.inj hf), congrArg (fun z => z.2) (Option.some.inj hf)⟩, by rw [← ht] at hP; exact hP⟩, hS.F ht⟩) hS.2.2 d_M_named_76
        · replace hf := (if_pos c_7).symm.trans hf
          refine lv_goto (tgt := 95) hx hb d_M_named_57 (by decide) ?_
          refine lv_iinc (v := x8 + 1) (lv' := [(8, .int (x8 + 1)), (9, .int (((ju_lshr t0 (56 - (8 * (x8 - x8 / 8 * 8)))) &&& 255).toInt32)), (0, .ref (h0)), (1, .long (a0)), (3, .long (a1)), (5, .long (x5)), (7, .int (x7))]) hx hb d_M_named_95 hl (k := 6) rfl rfl (by decide) rfl (fun ls hl => ?_)
          refine lv_goto (tgt := 14) hx hb d_M_named_98 (by decide) ?_
          exact ih x5 x7 (x8 + 1) y_th y_pf y_of y_sz y_bg _ _ _ hP hS (lv_sub hl [2, 3, 4, 5, 6, 0] rfl) hf
      refine lv_iload hx hb d_M_named_14 (lv_at hl 5 rfl) ?_
      refine lv_bipush (v := 16) hx hb d_M_named_16 (by decide) ?_
      refine lv_icmp_ge (tgt := 101) hx hb d_M_named_18 (by decide) (fun c_1 => ?_) (fun c_1 => ?_)
      · replace hf := (if_pos c_1).symm.trans hf
        refine lv_iconst (v := 0) hx hb d_M_named_101 (by decide) ?_
        refine lv_istore (lv' := [(8, .int (0)), (0, .ref (h0)), (1, .long (a0)), (3, .long (a1)), (5, .long (x5)), (7, .int (x7))]) hx hb d_M_named_102 hl (by decide) rfl (fun ls hl => ?_)
        exact J104 80 x5 x7 0 y_th y_pf y_of y_sz y_bg _ _ _ hP hS (lv_sub hl [1, 2, 3, 4, 5, 0] rfl) hf
      · replace hf := (if_neg c_1).symm.trans hf
        refine lv_iload hx hb d_M_named_21 (lv_at hl 5 rfl) ?_
        refine lv_bipush (v := 8) hx hb d_M_named_23 (by decide) ?_
        refine lv_icmp_ge (tgt := 32) hx hb d_M_named_25 (by decide) (fun c_6 => ?_) (fun c_6 => ?_)
        · replace hf := (if_pos c_6).symm.trans hf
          refine lv_lload_n hx hb d_M_named_32 rfl (lv_at hl 2 rfl) ?_
          exact J33 x5 x7 x8 a1 y_th y_pf y_of y_sz y_bg _ _ _ hP hS (lv_sub hl [0, 1, 2, 3, 4, 5] rfl) hf
        · replace hf := (if_neg c_6).symm.trans hf
          refine lv_lload_n hx hb d_M_named_28 rfl (lv_at hl 1 rfl) ?_
          refine lv_goto (tgt := 33) hx hb d_M_named_29 (by decide) ?_
          exact J33 x5 x7 x8 a0 y_th y_pf y_of y_sz y_bg _ _ _ hP hS (lv_sub hl [0, 1, 2, 3, 4, 5] rfl) hf
  rw [f_M_named] at hf
  refine lv_aload_n hx hb d_M_named_0 rfl (lv_at hl 0 rfl) ?_
  refine lv_iconst (v := 0) hx hb d_M_named_1 (by decide) ?_
  refine va_put (D := (dC, dI)) (ci := 1) (v := .int (0)) (ty := .int) (C := "CodeWordsModel") (T := F_M) (N := 6) hx hb hts (in_M _) ty_M tyok_M nm_M hown hK hP hD hS 0 rfl rfl 0 (by decide) (ht aw_439) (fun _ h9 => h9) rfl (by decide +kernel) rfl rfl (Nat.le_of_ble_eq_true rfl) d_M_named_2 (fun H locs hP hD hS => ?_)
  have hP : va_P (dC, dI) cls2 (wM cI h0 rw pt ou 0 mR w_pf w_of w_sz w_bg) H := hP
  have hD : va_D (aM h0 rw pt ou) (wM cI h0 rw pt ou 0 mR w_pf w_of w_sz w_bg) := hD
  refine lv_lconst (v := 0) hx hb d_M_named_5 (by decide) ?_
  refine lv_lstore (lv' := [(5, .long (0)), (0, .ref (h0)), (1, .long (a0)), (3, .long (a1))]) hx hb d_M_named_6 hl (by decide) rfl (fun ls hl => ?_)
  refine lv_iconst (v := 0) hx hb d_M_named_8 (by decide) ?_
  refine lv_istore (lv' := [(7, .int (0)), (5, .long (0)), (0, .ref (h0)), (1, .long (a0)), (3, .long (a1))]) hx hb d_M_named_9 hl (by decide) rfl (fun ls hl => ?_)
  refine lv_iconst (v := 0) hx hb d_M_named_11 (by decide) ?_
  refine lv_istore (lv' := [(8, .int (0)), (7, .int (0)), (5, .long (0)), (0, .ref (h0)), (1, .long (a0)), (3, .long (a1))]) hx hb d_M_named_12 hl (by decide) rfl (fun ls hl => ?_)
  exact J14 80 0 0 0 0 w_pf w_of w_sz w_bg _ _ _ hP hS (lv_sub hl [3, 4, 5, 2, 1, 0] rfl) hf

def f_M_about_L19 (w_th : Int32) (w_pf : Nat → Int32) (w_of : Nat → Int32) (w_sz : Int32) (w_bg : Int32) (a0 : Int32) (a1 : Int32)  : Nat → Int32 → Int32 → Int32 → (Nat → Int32) → (Nat → Int32) → Int32 → Int32 → Option (Int32 × Int32 × (Nat → Int32) × (Nat → Int32) × Int32 × Int32)
  | 0, _, _, _, _, _, _, _ => none
  | n + 1, x3, x4, y_th, y_pf, y_of, y_sz, y_bg =>
    if 4 ≤ x4 then (if a1 = 0 then ((f_M_patternOf a0).bind fun r_6 => some (r_6, y_th, y_pf, y_of, y_sz, y_bg)) else ( if a1 = 1 then (some (x3, y_th, y_pf, y_of, y_sz, y_bg)) else ( if a1 = 2 then (if 48 ≤ a0 then (some (2, y_th, y_pf, y_of, y_sz, y_bg)) else (some (4, y_th, y_pf, y_of, y_sz, y_bg))) else ( if a1 = 3 then ((f_M_nameOf a0).bind fun r_12 => (f_M_lettersOf r_12).bind fun r_14 => some (r_14, y_th, y_pf, y_of, y_sz, y_bg)) else (some ((-1), y_th, y_pf, y_of, y_sz, y_bg)))))) else ((f_M_has y_th y_pf y_of y_sz y_bg a0 x4).bind fun r_16 => if (bI r_16) = 0 then (f_M_about_L19 w_th w_pf w_of w_sz w_bg a0 a1  n (x3 + 0) (x4 + 1) y_th y_pf y_of y_sz y_bg) else (f_M_about_L19 w_th w_pf w_of w_sz w_bg a0 a1  n (x3 + ((1 : Int32) <<< (x4 &&& 31))) (x4 + 1) y_th y_pf y_of y_sz y_bg))
def f_M_about (w_th : Int32) (w_pf : Nat → Int32) (w_of : Nat → Int32) (w_sz : Int32) (w_bg : Int32) (a0 : Int32) (a1 : Int32) : Option (Int32 × Int32 × (Nat → Int32) × (Nat → Int32) × Int32 × Int32) :=
  (f_M_isKind a0).bind fun r_1 => if (bI r_1) = 0 then (some ((-1), 0, w_pf, w_of, w_sz, w_bg)) else (f_M_about_L19 w_th w_pf w_of w_sz w_bg a0 a1  80 0 0 0 w_pf w_of w_sz w_bg)
set_option maxHeartbeats 1000000 in
set_option maxRecDepth 100000 in
theorem c_M_about (l : Launch) {ad sk sv : Nat → Nat} {tK : Nat} (dC : Nat → ClassId) (dI : Nat → Nat → Nat) (cI : ClassId) (h0 rw pt ou : Nat) (w_th : Int32) (w_pf : Nat → Int32) (w_of : Nat → Int32) (w_sz : Int32) (w_bg : Int32) (a0 : Int32) (a1 : Int32)  (r : Int32 × Int32 × (Nat → Int32) × (Nat → Int32) × Int32 × Int32) (hf : f_M_about w_th w_pf w_of w_sz w_bg a0 a1 = some r) : Met l y_M_about (Cond.code y_M_about b_M_about 5 (Option.some FieldType.int) :: aw) ({ frames := 2, cells := 0, slots := 0, locals := 44 } : Room) (va_Pc [.ref (h0), .int (a0), .int (a1)] (fun U => va_P (dC, dI) cls2 (wM cI h0 rw pt ou w_th mR w_pf w_of w_sz w_bg) U.heap ∧ va_K (dC, dI) cls2 [(cI, .int)] U ∧ va_D (aM h0 rw pt ou) (wM cI h0 rw pt ou w_th mR w_pf w_of w_sz w_bg) ∧ tb ad sk sv tK (aM h0 rw pt ou) U U.heap)) (va_Qi (fun v u => v = r.1 ∧ u = r.2) (fun (u : Int32 × (Nat → Int32) × (Nat → Int32) × Int32 × Int32) t => va_P (dC, dI) cls2 (wM cI h0 rw pt ou u.1 mR u.2.1 u.2.2.1 u.2.2.2.1 u.2.2.2.2) t.heap) (aM h0 rw pt ou)) 0 0 (aM h0 rw pt ou) := by
  refine Met.ofW (cc := b_M_about) (maxL := 5) (ret := (Option.some FieldType.int)) (by decide) rfl ?_
  intro p e s m args below meth c s₁ B hml hv
  obtain ⟨rfl, hP, hK, hD, hT⟩ := hv
  have hD0 := hD
  have hx := B.exec
  have hb := B.bytes
  have hr := B.returns
  have hts := atoms_spec (ws := (Cond.code y_M_about b_M_about 5 (Option.some FieldType.int) :: aw)) B.pre
  have ht : ∀ {w : Cond}, w ∈ aw → w.before ([.ref (h0), .int (a0), .int (a1)] : List Value).toArray s = true := fun h => hts _ (List.mem_cons_of_mem _ h)
  have hown : s.vm.findClass "CodeWordsModel" = some m.cls := findClass_of_methodNamed B.named
  have hlocks := B.notSynchronized
  have hS : va_S (aM h0 rw pt ou) s.heap s.heap [] := va_S.rf
  have hl := lv_entry ([.ref (h0), .int (a0), .int (a1)]) (n := 5) (Nat.le_of_ble_eq_true rfl)
  rw [lg_entry_eq]
  generalize (lg_sl ([.ref (h0), .int (a0), .int (a1)]) ++ List.replicate (5 - (lg_sl ([.ref (h0), .int (a0), .int (a1)])).length) Slot.unset).toArray = ls at hl ⊢
  have hl : lv_has ls 5 [(0, .ref (h0)), (1, .int (a0)), (2, .int (a1))] := hl
  have J19 : ∀ (n : Nat) (x3 : Int32) (x4 : Int32) (y_th : Int32) (y_pf : (Nat → Int32)) (y_of : (Nat → Int32)) (y_sz : Int32) (y_bg : Int32) (H : Heap) (locs : List Loc) (ls : Array Slot), va_P (dC, dI) cls2 (wM cI h0 rw pt ou y_th mR y_pf y_of y_sz y_bg) H → va_S (aM h0 rw pt ou) s.heap H locs → lv_has ls 5 [(0, .ref (h0)), (1, .int (a0)), (2, .int (a1)), (3, .int (x3)), (4, .int (x4))] → f_M_about_L19 w_th w_pf w_of w_sz w_bg a0 a1  n x3 x4 y_th y_pf y_of y_sz y_bg = some r → wW p l e (headSpec (Cond.code y_M_about b_M_about 5 (Option.some FieldType.int) :: aw) ({ frames := 2, cells := 0, slots := 0, locals := 44 } : Room)).room s m ([.ref (h0), .int (a0), .int (a1)] : List Value).toArray below meth c (va_Qi (fun v u => v = r.1 ∧ u = r.2) (fun (u : Int32 × (Nat → Int32) × (Nat → Int32) × Int32 × Int32) t => va_P (dC, dI) cls2 (wM cI h0 rw pt ou u.1 mR u.2.1 u.2.2.1 u.2.2.2.1 u.2.2.2.2) t.heap) (aM h0 rw pt ou)) (aM h0 rw pt ou) H locs (F0 m 19 ls []) := by
    intro n
    induction n with
    | zero =>
      intro x3 x4 y_th y_pf y_of y_sz y_bg H locs ls hP hS hl hf
      rw [f_M_about_L19] at hf
      cases hf
    | succ n ih =>
      intro x3 x4 y_th y_pf y_of y_sz y_bg H locs ls hP hS hl hf
      rw [f_M_about_L19] at hf
      have hD : va_D (aM h0 rw pt ou) (wM cI h0 rw pt ou y_th mR y_pf y_of y_sz y_bg) := dD hD0 rfl
      refine lv_iload hx hb d_M_about_19 (lv_at hl 4 rfl) ?_
      refine lv_iconst (v := 4) hx hb d_M_about_21 (by decide) ?_
      refine lv_icmp_ge (tgt := 52) hx hb d_M_about_22 (by decide) (fun c_4 => ?_) (fun c_4 => ?_)
      · replace hf := (if_pos c_4).symm.trans hf
        refine lv_iload_n hx hb d_M_about_52 rfl (lv_at hl 2 rfl) ?_
        by_cases c_5 : a1 = 0
        · replace hf := (if_pos c_5).symm.trans hf
          refine lv_tableIn (tgt := 84) hx hb d_M_about_53 (by rw [c_5]; decide) (by rw [c_5]; decide) (by rw [c_5] <;> rfl) (by decide) ?_
          refine lv_iload_n hx hb d_M_about_84 rfl (lv_at hl 1 rfl) ?_
          obtain ⟨r_6, g_7, hf⟩ := Option.bind_eq_some_iff.mp hf
          refine ju_calli (W.runS (As := [.int (a0)]) (rest := []) ⟨hx, hb, hml, hown, hts⟩ (c_M_patternOf l (ad := ad) (sk := sk) (sv := sv) (tK := tK)  a0  r_6 g_7) (va_cwS 1 hts (aw_S aw_668 aw_669 aw_2 aw_670) rfl rfl rfl (by decide +kernel) ⟨Nat.le_of_ble_eq_true rfl, Nat.le_of_ble_eq_true rfl⟩) ⟨fun a U g mk q => ⟨q.1, q.2.call⟩, fun U hU hW => ⟨rfl, hT.at hS hU hW (fun _ z => z.elim)⟩⟩ rfl rfl hl.1 rfl (lv_room (Nat.le_of_ble_eq_true rfl)) d_M_about_85 ⟨Nat.le_refl _, Nat.le_refl _⟩) ?_
          exact W.iret (v := r_6) hx hb hr (fun t ht hW => ⟨⟨_, (y_th, y_pf, y_of, y_sz, y_bg), rfl, ⟨congrArg (fun z => z.1) (Option.some.inj hf), congrArg (fun z => z.2) (Option.some.inj hf)⟩, by rw [← ht] at hP; exact hP⟩, hS.F ht⟩) hS.2.2 d_M_about_88
        · replace hf := (if_neg c_5).symm.trans hf
          by_cases c_8 : a1 = 1
          · replace hf := (if_pos c_8).symm.trans hf
            refine lv_tableIn (tgt := 89) hx hb d_M_about_53 (by rw [c_8]; decide) (by rw [c_8]; decide) (by rw [c_8] <;> rfl) (by decide) ?_
            refine lv_iload_n hx hb d_M_about_89 rfl (lv_at hl 3 rfl) ?_
            exact W.iret (v := x3) hx hb hr (fun t ht hW => ⟨⟨_, (y_th, y_pf, y_of, y_sz, y_bg), rfl, ⟨congrArg (fun z => z.1) (Option.some.inj hf), congrArg (fun z => z.2) (Option.some.inj hf)⟩, by rw [← ht] at hP; exact hP⟩, hS.F ht⟩) hS.2.2 d_M_about_90
          · replace hf := (if_neg c_8).symm.trans hf
            by_cases c_9 : a1 = 2
            · replace hf := (if_pos c_9).symm.trans hf
              refine lv_tableIn (tgt := 91) hx hb d_M_about_53 (by rw [c_9]; decide) (by rw [c_9]; decide) (by rw [c_9] <;> rfl) (by decide) ?_
              refine lv_iload_n hx hb d_M_about_91 rfl (lv_at hl 1 rfl) ?_
              refine lv_bipush (v := 48) hx hb d_M_about_92 (by decide) ?_
              refine lv_icmp_ge (tgt := 101) hx hb d_M_about_94 (by decide) (fun c_10 => ?_) (fun c_10 => ?_)
              · replace hf := (if_pos c_10).symm.trans hf
                refine lv_iconst (v := 2) hx hb d_M_about_101 (by decide) ?_
                exact W.iret (v := 2) hx hb hr (fun t ht hW => ⟨⟨_, (y_th, y_pf, y_of, y_sz, y_bg), rfl, ⟨congrArg (fun z => z.1) (Option.some.inj hf), congrArg (fun z => z.2) (Option.some.inj hf)⟩, by rw [← ht] at hP; exact hP⟩, hS.F ht⟩) hS.2.2 d_M_about_102
              · replace hf := (if_neg c_10).symm.trans hf
                refine lv_iconst (v := 4) hx hb d_M_about_97 (by decide) ?_
                refine lv_goto (tgt := 102) hx hb d_M_about_98 (by decide) ?_
                exact W.iret (v := 4) hx hb hr (fun t ht hW => ⟨⟨_, (y_th, y_pf, y_of, y_sz, y_bg), rfl, ⟨congrArg (fun z => z.1) (Option.some.inj hf), congrArg (fun z => z.2) (Option.some.inj hf)⟩, by rw [← ht] at hP; exact hP⟩, hS.F ht⟩) hS.2.2 d_M_about_102
            · replace hf := (if_neg c_9).symm.trans hf
              by_cases c_11 : a1 = 3
              · replace hf := (if_pos c_11).symm.trans hf
                refine lv_tableIn (tgt := 103) hx hb d_M_about_53 (by rw [c_11]; decide) (by rw [c_11]; decide) (by rw [c_11] <;> rfl) (by decide) ?_
                refine lv_iload_n hx hb d_M_about_103 rfl (lv_at hl 1 rfl) ?_
                obtain ⟨r_12, g_13, hf⟩ := Option.bind_eq_some_iff.mp hf
                refine ju_calll (W.runS (As := [.int (a0)]) (rest := []) ⟨hx, hb, hml, hown, hts⟩ (c_M_nameOf l (ad := ad) (sk := sk) (sv := sv) (tK := tK)  a0  r_12 g_13) (va_cwS 1 hts (aw_S aw_578 aw_579 aw_2 aw_580) rfl rfl rfl (by decide +kernel) ⟨Nat.le_of_ble_eq_true rfl, Nat.le_of_ble_eq_true rfl⟩) ⟨fun a U g mk q => ⟨q.1, q.2.call⟩, fun U hU hW => ⟨rfl, hT.at hS hU hW (fun _ z => z.elim)⟩⟩ rfl rfl hl.1 rfl (lv_room (Nat.le_of_ble_eq_true rfl)) d_M_about_104 ⟨Nat.le_refl _, Nat.le_refl _⟩) ?_
                obtain ⟨r_14, g_15, hf⟩ := Option.bind_eq_some_iff.mp hf
                refine ju_calli (W.runS (As := [.long (r_12)]) (rest := []) ⟨hx, hb, hml, hown, hts⟩ (c_M_lettersOf l (ad := ad) (sk := sk) (sv := sv) (tK := tK)  r_12  r_14 g_15) (va_cwS 1 hts (aw_S aw_660 aw_661 aw_2 aw_662) rfl rfl rfl (by decide +kernel) ⟨Nat.le_of_ble_eq_true rfl, Nat.le_of_ble_eq_true rfl⟩) ⟨fun a U g mk q => ⟨q.1, q.2.call⟩, fun U hU hW => ⟨rfl, hT.at hS hU hW (fun _ z => z.elim)⟩⟩ rfl rfl hl.1 rfl (lv_room (Nat.le_of_ble_eq_true rfl)) d_M_about_107 ⟨Nat.le_refl _, Nat.le_refl _⟩) ?_
                exact W.iret (v := r_14) hx hb hr (fun t ht hW => ⟨⟨_, (y_th, y_pf, y_of, y_sz, y_bg), rfl, ⟨congrArg (fun z => z.1) (Option.some.inj hf), congrArg (fun z => z.2) (Option.some.inj hf)⟩, by rw [← ht] at hP; exact hP⟩, hS.F ht⟩) hS.2.2 d_M_about_110
              · replace hf := (if_neg c_11).symm.trans hf
                refine lv_tableOut (tgt := 111) hx hb d_M_about_53 (by have q0 := lv_neT c_5 (k := 0) (a := 0) rfl; have q1 := lv_neT c_8 (k := 1) (a := 1) rfl; have q2 := lv_neT c_9 (k := 2) (a := 2) rfl; have q3 := lv_neT c_11 (k := 3) (a := 3) rfl; omega) (by decide) ?_
                refine lv_iconst (v := (-1)) hx hb d_M_about_111 (by decide) ?_
                exact W.iret (v := (-1)) hx hb hr (fun t ht hW => ⟨⟨_, (y_th, y_pf, y_of, y_sz, y_bg), rfl, ⟨congrArg (fun z => z.1) (Option.some.inj hf), congrArg (fun z => z.2) (Option.some.inj hf)⟩, by rw [← ht] at hP; exact hP⟩, hS.F ht⟩) hS.2.2 d_M_about_112
      · replace hf := (if_neg c_4).symm.trans hf
        refine lv_iload_n hx hb d_M_about_25 rfl (lv_at hl 3 rfl) ?_
        refine lv_aload_n hx hb d_M_about_26 rfl (lv_at hl 0 rfl) ?_
        refine lv_iload_n hx hb d_M_about_27 rfl (lv_at hl 1 rfl) ?_
        refine lv_iload hx hb d_M_about_28 (lv_at hl 4 rfl) ?_
        obtain ⟨r_16, g_17, hf⟩ := Option.bind_eq_some_iff.mp hf
        refine ju_calli (W.runV (As := [.int (a0), .int (x4)]) (rest := [.int (x3)]) ⟨hx, hb, hml, hown, hts⟩ (c_M_has l (ad := ad) (sk := sk) (sv := sv) (tK := tK) dC dI cI h0 rw pt ou y_th y_pf y_of y_sz y_bg a0 x4  r_16 g_17) (cwV 2 hts (aw_V aw_474 aw_476 aw_p24 aw_2 aw_477) rfl rfl rfl (by decide +kernel) ⟨Nat.le_of_ble_eq_true rfl, Nat.le_of_ble_eq_true rfl⟩) ⟨wBlind, va_recv hK hP (ci := 1) (q0 := 0) rfl rfl, fun U hU hW => ⟨rfl, by rw [hU]; exact hP, va_K.moved hW.alike hK, hD, hT.at hS hU hW (fun _ z => z)⟩⟩ rfl rfl hl.1 rfl (lv_room (Nat.le_of_ble_eq_true rfl)) d_M_about_30 ⟨Nat.le_refl _, Nat.le_refl _⟩) ?_
        refine lv_if_eq (tgt := 43) hx hb d_M_about_33 (by decide) (fun c_18 => ?_) (fun c_18 => ?_)
        · replace hf := (if_pos c_18).symm.trans hf
          refine lv_iconst (v := 0) hx hb d_M_about_43 (by decide) ?_
          refine lv_iadd hx hb d_M_about_44 ?_
          refine lv_istore_n (lv' := [(3, .int (x3 + 0)), (0, .ref (h0)), (1, .int (a0)), (2, .int (a1)), (4, .int (x4))]) hx hb d_M_about_45 rfl hl (by decide) rfl (fun ls hl => ?_)
          refine lv_iinc (v := x4 + 1) (lv' := [(4, .int (x4 + 1)), (3, .int (x3 + 0)), (0, .ref (h0)), (1, .int (a0)), (2, .int (a1))]) hx hb d_M_about_46 hl (k := 4) rfl rfl (by decide) rfl (fun ls hl => ?_)
          refine lv_goto (tgt := 19) hx hb d_M_about_49 (by decide) ?_
          exact ih (x3 + 0) (x4 + 1) y_th y_pf y_of y_sz y_bg _ _ _ hP hS (lv_sub hl [2, 3, 4, 1, 0] rfl) hf
        · replace hf := (if_neg c_18).symm.trans hf
          refine lv_iconst (v := 1) hx hb d_M_about_36 (by decide) ?_
          refine lv_iload hx hb d_M_about_37 (lv_at hl 4 rfl) ?_
          refine lv_ishl hx hb d_M_about_39 ?_
          refine lv_goto (tgt := 44) hx hb d_M_about_40 (by decide) ?_
          refine lv_iadd hx hb d_M_about_44 ?_
          refine lv_istore_n (lv' := [(3, .int (x3 + ((1 : Int32) <<< (x4 &&& 31)))), (0, .ref (h0)), (1, .int (a0)), (2, .int (a1)), (4, .int (x4))]) hx hb d_M_about_45 rfl hl (by decide) rfl (fun ls hl => ?_)
          refine lv_iinc (v := x4 + 1) (lv' := [(4, .int (x4 + 1)), (3, .int (x3 + ((1 : Int32) <<< (x4 &&& 31)))), (0, .ref (h0)), (1, .int (a0)), (2, .int (a1))]) hx hb d_M_about_46 hl (k := 4) rfl rfl (by decide) rfl (fun ls hl => ?_)
          refine lv_goto (tgt := 19) hx hb d_M_about_49 (by decide) ?_
          exact ih (x3 + ((1 : Int32) <<< (x4 &&& 31))) (x4 + 1) y_th y_pf y_of y_sz y_bg _ _ _ hP hS (lv_sub hl [2, 3, 4, 1, 0] rfl) hf
  rw [f_M_about] at hf
  refine lv_aload_n hx hb d_M_about_0 rfl (lv_at hl 0 rfl) ?_
  refine lv_iconst (v := 0) hx hb d_M_about_1 (by decide) ?_
  refine va_put (D := (dC, dI)) (ci := 1) (v := .int (0)) (ty := .int) (C := "CodeWordsModel") (T := F_M) (N := 6) hx hb hts (in_M _) ty_M tyok_M nm_M hown hK hP hD hS 0 rfl rfl 0 (by decide) (ht aw_439) (fun _ h9 => h9) rfl (by decide +kernel) rfl rfl (Nat.le_of_ble_eq_true rfl) d_M_about_2 (fun H locs hP hD hS => ?_)
  have hP : va_P (dC, dI) cls2 (wM cI h0 rw pt ou 0 mR w_pf w_of w_sz w_bg) H := hP
  have hD : va_D (aM h0 rw pt ou) (wM cI h0 rw pt ou 0 mR w_pf w_of w_sz w_bg) := hD
  refine lv_iload_n hx hb d_M_about_5 rfl (lv_at hl 1 rfl) ?_
  obtain ⟨r_1, g_2, hf⟩ := Option.bind_eq_some_iff.mp hf
  refine ju_calli (W.runS (As := [.int (a0)]) (rest := []) ⟨hx, hb, hml, hown, hts⟩ (c_M_isKind l (ad := ad) (sk := sk) (sv := sv) (tK := tK)  a0  r_1 g_2) (va_cwS 1 hts (aw_S aw_467 aw_468 aw_2 aw_469) rfl rfl rfl (by decide +kernel) ⟨Nat.le_of_ble_eq_true rfl, Nat.le_of_ble_eq_true rfl⟩) ⟨fun a U g mk q => ⟨q.1, q.2.call⟩, fun U hU hW => ⟨rfl, hT.at hS hU hW (fun _ z => z.elim)⟩⟩ rfl rfl hl.1 rfl (lv_room (Nat.le_of_ble_eq_true rfl)) d_M_about_6 ⟨Nat.le_refl _, Nat.le_refl _⟩) ?_
  refine lv_if_ne (tgt := 14) hx hb d_M_about_9 (by decide) (fun c_3 => ?_) (fun c_3 => ?_)
  · replace hf := (if_neg c_3).symm.trans hf
    refine lv_iconst (v := 0) hx hb d_M_about_14 (by decide) ?_
    refine lv_istore_n (lv' := [(3, .int (0)), (0, .ref (h0)), (1, .int (a0)), (2, .int (a1))]) hx hb d_M_about_15 rfl hl (by decide) rfl (fun ls hl => ?_)
    refine lv_iconst (v := 0) hx hb d_M_about_16 (by decide) ?_
    refine lv_istore (lv' := [(4, .int (0)), (3, .int (0)), (0, .ref (h0)), (1, .int (a0)), (2, .int (a1))]) hx hb d_M_about_17 hl (by decide) rfl (fun ls hl => ?_)
    exact J19 80 0 0 0 w_pf w_of w_sz w_bg _ _ _ hP hS (lv_sub hl [2, 3, 4, 1, 0] rfl) hf
  · replace hf := (if_pos c_3).symm.trans hf
    refine lv_iconst (v := (-1)) hx hb d_M_about_12 (by decide) ?_
    exact W.iret (v := (-1)) hx hb hr (fun t ht hW => ⟨⟨_, (0, w_pf, w_of, w_sz, w_bg), rfl, ⟨congrArg (fun z => z.1) (Option.some.inj hf), congrArg (fun z => z.2) (Option.some.inj hf)⟩, by rw [← ht] at hP; exact hP⟩, hS.F ht⟩) hS.2.2 d_M_about_13

