def f_C_write (w_f : Nat → Int32) (w_n : Int32) (a0 : Int32) : Option ((Nat → Int32) × Int32) :=
  if w_n < 0 then (some (w_f, w_n)) else (if 48 ≤ w_n then (some (w_f, w_n)) else (if w_n < 0 ∨ 48 ≤ w_n.toNatClampNeg then none else some (upd w_f w_n.toNatClampNeg (vp_nar .char a0), w_n + 1)))
set_option maxHeartbeats 1000000 in
set_option maxRecDepth 100000 in
theorem c_C_write (l : Launch) {ad sk sv : Nat → Nat} {tK : Nat} (dC : Nat → ClassId) (dI : Nat → Nat → Nat) (cA : ClassId) (h0 o : Nat) (w_f : Nat → Int32) (w_n : Int32) (a0 : Int32)  (r : (Nat → Int32) × Int32) (hf : f_C_write w_f w_n a0 = some r) : Met l y_C_write (Cond.code y_C_write b_C_write 2 (Option.none : Option FieldType) :: aw) ({ frames := 0, cells := 0, slots := 0, locals := 0 } : Room) (va_Pc [.ref (h0), .int (a0)] (fun U => va_P (dC, dI) cls2 (wC cA h0 o w_f w_n) U.heap ∧ va_K (dC, dI) cls2 [(cA, .char)] U ∧ va_D (aC h0 o) (wC cA h0 o w_f w_n) ∧ tb ad sk sv tK (aC h0 o) U U.heap)) (va_Qv (fun u => u = r) (fun (u : (Nat → Int32) × Int32) t => va_P (dC, dI) cls2 (wC cA h0 o u.1 u.2) t.heap) (aC h0 o)) 0 0 (aC h0 o) := by
  refine Met.ofW (cc := b_C_write) (maxL := 2) (ret := (Option.none : Option FieldType)) (by decide) rfl ?_
  intro p e s m args below meth c s₁ B hml hv
  obtain ⟨rfl, hP, hK, hD, hT⟩ := hv
  have hD0 := hD
  have hx := B.exec
  have hb := B.bytes
  have hr := B.returns
  have hts := atoms_spec (ws := (Cond.code y_C_write b_C_write 2 (Option.none : Option FieldType) :: aw)) B.pre
  have ht : ∀ {w : Cond}, w ∈ aw → w.before ([.ref (h0), .int (a0)] : List Value).toArray s = true := fun h => hts _ (List.mem_cons_of_mem _ h)
  have hown : s.vm.findClass "CodeWords" = some m.cls := findClass_of_methodNamed B.named
  have hlocks := B.notSynchronized
  have hS : va_S (aC h0 o) s.heap s.heap [] := va_S.rf
  have hl := lv_entry ([.ref (h0), .int (a0)]) (n := 2) (Nat.le_of_ble_eq_true rfl)
  rw [lg_entry_eq]
  generalize (lg_sl ([.ref (h0), .int (a0)]) ++ List.replicate (2 - (lg_sl ([.ref (h0), .int (a0)])).length) Slot.unset).toArray = ls at hl ⊢
  have hl : lv_has ls 2 [(0, .ref (h0)), (1, .int (a0))] := hl
  rw [f_C_write] at hf
  refine lv_aload_n hx hb d_C_write_0 rfl (lv_at hl 0 rfl) ?_
  refine va_get (D := (dC, dI)) (ci := 0) (v := .int (w_n)) (C := "CodeWords") (T := F_C) (N := 2) hx hb hts (in_C _) hown hK hP 0 rfl rfl 1 (by decide) (ht aw_24) (fun _ h9 => h9) rfl d_C_write_1 ?_
  refine lv_if_lt (tgt := 39) hx hb d_C_write_4 (by decide) (fun c_1 => ?_) (fun c_1 => ?_)
  · replace hf := (if_pos c_1).symm.trans hf
    exact W.vret hx hb hr (fun t ht hW => ⟨⟨(w_f, w_n), rfl, Option.some.inj hf, by rw [← ht] at hP; exact hP⟩, hS.F ht⟩) hS.2.2 d_C_write_39
  · replace hf := (if_neg c_1).symm.trans hf
    refine lv_aload_n hx hb d_C_write_7 rfl (lv_at hl 0 rfl) ?_
    refine va_get (D := (dC, dI)) (ci := 0) (v := .int (w_n)) (C := "CodeWords") (T := F_C) (N := 2) hx hb hts (in_C _) hown hK hP 0 rfl rfl 1 (by decide) (ht aw_24) (fun _ h9 => h9) rfl d_C_write_8 ?_
    refine lv_aload_n hx hb d_C_write_11 rfl (lv_at hl 0 rfl) ?_
    refine va_get (D := (dC, dI)) (ci := 0) (v := .ref (o)) (C := "CodeWords") (T := F_C) (N := 2) hx hb hts (in_C _) hown hK hP 0 rfl rfl 0 (by decide) (ht aw_23) (fun _ h9 => h9) rfl d_C_write_12 ?_
    refine va_alen (v := 48) hx hb hK hP 1 0 rfl rfl rfl d_C_write_15 ?_
    refine lv_icmp_ge (tgt := 39) hx hb d_C_write_16 (by decide) (fun c_2 => ?_) (fun c_2 => ?_)
    · replace hf := (if_pos c_2).symm.trans hf
      exact W.vret hx hb hr (fun t ht hW => ⟨⟨(w_f, w_n), rfl, Option.some.inj hf, by rw [← ht] at hP; exact hP⟩, hS.F ht⟩) hS.2.2 d_C_write_39
    · replace hf := (if_neg c_2).symm.trans hf
      refine lv_aload_n hx hb d_C_write_19 rfl (lv_at hl 0 rfl) ?_
      refine va_get (D := (dC, dI)) (ci := 0) (v := .ref (o)) (C := "CodeWords") (T := F_C) (N := 2) hx hb hts (in_C _) hown hK hP 0 rfl rfl 0 (by decide) (ht aw_23) (fun _ h9 => h9) rfl d_C_write_20 ?_
      refine lv_aload_n hx hb d_C_write_23 rfl (lv_at hl 0 rfl) ?_
      refine va_get (D := (dC, dI)) (ci := 0) (v := .int (w_n)) (C := "CodeWords") (T := F_C) (N := 2) hx hb hts (in_C _) hown hK hP 0 rfl rfl 1 (by decide) (ht aw_24) (fun _ h9 => h9) rfl d_C_write_24 ?_
      refine lv_iload_n hx hb d_C_write_27 rfl (lv_at hl 1 rfl) ?_
      obtain ⟨z_3, hf⟩ := ju_gd hf
      refine va_cast hx hb hK hP hD hS 1 0 rfl rfl z_3 d_C_write_28 (fun H locs hP hD hS => ?_)
      have hP : va_P (dC, dI) cls2 (wC cA h0 o (upd w_f w_n.toNatClampNeg (vp_nar .char a0)) w_n) H := hP
      have hD : va_D (aC h0 o) (wC cA h0 o (upd w_f w_n.toNatClampNeg (vp_nar .char a0)) w_n) := hD
      refine lv_aload_n hx hb d_C_write_29 rfl (lv_at hl 0 rfl) ?_
      refine lv_dup hx hb d_C_write_30 rfl ?_
      refine va_get (D := (dC, dI)) (ci := 0) (v := .int (w_n)) (C := "CodeWords") (T := F_C) (N := 2) hx hb hts (in_C _) hown hK hP 0 rfl rfl 1 (by decide) (ht aw_24) (fun _ h9 => h9) rfl d_C_write_31 ?_
      refine lv_iconst (v := 1) hx hb d_C_write_34 (by decide) ?_
      refine lv_iadd hx hb d_C_write_35 ?_
      refine va_put (D := (dC, dI)) (ci := 0) (v := .int (w_n + 1)) (ty := .int) (C := "CodeWords") (T := F_C) (N := 2) hx hb hts (in_C _) ty_C tyok_C nm_C hown hK hP hD hS 0 rfl rfl 1 (by decide) (ht aw_24) (fun _ h9 => h9) rfl (by decide +kernel) rfl rfl (Nat.le_of_ble_eq_true rfl) d_C_write_36 (fun H locs hP hD hS => ?_)
      have hP : va_P (dC, dI) cls2 (wC cA h0 o (upd w_f w_n.toNatClampNeg (vp_nar .char a0)) (w_n + 1)) H := hP
      have hD : va_D (aC h0 o) (wC cA h0 o (upd w_f w_n.toNatClampNeg (vp_nar .char a0)) (w_n + 1)) := hD
      exact W.vret hx hb hr (fun t ht hW => ⟨⟨(upd w_f w_n.toNatClampNeg (vp_nar .char a0), w_n + 1), rfl, Option.some.inj hf, by rw [← ht] at hP; exact hP⟩, hS.F ht⟩) hS.2.2 d_C_write_39

def f_C_writeString_L2 (w_f : Nat → Int32) (w_n : Int32) (a0 : Nat)  : Nat → Int32 → (Nat → Int32) → Int32 → Option ((Nat → Int32) × Int32)
  | 0, _, _, _ => none
  | n + 1, x2, y_f, y_n =>
    (f_S_length a0).bind fun r_1 => if r_1 ≤ x2 then (some (y_f, y_n)) else ((f_S_charAt a0 x2).bind fun r_4 => (f_C_write y_f y_n r_4).bind fun r_6 => f_C_writeString_L2 w_f w_n a0  n (x2 + 1) r_6.1 r_6.2)
def f_C_writeString (w_f : Nat → Int32) (w_n : Int32) (a0 : Nat) : Option ((Nat → Int32) × Int32) :=
  f_C_writeString_L2 w_f w_n a0  40 0 w_f w_n
set_option maxHeartbeats 1000000 in
set_option maxRecDepth 100000 in
theorem c_C_writeString (l : Launch) {ad sk sv : Nat → Nat} {tK : Nat} (dC : Nat → ClassId) (dI : Nat → Nat → Nat) (cA : ClassId) (h0 o : Nat) (w_f : Nat → Int32) (w_n : Int32) (a0 : Nat) (ha0 : a0 < 180) (r : (Nat → Int32) × Int32) (hf : f_C_writeString w_f w_n a0 = some r) : Met l y_C_writeString (Cond.code y_C_writeString b_C_writeString 3 (Option.none : Option FieldType) :: aw) ({ frames := 4, cells := 0, slots := 0, locals := 85 } : Room) (va_Pc [.ref (h0), .ref (sk a0)] (fun U => va_P (dC, dI) cls2 (wC cA h0 o w_f w_n) U.heap ∧ va_K (dC, dI) cls2 [(cA, .char)] U ∧ va_D (aC h0 o) (wC cA h0 o w_f w_n) ∧ tb ad sk sv tK (aC h0 o) U U.heap)) (va_Qv (fun u => u = r) (fun (u : (Nat → Int32) × Int32) t => va_P (dC, dI) cls2 (wC cA h0 o u.1 u.2) t.heap) (aC h0 o)) 0 0 (aC h0 o) := by
  refine Met.ofW (cc := b_C_writeString) (maxL := 3) (ret := (Option.none : Option FieldType)) (by decide) rfl ?_
  intro p e s m args below meth c s₁ B hml hv
  obtain ⟨rfl, hP, hK, hD, hT⟩ := hv
  have hD0 := hD
  have hx := B.exec
  have hb := B.bytes
  have hr := B.returns
  have hts := atoms_spec (ws := (Cond.code y_C_writeString b_C_writeString 3 (Option.none : Option FieldType) :: aw)) B.pre
  have ht : ∀ {w : Cond}, w ∈ aw → w.before ([.ref (h0), .ref (sk a0)] : List Value).toArray s = true := fun h => hts _ (List.mem_cons_of_mem _ h)
  have hown : s.vm.findClass "CodeWords" = some m.cls := findClass_of_methodNamed B.named
  have hlocks := B.notSynchronized
  have hS : va_S (aC h0 o) s.heap s.heap [] := va_S.rf
  have hl := lv_entry ([.ref (h0), .ref (sk a0)]) (n := 3) (Nat.le_of_ble_eq_true rfl)
  rw [lg_entry_eq]
  generalize (lg_sl ([.ref (h0), .ref (sk a0)]) ++ List.replicate (3 - (lg_sl ([.ref (h0), .ref (sk a0)])).length) Slot.unset).toArray = ls at hl ⊢
  have hl : lv_has ls 3 [(0, .ref (h0)), (1, .ref (sk a0))] := hl
  have J2 : ∀ (n : Nat) (x2 : Int32) (y_f : (Nat → Int32)) (y_n : Int32) (H : Heap) (locs : List Loc) (ls : Array Slot), va_P (dC, dI) cls2 (wC cA h0 o y_f y_n) H → va_S (aC h0 o) s.heap H locs → lv_has ls 3 [(0, .ref (h0)), (1, .ref (sk a0)), (2, .int (x2))] → f_C_writeString_L2 w_f w_n a0  n x2 y_f y_n = some r → wW p l e (headSpec (Cond.code y_C_writeString b_C_writeString 3 (Option.none : Option FieldType) :: aw) ({ frames := 4, cells := 0, slots := 0, locals := 85 } : Room)).room s m ([.ref (h0), .ref (sk a0)] : List Value).toArray below meth c (va_Qv (fun u => u = r) (fun (u : (Nat → Int32) × Int32) t => va_P (dC, dI) cls2 (wC cA h0 o u.1 u.2) t.heap) (aC h0 o)) (aC h0 o) H locs (F0 m 2 ls []) := by
    intro n
    induction n with
    | zero =>
      intro x2 y_f y_n H locs ls hP hS hl hf
      rw [f_C_writeString_L2] at hf
      cases hf
    | succ n ih =>
      intro x2 y_f y_n H locs ls hP hS hl hf
      rw [f_C_writeString_L2] at hf
      have hD : va_D (aC h0 o) (wC cA h0 o y_f y_n) := dD hD0 rfl
      refine lv_iload_n hx hb d_C_writeString_2 rfl (lv_at hl 2 rfl) ?_
      refine lv_aload_n hx hb d_C_writeString_3 rfl (lv_at hl 1 rfl) ?_
      obtain ⟨r_1, g_2, hf⟩ := Option.bind_eq_some_iff.mp hf
      refine ju_calli (W.runV (As := []) (rest := [.int (x2)]) ⟨hx, hb, hml, hown, hts⟩ (c_S_length l (ad := ad) (sk := sk) (sv := sv) (tK := tK)  a0 ha0 r_1 g_2) (cwV 0 hts (aw_V aw_174 aw_62 aw_63 aw_7 aw_64) rfl rfl rfl (by decide +kernel) ⟨Nat.le_of_ble_eq_true rfl, Nat.le_of_ble_eq_true rfl⟩) ⟨fun a U g mk q => ⟨q.1, q.2.call⟩, tb_recvS hT ha0 hS, fun U hU hW => ⟨rfl, hT.at hS hU hW (fun _ z => z.elim)⟩⟩ rfl rfl hl.1 rfl (lv_room (Nat.le_of_ble_eq_true rfl)) d_C_writeString_4 ⟨Nat.le_refl _, Nat.le_refl _⟩) ?_
      refine lv_icmp_ge (tgt := 25) hx hb d_C_writeString_7 (by decide) (fun c_3 => ?_) (fun c_3 => ?_)
      · replace hf := (if_pos c_3).symm.trans hf
        exact W.vret hx hb hr (fun t ht hW => ⟨⟨(y_f, y_n), rfl, Option.some.inj hf, by rw [← ht] at hP; exact hP⟩, hS.F ht⟩) hS.2.2 d_C_writeString_25
      · replace hf := (if_neg c_3).symm.trans hf
        refine lv_aload_n hx hb d_C_writeString_10 rfl (lv_at hl 0 rfl) ?_
        refine lv_aload_n hx hb d_C_writeString_11 rfl (lv_at hl 1 rfl) ?_
        refine lv_iload_n hx hb d_C_writeString_12 rfl (lv_at hl 2 rfl) ?_
        obtain ⟨r_4, g_5, hf⟩ := Option.bind_eq_some_iff.mp hf
        refine ju_calli (W.runV (As := [.int (x2)]) (rest := [.ref (h0)]) ⟨hx, hb, hml, hown, hts⟩ (c_S_charAt l (ad := ad) (sk := sk) (sv := sv) (tK := tK)  a0 x2 ha0 r_4 g_5) (cwV 1 hts (aw_V aw_175 aw_72 aw_73 aw_7 aw_74) rfl rfl rfl (by decide +kernel) ⟨Nat.le_of_ble_eq_true rfl, Nat.le_of_ble_eq_true rfl⟩) ⟨fun a U g mk q => ⟨q.1, q.2.call⟩, tb_recvS hT ha0 hS, fun U hU hW => ⟨rfl, hT.at hS hU hW (fun _ z => z.elim)⟩⟩ rfl rfl hl.1 rfl (lv_room (Nat.le_of_ble_eq_true rfl)) d_C_writeString_13 ⟨Nat.le_refl _, Nat.le_refl _⟩) ?_
        obtain ⟨r_6, g_7, hf⟩ := Option.bind_eq_some_iff.mp hf
        refine va_callv (va_runV (As := [.int (r_4)]) (rest := []) ⟨hx, hb, hml, hown, hts⟩ (c_C_write l (ad := ad) (sk := sk) (sv := sv) (tK := tK) dC dI cA h0 o y_f y_n r_4  r_6 g_7) (cwV 1 hts (aw_V aw_198 aw_200 aw_p8 aw_1 aw_201) rfl rfl rfl (by decide +kernel) ⟨Nat.le_of_ble_eq_true rfl, Nat.le_of_ble_eq_true rfl⟩) ⟨wBlind, va_recv hK hP (ci := 0) (q0 := 0) rfl rfl, fun U hU hW => ⟨rfl, by rw [hU]; exact hP, va_K.moved hW.alike hK, hD, hT.at hS hU hW (fun _ z => z)⟩⟩ rfl rfl hl.1 rfl (lv_room (Nat.le_of_ble_eq_true rfl)) d_C_writeString_16 ⟨Nat.le_refl _, Nat.le_refl _⟩) hS (fun _ _ h => h) (fun _ h => h) (fun u t H1 locs ht1 hvm hw hB hz1 hk1 hS => ?_)
        rw [hw] at hB
        rw [ht1] at hB
        have hP : va_P (dC, dI) cls2 (wC cA h0 o r_6.1 r_6.2) H1 := hB
        have hD : va_D (aC h0 o) (wC cA h0 o r_6.1 r_6.2) := dD hD0 rfl
        refine lv_iinc (v := x2 + 1) (lv' := [(2, .int (x2 + 1)), (0, .ref (h0)), (1, .ref (sk a0))]) hx hb d_C_writeString_19 hl (k := 2) rfl rfl (by decide) rfl (fun ls hl => ?_)
        refine lv_goto (tgt := 2) hx hb d_C_writeString_22 (by decide) ?_
        exact ih (x2 + 1) r_6.1 r_6.2 _ _ _ hP hS (lv_sub hl [1, 2, 0] rfl) hf
  rw [f_C_writeString] at hf
  refine lv_iconst (v := 0) hx hb d_C_writeString_0 (by decide) ?_
  refine lv_istore_n (lv' := [(2, .int (0)), (0, .ref (h0)), (1, .ref (sk a0))]) hx hb d_C_writeString_1 rfl hl (by decide) rfl (fun ls hl => ?_)
  exact J2 40 0 w_f w_n _ _ _ hP hS (lv_sub hl [1, 2, 0] rfl) hf

def f_C_writeHex_L23 (w_f : Nat → Int32) (w_n : Int32) (a0 : Int32) (k9 : Int32 → (Nat → Int32) → Int32 → Option ((Nat → Int32) × Int32)) (x2 : Int32) (y_f : (Nat → Int32)) (y_n : Int32) : Option ((Nat → Int32) × Int32) :=
  if 10 ≤ ((ju_ushr a0 x2) &&& 15) then ((f_C_write y_f y_n (ju_i2c ((97 + ((ju_ushr a0 x2) &&& 15)) - 10))).bind fun r_6 => k9 (x2 + (-4)) r_6.1 r_6.2) else ((f_C_write y_f y_n (ju_i2c (48 + ((ju_ushr a0 x2) &&& 15)))).bind fun r_8 => k9 (x2 + (-4)) r_8.1 r_8.2)
def f_C_writeHex_L9 (w_f : Nat → Int32) (w_n : Int32) (a0 : Int32)  : Nat → Int32 → (Nat → Int32) → Int32 → Option ((Nat → Int32) × Int32)
  | 0, _, _, _ => none
  | n + 1, x2, y_f, y_n =>
    if x2 < 0 then (some (y_f, y_n)) else (if (ju_ushr a0 x2) = 0 then (if x2 = 0 then (f_C_writeHex_L23 w_f w_n a0 (fun y0 y1 y2 => f_C_writeHex_L9 w_f w_n a0  n y0 y1 y2) x2 y_f y_n) else (f_C_writeHex_L9 w_f w_n a0  n (x2 + (-4)) y_f y_n)) else (f_C_writeHex_L23 w_f w_n a0 (fun y0 y1 y2 => f_C_writeHex_L9 w_f w_n a0  n y0 y1 y2) x2 y_f y_n))
def f_C_writeHex (w_f : Nat → Int32) (w_n : Int32) (a0 : Int32) : Option ((Nat → Int32) × Int32) :=
  (f_C_writeString w_f w_n 1).bind fun r_1 => f_C_writeHex_L9 w_f w_n a0  40 28 r_1.1 r_1.2
set_option maxHeartbeats 1000000 in
set_option maxRecDepth 100000 in
theorem c_C_writeHex (l : Launch) {ad sk sv : Nat → Nat} {tK : Nat} (dC : Nat → ClassId) (dI : Nat → Nat → Nat) (cA : ClassId) (h0 o : Nat) (w_f : Nat → Int32) (w_n : Int32) (a0 : Int32)  (r : (Nat → Int32) × Int32) (hf : f_C_writeHex w_f w_n a0 = some r) : Met l y_C_writeHex (Cond.code y_C_writeHex b_C_writeHex 4 (Option.none : Option FieldType) :: aw) ({ frames := 5, cells := 0, slots := 0, locals := 107 } : Room) (va_Pc [.ref (h0), .int (a0)] (fun U => va_P (dC, dI) cls2 (wC cA h0 o w_f w_n) U.heap ∧ va_K (dC, dI) cls2 [(cA, .char)] U ∧ va_D (aC h0 o) (wC cA h0 o w_f w_n) ∧ tb ad sk sv tK (aC h0 o) U U.heap)) (va_Qv (fun u => u = r) (fun (u : (Nat → Int32) × Int32) t => va_P (dC, dI) cls2 (wC cA h0 o u.1 u.2) t.heap) (aC h0 o)) 0 0 (aC h0 o) := by
  refine Met.ofW (cc := b_C_writeHex) (maxL := 4) (ret := (Option.none : Option FieldType)) (by decide) rfl ?_
  intro p e s m args below meth c s₁ B hml hv
  obtain ⟨rfl, hP, hK, hD, hT⟩ := hv
  have hD0 := hD
  have hx := B.exec
  have hb := B.bytes
  have hr := B.returns
  have hts := atoms_spec (ws := (Cond.code y_C_writeHex b_C_writeHex 4 (Option.none : Option FieldType) :: aw)) B.pre
  have ht : ∀ {w : Cond}, w ∈ aw → w.before ([.ref (h0), .int (a0)] : List Value).toArray s = true := fun h => hts _ (List.mem_cons_of_mem _ h)
  have hown : s.vm.findClass "CodeWords" = some m.cls := findClass_of_methodNamed B.named
  have hlocks := B.notSynchronized
  have hS : va_S (aC h0 o) s.heap s.heap [] := va_S.rf
  have hl := lv_entry ([.ref (h0), .int (a0)]) (n := 4) (Nat.le_of_ble_eq_true rfl)
  rw [lg_entry_eq]
  generalize (lg_sl ([.ref (h0), .int (a0)]) ++ List.replicate (4 - (lg_sl ([.ref (h0), .int (a0)])).length) Slot.unset).toArray = ls at hl ⊢
  have hl : lv_has ls 4 [(0, .ref (h0)), (1, .int (a0))] := hl
  have J9 : ∀ (n : Nat) (x2 : Int32) (y_f : (Nat → Int32)) (y_n : Int32) (H : Heap) (locs : List Loc) (ls : Array Slot), va_P (dC, dI) cls2 (wC cA h0 o y_f y_n) H → va_S (aC h0 o) s.heap H locs → lv_has ls 4 [(0, .ref (h0)), (1, .int (a0)), (2, .int (x2))] → f_C_writeHex_L9 w_f w_n a0  n x2 y_f y_n = some r → wW p l e (headSpec (Cond.code y_C_writeHex b_C_writeHex 4 (Option.none : Option FieldType) :: aw) ({ frames := 5, cells := 0, slots := 0, locals := 107 } : Room)).room s m ([.ref (h0), .int (a0)] : List Value).toArray below meth c (va_Qv (fun u => u = r) (fun (u : (Nat → Int32) × Int32) t => va_P (dC, dI) cls2 (wC cA h0 o u.1 u.2) t.heap) (aC h0 o)) (aC h0 o) H locs (F0 m 9 ls []) := by
    intro n
    induction n with
    | zero =>
      intro x2 y_f y_n H locs ls hP hS hl hf
      rw [f_C_writeHex_L9] at hf
      cases hf
    | succ n ih =>
      intro x2 y_f y_n H locs ls hP hS hl hf
      rw [f_C_writeHex_L9] at hf
      have hD : va_D (aC h0 o) (wC cA h0 o y_f y_n) := dD hD0 rfl
      have J23 : ∀ (x2 : Int32) (y_f : (Nat → Int32)) (y_n : Int32) (H : Heap) (locs : List Loc) (ls : Array Slot), va_P (dC, dI) cls2 (wC cA h0 o y_f y_n) H → va_S (aC h0 o) s.heap H locs → lv_has ls 4 [(0, .ref (h0)), (1, .int (a0)), (2, .int (x2))] → f_C_writeHex_L23 w_f w_n a0 (fun y0 y1 y2 => f_C_writeHex_L9 w_f w_n a0  n y0 y1 y2) x2 y_f y_n = some r → wW p l e (headSpec (Cond.code y_C_writeHex b_C_writeHex 4 (Option.none : Option FieldType) :: aw) ({ frames := 5, cells := 0, slots := 0, locals := 107 } : Room)).room s m ([.ref (h0), .int (a0)] : List Value).toArray below meth c (va_Qv (fun u => u = r) (fun (u : (Nat → Int32) × Int32) t => va_P (dC, dI) cls2 (wC cA h0 o u.1 u.2) t.heap) (aC h0 o)) (aC h0 o) H locs (F0 m 23 ls []) := by
        intro x2 y_f y_n H locs ls hP hS hl hf
        rw [f_C_writeHex_L23] at hf
        have hD : va_D (aC h0 o) (wC cA h0 o y_f y_n) := dD hD0 rfl
        refine lv_iload_n hx hb d_C_writeHex_23 rfl (lv_at hl 1 rfl) ?_
        refine lv_iload_n hx hb d_C_writeHex_24 rfl (lv_at hl 2 rfl) ?_
        refine lv_iushr (v := ju_ushr a0 x2) hx hb d_C_writeHex_25 rfl ?_
        refine lv_bipush (v := 15) hx hb d_C_writeHex_26 (by decide) ?_
        refine lv_iand hx hb d_C_writeHex_28 ?_
        refine lv_istore_n (lv' := [(3, .int ((ju_ushr a0 x2) &&& 15)), (0, .ref (h0)), (1, .int (a0)), (2, .int (x2))]) hx hb d_C_writeHex_29 rfl hl (by decide) rfl (fun ls hl => ?_)
        refine lv_aload_n hx hb d_C_writeHex_30 rfl (lv_at hl 1 rfl) ?_
        refine lv_iload_n hx hb d_C_writeHex_31 rfl (lv_at hl 0 rfl) ?_
        refine lv_bipush (v := 10) hx hb d_C_writeHex_32 (by decide) ?_
        refine lv_icmp_ge (tgt := 44) hx hb d_C_writeHex_34 (by decide) (fun c_5 => ?_) (fun c_5 => ?_)
        · replace hf := (if_pos c_5).symm.trans hf
          refine lv_bipush (v := 97) hx hb d_C_writeHex_44 (by decide) ?_
          refine lv_iload_n hx hb d_C_writeHex_46 rfl (lv_at hl 0 rfl) ?_
          refine lv_iadd hx hb d_C_writeHex_47 ?_
          refine lv_bipush (v := 10) hx hb d_C_writeHex_48 (by decide) ?_
          refine lv_isub hx hb d_C_writeHex_50 ?_
          refine lv_i2c (v := ju_i2c ((97 + ((ju_ushr a0 x2) &&& 15)) - 10)) hx hb d_C_writeHex_51 rfl ?_
          obtain ⟨r_6, g_7, hf⟩ := Option.bind_eq_some_iff.mp hf
          refine va_callv (va_runV (As := [.int (ju_i2c ((97 + ((ju_ushr a0 x2) &&& 15)) - 10))]) (rest := []) ⟨hx, hb, hml, hown, hts⟩ (c_C_write l (ad := ad) (sk := sk) (sv := sv) (tK := tK) dC dI cA h0 o y_f y_n (ju_i2c ((97 + ((ju_ushr a0 x2) &&& 15)) - 10))  r_6 g_7) (cwV 1 hts (aw_V aw_198 aw_200 aw_p8 aw_1 aw_201) rfl rfl rfl (by decide +kernel) ⟨Nat.le_of_ble_eq_true rfl, Nat.le_of_ble_eq_true rfl⟩) ⟨wBlind, va_recv hK hP (ci := 0) (q0 := 0) rfl rfl, fun U hU hW => ⟨rfl, by rw [hU]; exact hP, va_K.moved hW.alike hK, hD, hT.at hS hU hW (fun _ z => z)⟩⟩ rfl rfl hl.1 rfl (lv_room (Nat.le_of_ble_eq_true rfl)) d_C_writeHex_52 ⟨Nat.le_refl _, Nat.le_refl _⟩) hS (fun _ _ h => h) (fun _ h => h) (fun u t H1 locs ht1 hvm hw hB hz1 hk1 hS => ?_)
          rw [hw] at hB
          rw [ht1] at hB
          have hP : va_P (dC, dI) cls2 (wC cA h0 o r_6.1 r_6.2) H1 := hB
          have hD : va_D (aC h0 o) (wC cA h0 o r_6.1 r_6.2) := dD hD0 rfl
          refine lv_iinc (v := x2 + (-4)) (lv' := [(2, .int (x2 + (-4))), (3, .int ((ju_ushr a0 x2) &&& 15)), (0, .ref (h0)), (1, .int (a0))]) hx hb d_C_writeHex_55 hl (k := 3) rfl rfl (by decide) rfl (fun ls hl => ?_)
          refine lv_goto (tgt := 9) hx hb d_C_writeHex_58 (by decide) ?_
          exact ih (x2 + (-4)) r_6.1 r_6.2 _ _ _ hP hS (lv_sub hl [2, 3, 0] rfl) hf
        · replace hf := (if_neg c_5).symm.trans hf
          refine lv_bipush (v := 48) hx hb d_C_writeHex_37 (by decide) ?_
          refine lv_iload_n hx hb d_C_writeHex_39 rfl (lv_at hl 0 rfl) ?_
          refine lv_iadd hx hb d_C_writeHex_40 ?_
          refine lv_goto (tgt := 51) hx hb d_C_writeHex_41 (by decide) ?_
          refine lv_i2c (v := ju_i2c (48 + ((ju_ushr a0 x2) &&& 15))) hx hb d_C_writeHex_51 rfl ?_
          obtain ⟨r_8, g_9, hf⟩ := Option.bind_eq_some_iff.mp hf
          refine va_callv (va_runV (As := [.int (ju_i2c (48 + ((ju_ushr a0 x2) &&& 15)))]) (rest := []) ⟨hx, hb, hml, hown, hts⟩ (c_C_write l (ad := ad) (sk := sk) (sv := sv) (tK := tK) dC dI cA h0 o y_f y_n (ju_i2c (48 + ((ju_ushr a0 x2) &&& 15)))  r_8 g_9) (cwV 1 hts (aw_V aw_198 aw_200 aw_p8 aw_1 aw_201) rfl rfl rfl (by decide +kernel) ⟨Nat.le_of_ble_eq_true rfl, Nat.le_of_ble_eq_true rfl⟩) ⟨wBlind, va_recv hK hP (ci := 0) (q0 := 0) rfl rfl, fun U hU hW => ⟨rfl, by rw [hU]; exact hP, va_K.moved hW.alike hK, hD, hT.at hS hU hW (fun _ z => z)⟩⟩ rfl rfl hl.1 rfl (lv_room (Nat.le_of_ble_eq_true rfl)) d_C_writeHex_52 ⟨Nat.le_refl _, Nat.le_refl _⟩) hS (fun _ _ h => h) (fun _ h => h) (fun u t H1 locs ht1 hvm hw hB hz1 hk1 hS => ?_)
          rw [hw] at hB
          rw [ht1] at hB
          have hP : va_P (dC, dI) cls2 (wC cA h0 o r_8.1 r_8.2) H1 := hB
          have hD : va_D (aC h0 o) (wC cA h0 o r_8.1 r_8.2) := dD hD0 rfl
          refine lv_iinc (v := x2 + (-4)) (lv' := [(2, .int (x2 + (-4))), (3, .int ((ju_ushr a0 x2) &&& 15)), (0, .ref (h0)), (1, .int (a0))]) hx hb d_C_writeHex_55 hl (k := 3) rfl rfl (by decide) rfl (fun ls hl => ?_)
          refine lv_goto (tgt := 9) hx hb d_C_writeHex_58 (by decide) ?_
          exact ih (x2 + (-4)) r_8.1 r_8.2 _ _ _ hP hS (lv_sub hl [2, 3, 0] rfl) hf
      refine lv_iload_n hx hb d_C_writeHex_9 rfl (lv_at hl 2 rfl) ?_
      refine lv_if_lt (tgt := 61) hx hb d_C_writeHex_10 (by decide) (fun c_3 => ?_) (fun c_3 => ?_)
      · replace hf := (if_pos c_3).symm.trans hf
        exact W.vret hx hb hr (fun t ht hW => ⟨⟨(y_f, y_n), rfl, Option.some.inj hf, by rw [← ht] at hP; exact hP⟩, hS.F ht⟩) hS.2.2 d_C_writeHex_61
      · replace hf := (if_neg c_3).symm.trans hf
        refine lv_iload_n hx hb d_C_writeHex_13 rfl (lv_at hl 1 rfl) ?_
        refine lv_iload_n hx hb d_C_writeHex_14 rfl (lv_at hl 2 rfl) ?_
        refine lv_iushr (v := ju_ushr a0 x2) hx hb d_C_writeHex_15 rfl ?_
        refine lv_if_ne (tgt := 23) hx hb d_C_writeHex_16 (by decide) (fun c_4 => ?_) (fun c_4 => ?_)
        · replace hf := (if_neg c_4).symm.trans hf
          exact J23 x2 y_f y_n _ _ _ hP hS (lv_sub hl [0, 1, 2] rfl) hf
        · replace hf := (if_pos c_4).symm.trans hf
          refine lv_iload_n hx hb d_C_writeHex_19 rfl (lv_at hl 2 rfl) ?_
          refine lv_if_ne (tgt := 55) hx hb d_C_writeHex_20 (by decide) (fun c_10 => ?_) (fun c_10 => ?_)
          · replace hf := (if_neg c_10).symm.trans hf
            refine lv_iinc (v := x2 + (-4)) (lv' := [(2, .int (x2 + (-4))), (0, .ref (h0)), (1, .int (a0))]) hx hb d_C_writeHex_55 hl (k := 2) rfl rfl (by decide) rfl (fun ls hl => ?_)
            refine lv_goto (tgt := 9) hx hb d_C_writeHex_58 (by decide) ?_
            exact ih (x2 + (-4)) y_f y_n _ _ _ hP hS (lv_sub hl [1, 2, 0] rfl) hf
          · replace hf := (if_pos c_10).symm.trans hf
            exact J23 x2 y_f y_n _ _ _ hP hS (lv_sub hl [0, 1, 2] rfl) hf
  rw [f_C_writeHex] at hf
  refine lv_aload_n hx hb d_C_writeHex_0 rfl (lv_at hl 0 rfl) ?_
  refine va_ldcS hx hb hown (tb_r178 hT) d_C_writeHex_1 ?_
  obtain ⟨r_1, g_2, hf⟩ := Option.bind_eq_some_iff.mp hf
  refine va_callv (va_runV (As := [.ref (sk 1)]) (rest := []) ⟨hx, hb, hml, hown, hts⟩ (c_C_writeString l (ad := ad) (sk := sk) (sv := sv) (tK := tK) dC dI cA h0 o w_f w_n 1 (by decide) r_1 g_2) (cwV 1 hts (aw_V aw_194 aw_196 aw_p7 aw_1 aw_197) rfl rfl rfl (by decide +kernel) ⟨Nat.le_of_ble_eq_true rfl, Nat.le_of_ble_eq_true rfl⟩) ⟨wBlind, va_recv hK hP (ci := 0) (q0 := 0) rfl rfl, fun U hU hW => ⟨rfl, by rw [hU]; exact hP, va_K.moved hW.alike hK, hD, hT.at hS hU hW (fun _ z => z)⟩⟩ rfl rfl hl.1 rfl (lv_room (Nat.le_of_ble_eq_true rfl)) d_C_writeHex_3 ⟨Nat.le_refl _, Nat.le_refl _⟩) hS (fun _ _ h => h) (fun _ h => h) (fun u t H1 locs ht1 hvm hw hB hz1 hk1 hS => ?_)
  rw [hw] at hB
  rw [ht1] at hB
  have hP : va_P (dC, dI) cls2 (wC cA h0 o r_1.1 r_1.2) H1 := hB
  have hD : va_D (aC h0 o) (wC cA h0 o r_1.1 r_1.2) := dD hD0 rfl
  refine lv_bipush (v := 28) hx hb d_C_writeHex_6 (by decide) ?_
  refine lv_istore_n (lv' := [(2, .int (28)), (0, .ref (h0)), (1, .int (a0))]) hx hb d_C_writeHex_8 rfl hl (by decide) rfl (fun ls hl => ?_)
  exact J9 40 28 r_1.1 r_1.2 _ _ _ hP hS (lv_sub hl [1, 2, 0] rfl) hf

def f_C_writeDecimal_L39 (w_f : Nat → Int32) (w_n : Int32) (a0 : Int32) (k25 : Int32 → Int32 → (Nat → Int32) → Int32 → Option ((Nat → Int32) × Int32)) (x2 : Int32) (x3 : Int32) (y_f : (Nat → Int32)) (y_n : Int32) : Option ((Nat → Int32) × Int32) :=
  if x3 = 0 then none else (f_C_write y_f y_n (ju_i2c (48 + ((x2 / x3) - (x2 / x3) / 10 * 10)))).bind fun r_6 => k25 x2 (x3 / 10) r_6.1 r_6.2
def f_C_writeDecimal_L25 (w_f : Nat → Int32) (w_n : Int32) (a0 : Int32)  : Nat → Int32 → Int32 → (Nat → Int32) → Int32 → Option ((Nat → Int32) × Int32)
  | 0, _, _, _, _ => none
  | n + 1, x2, x3, y_f, y_n =>
    if x3 ≤ 0 then (some (y_f, y_n)) else (if x3 ≤ x2 then (f_C_writeDecimal_L39 w_f w_n a0 (fun y0 y1 y2 y3 => f_C_writeDecimal_L25 w_f w_n a0  n y0 y1 y2 y3) x2 x3 y_f y_n) else (if x3 = 1 then (f_C_writeDecimal_L39 w_f w_n a0 (fun y0 y1 y2 y3 => f_C_writeDecimal_L25 w_f w_n a0  n y0 y1 y2 y3) x2 x3 y_f y_n) else (f_C_writeDecimal_L25 w_f w_n a0  n x2 (x3 / 10) y_f y_n)))
def f_C_writeDecimal_L10 (w_f : Nat → Int32) (w_n : Int32) (a0 : Int32)  (y_f : (Nat → Int32)) (y_n : Int32) : Option ((Nat → Int32) × Int32) :=
  if 0 ≤ a0 then (f_C_writeDecimal_L25 w_f w_n a0  40 a0 1000 y_f y_n) else (f_C_writeDecimal_L25 w_f w_n a0  40 (-a0) 1000 y_f y_n)
def f_C_writeDecimal (w_f : Nat → Int32) (w_n : Int32) (a0 : Int32) : Option ((Nat → Int32) × Int32) :=
  if 0 ≤ a0 then (f_C_writeDecimal_L10 w_f w_n a0  w_f w_n) else ((f_C_write w_f w_n 45).bind fun r_9 => f_C_writeDecimal_L10 w_f w_n a0  r_9.1 r_9.2)
set_option maxHeartbeats 1000000 in
set_option maxRecDepth 100000 in
theorem c_C_writeDecimal (l : Launch) {ad sk sv : Nat → Nat} {tK : Nat} (dC : Nat → ClassId) (dI : Nat → Nat → Nat) (cA : ClassId) (h0 o : Nat) (w_f : Nat → Int32) (w_n : Int32) (a0 : Int32)  (r : (Nat → Int32) × Int32) (hf : f_C_writeDecimal w_f w_n a0 = some r) : Met l y_C_writeDecimal (Cond.code y_C_writeDecimal b_C_writeDecimal 4 (Option.none : Option FieldType) :: aw) ({ frames := 1, cells := 0, slots := 0, locals := 21 } : Room) (va_Pc [.ref (h0), .int (a0)] (fun U => va_P (dC, dI) cls2 (wC cA h0 o w_f w_n) U.heap ∧ va_K (dC, dI) cls2 [(cA, .char)] U ∧ va_D (aC h0 o) (wC cA h0 o w_f w_n) ∧ tb ad sk sv tK (aC h0 o) U U.heap)) (va_Qv (fun u => u = r) (fun (u : (Nat → Int32) × Int32) t => va_P (dC, dI) cls2 (wC cA h0 o u.1 u.2) t.heap) (aC h0 o)) 0 0 (aC h0 o) := by
  refine Met.ofW (cc := b_C_writeDecimal) (maxL := 4) (ret := (Option.none : Option FieldType)) (by decide) rfl ?_
  intro p e s m args below meth c s₁ B hml hv
  obtain ⟨rfl, hP, hK, hD, hT⟩ := hv
  have hD0 := hD
  have hx := B.exec
  have hb := B.bytes
  have hr := B.returns
  have hts := atoms_spec (ws := (Cond.code y_C_writeDecimal b_C_writeDecimal 4 (Option.none : Option FieldType) :: aw)) B.pre
  have ht : ∀ {w : Cond}, w ∈ aw → w.before ([.ref (h0), .int (a0)] : List Value).toArray s = true := fun h => hts _ (List.mem_cons_of_mem _ h)
  have hown : s.vm.findClass "CodeWords" = some m.cls := findClass_of_methodNamed B.named
  have hlocks := B.notSynchronized
  have hS : va_S (aC h0 o) s.heap s.heap [] := va_S.rf
  have hl := lv_entry ([.ref (h0), .int (a0)]) (n := 4) (Nat.le_of_ble_eq_true rfl)
  rw [lg_entry_eq]
  generalize (lg_sl ([.ref (h0), .int (a0)]) ++ List.replicate (4 - (lg_sl ([.ref (h0), .int (a0)])).length) Slot.unset).toArray = ls at hl ⊢
  have hl : lv_has ls 4 [(0, .ref (h0)), (1, .int (a0))] := hl
  have J25 : ∀ (n : Nat) (x2 : Int32) (x3 : Int32) (y_f : (Nat → Int32)) (y_n : Int32) (H : Heap) (locs : List Loc) (ls : Array Slot), va_P (dC, dI) cls2 (wC cA h0 o y_f y_n) H → va_S (aC h0 o) s.heap H locs → lv_has ls 4 [(0, .ref (h0)), (1, .int (a0)), (2, .int (x2)), (3, .int (x3))] → f_C_writeDecimal_L25 w_f w_n a0  n x2 x3 y_f y_n = some r → wW p l e (headSpec (Cond.code y_C_writeDecimal b_C_writeDecimal 4 (Option.none : Option FieldType) :: aw) ({ frames := 1, cells := 0, slots := 0, locals := 21 } : Room)).room s m ([.ref (h0), .int (a0)] : List Value).toArray below meth c (va_Qv (fun u => u = r) (fun (u : (Nat → Int32) × Int32) t => va_P (dC, dI) cls2 (wC cA h0 o u.1 u.2) t.heap) (aC h0 o)) (aC h0 o) H locs (F0 m 25 ls []) := by
    intro n
    induction n with
    | zero =>
      intro x2 x3 y_f y_n H locs ls hP hS hl hf
      rw [f_C_writeDecimal_L25] at hf
      cases hf
    | succ n ih =>
      intro x2 x3 y_f y_n H locs ls hP hS hl hf
      rw [f_C_writeDecimal_L25] at hf
      have hD : va_D (aC h0 o) (wC cA h0 o y_f y_n) := dD hD0 rfl
      have J39 : ∀ (x2 : Int32) (x3 : Int32) (y_f : (Nat → Int32)) (y_n : Int32) (H : Heap) (locs : List Loc) (ls : Array Slot), va_P (dC, dI) cls2 (wC cA h0 o y_f y_n) H → va_S (aC h0 o) s.heap H locs → lv_has ls 4 [(0, .ref (h0)), (1, .int (a0)), (2, .int (x2)), (3, .int (x3))] → f_C_writeDecimal_L39 w_f w_n a0 (fun y0 y1 y2 y3 => f_C_writeDecimal_L25 w_f w_n a0  n y0 y1 y2 y3) x2 x3 y_f y_n = some r → wW p l e (headSpec (Cond.code y_C_writeDecimal b_C_writeDecimal 4 (Option.none : Option FieldType) :: aw) ({ frames := 1, cells := 0, slots := 0, locals := 21 } : Room)).room s m ([.ref (h0), .int (a0)] : List Value).toArray below meth c (va_Qv (fun u => u = r) (fun (u : (Nat → Int32) × Int32) t => va_P (dC, dI) cls2 (wC cA h0 o u.1 u.2) t.heap) (aC h0 o)) (aC h0 o) H locs (F0 m 39 ls []) := by
        intro x2 x3 y_f y_n H locs ls hP hS hl hf
        rw [f_C_writeDecimal_L39] at hf
        have hD : va_D (aC h0 o) (wC cA h0 o y_f y_n) := dD hD0 rfl
        refine lv_aload_n hx hb d_C_writeDecimal_39 rfl (lv_at hl 0 rfl) ?_
        refine lv_bipush (v := 48) hx hb d_C_writeDecimal_40 (by decide) ?_
        refine lv_iload_n hx hb d_C_writeDecimal_42 rfl (lv_at hl 2 rfl) ?_
        refine lv_iload_n hx hb d_C_writeDecimal_43 rfl (lv_at hl 3 rfl) ?_
        obtain ⟨z_5, hf⟩ := ju_gd hf
        refine lv_idiv hx hb d_C_writeDecimal_44 z_5 ?_
        refine lv_bipush (v := 10) hx hb d_C_writeDecimal_45 (by decide) ?_
        refine lv_irem hx hb d_C_writeDecimal_47 (by decide) ?_
        refine lv_iadd hx hb d_C_writeDecimal_48 ?_
        refine lv_i2c (v := ju_i2c (48 + ((x2 / x3) - (x2 / x3) / 10 * 10))) hx hb d_C_writeDecimal_49 rfl ?_
        obtain ⟨r_6, g_7, hf⟩ := Option.bind_eq_some_iff.mp hf
        refine va_callv (va_runV (As := [.int (ju_i2c (48 + ((x2 / x3) - (x2 / x3) / 10 * 10)))]) (rest := []) ⟨hx, hb, hml, hown, hts⟩ (c_C_write l (ad := ad) (sk := sk) (sv := sv) (tK := tK) dC dI cA h0 o y_f y_n (ju_i2c (48 + ((x2 / x3) - (x2 / x3) / 10 * 10)))  r_6 g_7) (cwV 1 hts (aw_V aw_198 aw_200 aw_p8 aw_1 aw_201) rfl rfl rfl (by decide +kernel) ⟨Nat.le_of_ble_eq_true rfl, Nat.le_of_ble_eq_true rfl⟩) ⟨wBlind, va_recv hK hP (ci := 0) (q0 := 0) rfl rfl, fun U hU hW => ⟨rfl, by rw [hU]; exact hP, va_K.moved hW.alike hK, hD, hT.at hS hU hW (fun _ z => z)⟩⟩ rfl rfl hl.1 rfl (lv_room (Nat.le_of_ble_eq_true rfl)) d_C_writeDecimal_50 ⟨Nat.le_refl _, Nat.le_refl _⟩) hS (fun _ _ h => h) (fun _ h => h) (fun u t H1 locs ht1 hvm hw hB hz1 hk1 hS => ?_)
        rw [hw] at hB
        rw [ht1] at hB
        have hP : va_P (dC, dI) cls2 (wC cA h0 o r_6.1 r_6.2) H1 := hB
        have hD : va_D (aC h0 o) (wC cA h0 o r_6.1 r_6.2) := dD hD0 rfl
        refine lv_iload_n hx hb d_C_writeDecimal_53 rfl (lv_at hl 3 rfl) ?_
        refine lv_bipush (v := 10) hx hb d_C_writeDecimal_54 (by decide) ?_
        refine lv_idiv hx hb d_C_writeDecimal_56 (by decide) ?_
        refine lv_istore_n (lv' := [(3, .int (x3 / 10)), (0, .ref (h0)), (1, .int (a0)), (2, .int (x2))]) hx hb d_C_writeDecimal_57 rfl hl (by decide) rfl (fun ls hl => ?_)
        refine lv_goto (tgt := 25) hx hb d_C_writeDecimal_58 (by decide) ?_
        exact ih x2 (x3 / 10) r_6.1 r_6.2 _ _ _ hP hS (lv_sub hl [1, 2, 3, 0] rfl) hf
      refine lv_iload_n hx hb d_C_writeDecimal_25 rfl (lv_at hl 3 rfl) ?_
      refine lv_if_le (tgt := 61) hx hb d_C_writeDecimal_26 (by decide) (fun c_3 => ?_) (fun c_3 => ?_)
      · replace hf := (if_pos c_3).symm.trans hf
        exact W.vret hx hb hr (fun t ht hW => ⟨⟨(y_f, y_n), rfl, Option.some.inj hf, by rw [← ht] at hP; exact hP⟩, hS.F ht⟩) hS.2.2 d_C_writeDecimal_61
      · replace hf := (if_neg c_3).symm.trans hf
        refine lv_iload_n hx hb d_C_writeDecimal_29 rfl (lv_at hl 2 rfl) ?_
        refine lv_iload_n hx hb d_C_writeDecimal_30 rfl (lv_at hl 3 rfl) ?_
        refine lv_icmp_ge (tgt := 39) hx hb d_C_writeDecimal_31 (by decide) (fun c_4 => ?_) (fun c_4 => ?_)
        · replace hf := (if_pos c_4).symm.trans hf
          exact J39 x2 x3 y_f y_n _ _ _ hP hS (lv_sub hl [0, 1, 2, 3] rfl) hf
        · replace hf := (if_neg c_4).symm.trans hf
          refine lv_iload_n hx hb d_C_writeDecimal_34 rfl (lv_at hl 3 rfl) ?_
          refine lv_iconst (v := 1) hx hb d_C_writeDecimal_35 (by decide) ?_
          refine lv_icmp_ne (tgt := 53) hx hb d_C_writeDecimal_36 (by decide) (fun c_8 => ?_) (fun c_8 => ?_)
          · replace hf := (if_neg c_8).symm.trans hf
            refine lv_iload_n hx hb d_C_writeDecimal_53 rfl (lv_at hl 3 rfl) ?_
            refine lv_bipush (v := 10) hx hb d_C_writeDecimal_54 (by decide) ?_
            refine lv_idiv hx hb d_C_writeDecimal_56 (by decide) ?_
            refine lv_istore_n (lv' := [(3, .int (x3 / 10)), (0, .ref (h0)), (1, .int (a0)), (2, .int (x2))]) hx hb d_C_writeDecimal_57 rfl hl (by decide) rfl (fun ls hl => ?_)
            refine lv_goto (tgt := 25) hx hb d_C_writeDecimal_58 (by decide) ?_
            exact ih x2 (x3 / 10) y_f y_n _ _ _ hP hS (lv_sub hl [1, 2, 3, 0] rfl) hf
          · replace hf := (if_pos c_8).symm.trans hf
            exact J39 x2 x3 y_f y_n _ _ _ hP hS (lv_sub hl [0, 1, 2, 3] rfl) hf
  have J10 : ∀ (y_f : (Nat → Int32)) (y_n : Int32) (H : Heap) (locs : List Loc) (ls : Array Slot), va_P (dC, dI) cls2 (wC cA h0 o y_f y_n) H → va_S (aC h0 o) s.heap H locs → lv_has ls 4 [(0, .ref (h0)), (1, .int (a0))] → f_C_writeDecimal_L10 w_f w_n a0  y_f y_n = some r → wW p l e (headSpec (Cond.code y_C_writeDecimal b_C_writeDecimal 4 (Option.none : Option FieldType) :: aw) ({ frames := 1, cells := 0, slots := 0, locals := 21 } : Room)).room s m ([.ref (h0), .int (a0)] : List Value).toArray below meth c (va_Qv (fun u => u = r) (fun (u : (Nat → Int32) × Int32) t => va_P (dC, dI) cls2 (wC cA h0 o u.1 u.2) t.heap) (aC h0 o)) (aC h0 o) H locs (F0 m 10 ls []) := by
    intro y_f y_n H locs ls hP hS hl hf
    rw [f_C_writeDecimal_L10] at hf
    have hD : va_D (aC h0 o) (wC cA h0 o y_f y_n) := dD hD0 rfl
    refine lv_iload_n hx hb d_C_writeDecimal_10 rfl (lv_at hl 1 rfl) ?_
    refine lv_if_ge (tgt := 19) hx hb d_C_writeDecimal_11 (by decide) (fun c_2 => ?_) (fun c_2 => ?_)
    · replace hf := (if_pos c_2).symm.trans hf
      refine lv_iload_n hx hb d_C_writeDecimal_19 rfl (lv_at hl 1 rfl) ?_
      refine lv_istore_n (lv' := [(2, .int (a0)), (0, .ref (h0)), (1, .int (a0))]) hx hb d_C_writeDecimal_20 rfl hl (by decide) rfl (fun ls hl => ?_)
      refine lv_sipush (v := 1000) hx hb d_C_writeDecimal_21 (by decide) ?_
      refine lv_istore_n (lv' := [(3, .int (1000)), (2, .int (a0)), (0, .ref (h0)), (1, .int (a0))]) hx hb d_C_writeDecimal_24 rfl hl (by decide) rfl (fun ls hl => ?_)
      exact J25 40 a0 1000 y_f y_n _ _ _ hP hS (lv_sub hl [2, 3, 1, 0] rfl) hf
    · replace hf := (if_neg c_2).symm.trans hf
      refine lv_iload_n hx hb d_C_writeDecimal_14 rfl (lv_at hl 1 rfl) ?_
      refine lv_ineg hx hb d_C_writeDecimal_15 ?_
      refine lv_goto (tgt := 20) hx hb d_C_writeDecimal_16 (by decide) ?_
      refine lv_istore_n (lv' := [(2, .int (-a0)), (0, .ref (h0)), (1, .int (a0))]) hx hb d_C_writeDecimal_20 rfl hl (by decide) rfl (fun ls hl => ?_)
      refine lv_sipush (v := 1000) hx hb d_C_writeDecimal_21 (by decide) ?_
      refine lv_istore_n (lv' := [(3, .int (1000)), (2, .int (-a0)), (0, .ref (h0)), (1, .int (a0))]) hx hb d_C_writeDecimal_24 rfl hl (by decide) rfl (fun ls hl => ?_)
      exact J25 40 (-a0) 1000 y_f y_n _ _ _ hP hS (lv_sub hl [2, 3, 1, 0] rfl) hf
  rw [f_C_writeDecimal] at hf
  refine lv_iload_n hx hb d_C_writeDecimal_0 rfl (lv_at hl 1 rfl) ?_
  refine lv_if_ge (tgt := 10) hx hb d_C_writeDecimal_1 (by decide) (fun c_1 => ?_) (fun c_1 => ?_)
  · replace hf := (if_pos c_1).symm.trans hf
    exact J10 w_f w_n _ _ _ hP hS (lv_sub hl [0, 1] rfl) hf
  · replace hf := (if_neg c_1).symm.trans hf
    refine lv_aload_n hx hb d_C_writeDecimal_4 rfl (lv_at hl 0 rfl) ?_
    refine lv_bipush (v := 45) hx hb d_C_writeDecimal_5 (by decide) ?_
    obtain ⟨r_9, g_10, hf⟩ := Option.bind_eq_some_iff.mp hf
    refine va_callv (va_runV (As := [.int (45)]) (rest := []) ⟨hx, hb, hml, hown, hts⟩ (c_C_write l (ad := ad) (sk := sk) (sv := sv) (tK := tK) dC dI cA h0 o w_f w_n 45  r_9 g_10) (cwV 1 hts (aw_V aw_198 aw_200 aw_p8 aw_1 aw_201) rfl rfl rfl (by decide +kernel) ⟨Nat.le_of_ble_eq_true rfl, Nat.le_of_ble_eq_true rfl⟩) ⟨wBlind, va_recv hK hP (ci := 0) (q0 := 0) rfl rfl, fun U hU hW => ⟨rfl, by rw [hU]; exact hP, va_K.moved hW.alike hK, hD, hT.at hS hU hW (fun _ z => z)⟩⟩ rfl rfl hl.1 rfl (lv_room (Nat.le_of_ble_eq_true rfl)) d_C_writeDecimal_7 ⟨Nat.le_refl _, Nat.le_refl _⟩) hS (fun _ _ h => h) (fun _ h => h) (fun u t H1 locs ht1 hvm hw hB hz1 hk1 hS => ?_)
    rw [hw] at hB
    rw [ht1] at hB
    have hP : va_P (dC, dI) cls2 (wC cA h0 o r_9.1 r_9.2) H1 := hB
    have hD : va_D (aC h0 o) (wC cA h0 o r_9.1 r_9.2) := dD hD0 rfl
    exact J10 r_9.1 r_9.2 _ _ _ hP hS (lv_sub hl [0, 1] rfl) hf

def f_C_writeRegister_L6 (w_f : Nat → Int32) (w_n : Int32) (a0 : Int32)  : Nat → Int32 → Int32 → (Nat → Int32) → Int32 → Option ((Nat → Int32) × Int32)
  | 0, _, _, _, _ => none
  | n + 1, x2, x3, y_f, y_n =>
    if (x2 + 4) ≤ x3 then (some (y_f, y_n)) else (if x3 < 0 then (f_C_writeRegister_L6 w_f w_n a0  n x2 (x3 + 1) y_f y_n) else ((f_S_length 6).bind fun r_3 => if r_3 ≤ x3 then (f_C_writeRegister_L6 w_f w_n a0  n x2 (x3 + 1) y_f y_n) else ((f_S_charAt 6 x3).bind fun r_6 => if r_6 = 32 then (f_C_writeRegister_L6 w_f w_n a0  n x2 (x3 + 1) y_f y_n) else ((f_S_charAt 6 x3).bind fun r_9 => (f_C_write y_f y_n r_9).bind fun r_11 => f_C_writeRegister_L6 w_f w_n a0  n x2 (x3 + 1) r_11.1 r_11.2))))
def f_C_writeRegister (w_f : Nat → Int32) (w_n : Int32) (a0 : Int32) : Option ((Nat → Int32) × Int32) :=
  f_C_writeRegister_L6 w_f w_n a0  40 (a0 * 4) (a0 * 4) w_f w_n
set_option maxHeartbeats 1000000 in
set_option maxRecDepth 100000 in
theorem c_C_writeRegister (l : Launch) {ad sk sv : Nat → Nat} {tK : Nat} (dC : Nat → ClassId) (dI : Nat → Nat → Nat) (cA : ClassId) (h0 o : Nat) (w_f : Nat → Int32) (w_n : Int32) (a0 : Int32)  (r : (Nat → Int32) × Int32) (hf : f_C_writeRegister w_f w_n a0 = some r) : Met l y_C_writeRegister (Cond.code y_C_writeRegister b_C_writeRegister 4 (Option.none : Option FieldType) :: aw) ({ frames := 4, cells := 0, slots := 0, locals := 85 } : Room) (va_Pc [.ref (h0), .int (a0)] (fun U => va_P (dC, dI) cls2 (wC cA h0 o w_f w_n) U.heap ∧ va_K (dC, dI) cls2 [(cA, .char)] U ∧ va_D (aC h0 o) (wC cA h0 o w_f w_n) ∧ tb ad sk sv tK (aC h0 o) U U.heap)) (va_Qv (fun u => u = r) (fun (u : (Nat → Int32) × Int32) t => va_P (dC, dI) cls2 (wC cA h0 o u.1 u.2) t.heap) (aC h0 o)) 0 0 (aC h0 o) := by
  refine Met.ofW (cc := b_C_writeRegister) (maxL := 4) (ret := (Option.none : Option FieldType)) (by decide) rfl ?_
  intro p e s m args below meth c s₁ B hml hv
  obtain ⟨rfl, hP, hK, hD, hT⟩ := hv
  have hD0 := hD
  have hx := B.exec
  have hb := B.bytes
  have hr := B.returns
  have hts := atoms_spec (ws := (Cond.code y_C_writeRegister b_C_writeRegister 4 (Option.none : Option FieldType) :: aw)) B.pre
  have ht : ∀ {w : Cond}, w ∈ aw → w.before ([.ref (h0), .int (a0)] : List Value).toArray s = true := fun h => hts _ (List.mem_cons_of_mem _ h)
  have hown : s.vm.findClass "CodeWords" = some m.cls := findClass_of_methodNamed B.named
  have hlocks := B.notSynchronized
  have hS : va_S (aC h0 o) s.heap s.heap [] := va_S.rf
  have hl := lv_entry ([.ref (h0), .int (a0)]) (n := 4) (Nat.le_of_ble_eq_true rfl)
  rw [lg_entry_eq]
  generalize (lg_sl ([.ref (h0), .int (a0)]) ++ List.replicate (4 - (lg_sl ([.ref (h0), .int (a0)])).length) Slot.unset).toArray = ls at hl ⊢
  have hl : lv_has ls 4 [(0, .ref (h0)), (1, .int (a0))] := hl
  have J6 : ∀ (n : Nat) (x2 : Int32) (x3 : Int32) (y_f : (Nat → Int32)) (y_n : Int32) (H : Heap) (locs : List Loc) (ls : Array Slot), va_P (dC, dI) cls2 (wC cA h0 o y_f y_n) H → va_S (aC h0 o) s.heap H locs → lv_has ls 4 [(0, .ref (h0)), (1, .int (a0)), (2, .int (x2)), (3, .int (x3))] → f_C_writeRegister_L6 w_f w_n a0  n x2 x3 y_f y_n = some r → wW p l e (headSpec (Cond.code y_C_writeRegister b_C_writeRegister 4 (Option.none : Option FieldType) :: aw) ({ frames := 4, cells := 0, slots := 0, locals := 85 } : Room)).room s m ([.ref (h0), .int (a0)] : List Value).toArray below meth c (va_Qv (fun u => u = r) (fun (u : (Nat → Int32) × Int32) t => va_P (dC, dI) cls2 (wC cA h0 o u.1 u.2) t.heap) (aC h0 o)) (aC h0 o) H locs (F0 m 6 ls []) := by
    intro n
    induction n with
    | zero =>
      intro x2 x3 y_f y_n H locs ls hP hS hl hf
      rw [f_C_writeRegister_L6] at hf
      cases hf
    | succ n ih =>
      intro x2 x3 y_f y_n H locs ls hP hS hl hf
      rw [f_C_writeRegister_L6] at hf
      have hD : va_D (aC h0 o) (wC cA h0 o y_f y_n) := dD hD0 rfl
      refine lv_iload_n hx hb d_C_writeRegister_6 rfl (lv_at hl 3 rfl) ?_
      refine lv_iload_n hx hb d_C_writeRegister_7 rfl (lv_at hl 2 rfl) ?_
      refine lv_iconst (v := 4) hx hb d_C_writeRegister_8 (by decide) ?_
      refine lv_iadd hx hb d_C_writeRegister_9 ?_
      refine lv_icmp_ge (tgt := 53) hx hb d_C_writeRegister_10 (by decide) (fun c_1 => ?_) (fun c_1 => ?_)
      · replace hf := (if_pos c_1).symm.trans hf
        exact W.vret hx hb hr (fun t ht hW => ⟨⟨(y_f, y_n), rfl, Option.some.inj hf, by rw [← ht] at hP; exact hP⟩, hS.F ht⟩) hS.2.2 d_C_writeRegister_53
      · replace hf := (if_neg c_1).symm.trans hf
        refine lv_iload_n hx hb d_C_writeRegister_13 rfl (lv_at hl 3 rfl) ?_
        refine lv_if_lt (tgt := 47) hx hb d_C_writeRegister_14 (by decide) (fun c_2 => ?_) (fun c_2 => ?_)
        · replace hf := (if_pos c_2).symm.trans hf
          refine lv_iinc (v := x3 + 1) (lv' := [(3, .int (x3 + 1)), (0, .ref (h0)), (1, .int (a0)), (2, .int (x2))]) hx hb d_C_writeRegister_47 hl (k := 3) rfl rfl (by decide) rfl (fun ls hl => ?_)
          refine lv_goto (tgt := 6) hx hb d_C_writeRegister_50 (by decide) ?_
          exact ih x2 (x3 + 1) y_f y_n _ _ _ hP hS (lv_sub hl [1, 2, 3, 0] rfl) hf
        · replace hf := (if_neg c_2).symm.trans hf
          refine lv_iload_n hx hb d_C_writeRegister_17 rfl (lv_at hl 3 rfl) ?_
          refine va_ldcS hx hb hown (tb_r176 hT) d_C_writeRegister_18 ?_
          obtain ⟨r_3, g_4, hf⟩ := Option.bind_eq_some_iff.mp hf
          refine ju_calli (W.runV (As := []) (rest := [.int (x3)]) ⟨hx, hb, hml, hown, hts⟩ (c_S_length l (ad := ad) (sk := sk) (sv := sv) (tK := tK)  6 (by decide) r_3 g_4) (cwV 0 hts (aw_V aw_174 aw_62 aw_63 aw_7 aw_64) rfl rfl rfl (by decide +kernel) ⟨Nat.le_of_ble_eq_true rfl, Nat.le_of_ble_eq_true rfl⟩) ⟨fun a U g mk q => ⟨q.1, q.2.call⟩, tb_recvS hT (by decide) hS, fun U hU hW => ⟨rfl, hT.at hS hU hW (fun _ z => z.elim)⟩⟩ rfl rfl hl.1 rfl (lv_room (Nat.le_of_ble_eq_true rfl)) d_C_writeRegister_20 ⟨Nat.le_refl _, Nat.le_refl _⟩) ?_
          refine lv_icmp_ge (tgt := 47) hx hb d_C_writeRegister_23 (by decide) (fun c_5 => ?_) (fun c_5 => ?_)
          · replace hf := (if_pos c_5).symm.trans hf
            refine lv_iinc (v := x3 + 1) (lv' := [(3, .int (x3 + 1)), (0, .ref (h0)), (1, .int (a0)), (2, .int (x2))]) hx hb d_C_writeRegister_47 hl (k := 3) rfl rfl (by decide) rfl (fun ls hl => ?_)
            refine lv_goto (tgt := 6) hx hb d_C_writeRegister_50 (by decide) ?_
            exact ih x2 (x3 + 1) y_f y_n _ _ _ hP hS (lv_sub hl [1, 2, 3, 0] rfl) hf
          · replace hf := (if_neg c_5).symm.trans hf
            refine va_ldcS hx hb hown (tb_r176 hT) d_C_writeRegister_26 ?_
            refine lv_iload_n hx hb d_C_writeRegister_28 rfl (lv_at hl 3 rfl) ?_
            obtain ⟨r_6, g_7, hf⟩ := Option.bind_eq_some_iff.mp hf
            refine ju_calli (W.runV (As := [.int (x3)]) (rest := []) ⟨hx, hb, hml, hown, hts⟩ (c_S_charAt l (ad := ad) (sk := sk) (sv := sv) (tK := tK)  6 x3 (by decide) r_6 g_7) (cwV 1 hts (aw_V aw_175 aw_72 aw_73 aw_7 aw_74) rfl rfl rfl (by decide +kernel) ⟨Nat.le_of_ble_eq_true rfl, Nat.le_of_ble_eq_true rfl⟩) ⟨fun a U g mk q => ⟨q.1, q.2.call⟩, tb_recvS hT (by decide) hS, fun U hU hW => ⟨rfl, hT.at hS hU hW (fun _ z => z.elim)⟩⟩ rfl rfl hl.1 rfl (lv_room (Nat.le_of_ble_eq_true rfl)) d_C_writeRegister_29 ⟨Nat.le_refl _, Nat.le_refl _⟩) ?_
            refine lv_bipush (v := 32) hx hb d_C_writeRegister_32 (by decide) ?_
            refine lv_icmp_eq (tgt := 47) hx hb d_C_writeRegister_34 (by decide) (fun c_8 => ?_) (fun c_8 => ?_)
            · replace hf := (if_pos c_8).symm.trans hf
              refine lv_iinc (v := x3 + 1) (lv' := [(3, .int (x3 + 1)), (0, .ref (h0)), (1, .int (a0)), (2, .int (x2))]) hx hb d_C_writeRegister_47 hl (k := 3) rfl rfl (by decide) rfl (fun ls hl => ?_)
              refine lv_goto (tgt := 6) hx hb d_C_writeRegister_50 (by decide) ?_
              exact ih x2 (x3 + 1) y_f y_n _ _ _ hP hS (lv_sub hl [1, 2, 3, 0] rfl) hf
            · replace hf := (if_neg c_8).symm.trans hf
              refine lv_aload_n hx hb d_C_writeRegister_37 rfl (lv_at hl 0 rfl) ?_
              refine va_ldcS hx hb hown (tb_r176 hT) d_C_writeRegister_38 ?_
              refine lv_iload_n hx hb d_C_writeRegister_40 rfl (lv_at hl 3 rfl) ?_
              obtain ⟨r_9, g_10, hf⟩ := Option.bind_eq_some_iff.mp hf
              refine ju_calli (W.runV (As := [.int (x3)]) (rest := [.ref (h0)]) ⟨hx, hb, hml, hown, hts⟩ (c_S_charAt l (ad := ad) (sk := sk) (sv := sv) (tK := tK)  6 x3 (by decide) r_9 g_10) (cwV 1 hts (aw_V aw_175 aw_72 aw_73 aw_7 aw_74) rfl rfl rfl (by decide +kernel) ⟨Nat.le_of_ble_eq_true rfl, Nat.le_of_ble_eq_true rfl⟩) ⟨fun a U g mk q => ⟨q.1, q.2.call⟩, tb_recvS hT (by decide) hS, fun U hU hW => ⟨rfl, hT.at hS hU hW (fun _ z => z.elim)⟩⟩ rfl rfl hl.1 rfl (lv_room (Nat.le_of_ble_eq_true rfl)) d_C_writeRegister_41 ⟨Nat.le_refl _, Nat.le_refl _⟩) ?_
              obtain ⟨r_11, g_12, hf⟩ := Option.bind_eq_some_iff.mp hf
              refine va_callv (va_runV (As := [.int (r_9)]) (rest := []) ⟨hx, hb, hml, hown, hts⟩ (c_C_write l (ad := ad) (sk := sk) (sv := sv) (tK := tK) dC dI cA h0 o y_f y_n r_9  r_11 g_12) (cwV 1 hts (aw_V aw_198 aw_200 aw_p8 aw_1 aw_201) rfl rfl rfl (by decide +kernel) ⟨Nat.le_of_ble_eq_true rfl, Nat.le_of_ble_eq_true rfl⟩) ⟨wBlind, va_recv hK hP (ci := 0) (q0 := 0) rfl rfl, fun U hU hW => ⟨rfl, by rw [hU]; exact hP, va_K.moved hW.alike hK, hD, hT.at hS hU hW (fun _ z => z)⟩⟩ rfl rfl hl.1 rfl (lv_room (Nat.le_of_ble_eq_true rfl)) d_C_writeRegister_44 ⟨Nat.le_refl _, Nat.le_refl _⟩) hS (fun _ _ h => h) (fun _ h => h) (fun u t H1 locs ht1 hvm hw hB hz1 hk1 hS => ?_)
              rw [hw] at hB
              rw [ht1] at hB
              have hP : va_P (dC, dI) cls2 (wC cA h0 o r_11.1 r_11.2) H1 := hB
              have hD : va_D (aC h0 o) (wC cA h0 o r_11.1 r_11.2) := dD hD0 rfl
              refine lv_iinc (v := x3 + 1) (lv' := [(3, .int (x3 + 1)), (0, .ref (h0)), (1, .int (a0)), (2, .int (x2))]) hx hb d_C_writeRegister_47 hl (k := 3) rfl rfl (by decide) rfl (fun ls hl => ?_)
              refine lv_goto (tgt := 6) hx hb d_C_writeRegister_50 (by decide) ?_
              exact ih x2 (x3 + 1) r_11.1 r_11.2 _ _ _ hP hS (lv_sub hl [1, 2, 3, 0] rfl) hf
  rw [f_C_writeRegister] at hf
  refine lv_iload_n hx hb d_C_writeRegister_0 rfl (lv_at hl 1 rfl) ?_
  refine lv_iconst (v := 4) hx hb d_C_writeRegister_1 (by decide) ?_
  refine lv_imul hx hb d_C_writeRegister_2 ?_
  refine lv_istore_n (lv' := [(2, .int (a0 * 4)), (0, .ref (h0)), (1, .int (a0))]) hx hb d_C_writeRegister_3 rfl hl (by decide) rfl (fun ls hl => ?_)
  refine lv_iload_n hx hb d_C_writeRegister_4 rfl (lv_at hl 0 rfl) ?_
  refine lv_istore_n (lv' := [(3, .int (a0 * 4)), (2, .int (a0 * 4)), (0, .ref (h0)), (1, .int (a0))]) hx hb d_C_writeRegister_5 rfl hl (by decide) rfl (fun ls hl => ?_)
  exact J6 40 (a0 * 4) (a0 * 4) w_f w_n _ _ _ hP hS (lv_sub hl [2, 3, 1, 0] rfl) hf

def f_C_writeOffset (w_f : Nat → Int32) (w_n : Int32) (a0 : Int32) (a1 : Int32) : Option ((Nat → Int32) × Int32) :=
  (f_C_writeDecimal w_f w_n a0).bind fun r_1 => (f_C_write r_1.1 r_1.2 40).bind fun r_3 => (f_C_writeRegister r_3.1 r_3.2 a1).bind fun r_5 => (f_C_write r_5.1 r_5.2 41).bind fun r_7 => some (r_7.1, r_7.2)
set_option maxHeartbeats 1000000 in
set_option maxRecDepth 100000 in
theorem c_C_writeOffset (l : Launch) {ad sk sv : Nat → Nat} {tK : Nat} (dC : Nat → ClassId) (dI : Nat → Nat → Nat) (cA : ClassId) (h0 o : Nat) (w_f : Nat → Int32) (w_n : Int32) (a0 : Int32) (a1 : Int32)  (r : (Nat → Int32) × Int32) (hf : f_C_writeOffset w_f w_n a0 a1 = some r) : Met l y_C_writeOffset (Cond.code y_C_writeOffset b_C_writeOffset 3 (Option.none : Option FieldType) :: aw) ({ frames := 5, cells := 0, slots := 0, locals := 108 } : Room) (va_Pc [.ref (h0), .int (a0), .int (a1)] (fun U => va_P (dC, dI) cls2 (wC cA h0 o w_f w_n) U.heap ∧ va_K (dC, dI) cls2 [(cA, .char)] U ∧ va_D (aC h0 o) (wC cA h0 o w_f w_n) ∧ tb ad sk sv tK (aC h0 o) U U.heap)) (va_Qv (fun u => u = r) (fun (u : (Nat → Int32) × Int32) t => va_P (dC, dI) cls2 (wC cA h0 o u.1 u.2) t.heap) (aC h0 o)) 0 0 (aC h0 o) := by
  refine Met.ofW (cc := b_C_writeOffset) (maxL := 3) (ret := (Option.none : Option FieldType)) (by decide) rfl ?_
  intro p e s m args below meth c s₁ B hml hv
  obtain ⟨rfl, hP, hK, hD, hT⟩ := hv
  have hD0 := hD
  have hx := B.exec
  have hb := B.bytes
  have hr := B.returns
  have hts := atoms_spec (ws := (Cond.code y_C_writeOffset b_C_writeOffset 3 (Option.none : Option FieldType) :: aw)) B.pre
  have ht : ∀ {w : Cond}, w ∈ aw → w.before ([.ref (h0), .int (a0), .int (a1)] : List Value).toArray s = true := fun h => hts _ (List.mem_cons_of_mem _ h)
  have hown : s.vm.findClass "CodeWords" = some m.cls := findClass_of_methodNamed B.named
  have hlocks := B.notSynchronized
  have hS : va_S (aC h0 o) s.heap s.heap [] := va_S.rf
  have hl := lv_entry ([.ref (h0), .int (a0), .int (a1)]) (n := 3) (Nat.le_of_ble_eq_true rfl)
  rw [lg_entry_eq]
  generalize (lg_sl ([.ref (h0), .int (a0), .int (a1)]) ++ List.replicate (3 - (lg_sl ([.ref (h0), .int (a0), .int (a1)])).length) Slot.unset).toArray = ls at hl ⊢
  have hl : lv_has ls 3 [(0, .ref (h0)), (1, .int (a0)), (2, .int (a1))] := hl
  rw [f_C_writeOffset] at hf
  refine lv_aload_n hx hb d_C_writeOffset_0 rfl (lv_at hl 0 rfl) ?_
  refine lv_iload_n hx hb d_C_writeOffset_1 rfl (lv_at hl 1 rfl) ?_
  obtain ⟨r_1, g_2, hf⟩ := Option.bind_eq_some_iff.mp hf
  refine va_callv (va_runV (As := [.int (a0)]) (rest := []) ⟨hx, hb, hml, hown, hts⟩ (c_C_writeDecimal l (ad := ad) (sk := sk) (sv := sv) (tK := tK) dC dI cA h0 o w_f w_n a0  r_1 g_2) (cwV 1 hts (aw_V aw_228 aw_230 aw_p13 aw_1 aw_231) rfl rfl rfl (by decide +kernel) ⟨Nat.le_of_ble_eq_true rfl, Nat.le_of_ble_eq_true rfl⟩) ⟨wBlind, va_recv hK hP (ci := 0) (q0 := 0) rfl rfl, fun U hU hW => ⟨rfl, by rw [hU]; exact hP, va_K.moved hW.alike hK, hD, hT.at hS hU hW (fun _ z => z)⟩⟩ rfl rfl hl.1 rfl (lv_room (Nat.le_of_ble_eq_true rfl)) d_C_writeOffset_2 ⟨Nat.le_refl _, Nat.le_refl _⟩) hS (fun _ _ h => h) (fun _ h => h) (fun u t H1 locs ht1 hvm hw hB hz1 hk1 hS => ?_)
  rw [hw] at hB
  rw [ht1] at hB
  have hP : va_P (dC, dI) cls2 (wC cA h0 o r_1.1 r_1.2) H1 := hB
  have hD : va_D (aC h0 o) (wC cA h0 o r_1.1 r_1.2) := dD hD0 rfl
  refine lv_aload_n hx hb d_C_writeOffset_5 rfl (lv_at hl 0 rfl) ?_
  refine lv_bipush (v := 40) hx hb d_C_writeOffset_6 (by decide) ?_
  obtain ⟨r_3, g_4, hf⟩ := Option.bind_eq_some_iff.mp hf
  refine va_callv (va_runV (As := [.int (40)]) (rest := []) ⟨hx, hb, hml, hown, hts⟩ (c_C_write l (ad := ad) (sk := sk) (sv := sv) (tK := tK) dC dI cA h0 o r_1.1 r_1.2 40  r_3 g_4) (cwV 1 hts (aw_V aw_198 aw_200 aw_p8 aw_1 aw_201) rfl rfl rfl (by decide +kernel) ⟨Nat.le_of_ble_eq_true rfl, Nat.le_of_ble_eq_true rfl⟩) ⟨wBlind, va_recv hK hP (ci := 0) (q0 := 0) rfl rfl, fun U hU hW => ⟨rfl, by rw [hU]; exact hP, va_K.moved hW.alike hK, hD, hT.at hS hU hW (fun _ z => z)⟩⟩ rfl rfl hl.1 rfl (lv_room (Nat.le_of_ble_eq_true rfl)) d_C_writeOffset_8 ⟨Nat.le_refl _, Nat.le_refl _⟩) hS (fun _ _ h => h) (fun _ h => h) (fun u t H1 locs ht1 hvm hw hB hz1 hk1 hS => ?_)
  rw [hw] at hB
  rw [ht1] at hB
  have hP : va_P (dC, dI) cls2 (wC cA h0 o r_3.1 r_3.2) H1 := hB
  have hD : va_D (aC h0 o) (wC cA h0 o r_3.1 r_3.2) := dD hD0 rfl
  refine lv_aload_n hx hb d_C_writeOffset_11 rfl (lv_at hl 0 rfl) ?_
  refine lv_iload_n hx hb d_C_writeOffset_12 rfl (lv_at hl 2 rfl) ?_
  obtain ⟨r_5, g_6, hf⟩ := Option.bind_eq_some_iff.mp hf
  refine va_callv (va_runV (As := [.int (a1)]) (rest := []) ⟨hx, hb, hml, hown, hts⟩ (c_C_writeRegister l (ad := ad) (sk := sk) (sv := sv) (tK := tK) dC dI cA h0 o r_3.1 r_3.2 a1  r_5 g_6) (cwV 1 hts (aw_V aw_223 aw_225 aw_p12 aw_1 aw_226) rfl rfl rfl (by decide +kernel) ⟨Nat.le_of_ble_eq_true rfl, Nat.le_of_ble_eq_true rfl⟩) ⟨wBlind, va_recv hK hP (ci := 0) (q0 := 0) rfl rfl, fun U hU hW => ⟨rfl, by rw [hU]; exact hP, va_K.moved hW.alike hK, hD, hT.at hS hU hW (fun _ z => z)⟩⟩ rfl rfl hl.1 rfl (lv_room (Nat.le_of_ble_eq_true rfl)) d_C_writeOffset_13 ⟨Nat.le_refl _, Nat.le_refl _⟩) hS (fun _ _ h => h) (fun _ h => h) (fun u t H1 locs ht1 hvm hw hB hz1 hk1 hS => ?_)
  rw [hw] at hB
  rw [ht1] at hB
  have hP : va_P (dC, dI) cls2 (wC cA h0 o r_5.1 r_5.2) H1 := hB
  have hD : va_D (aC h0 o) (wC cA h0 o r_5.1 r_5.2) := dD hD0 rfl
  refine lv_aload_n hx hb d_C_writeOffset_16 rfl (lv_at hl 0 rfl) ?_
  refine lv_bipush (v := 41) hx hb d_C_writeOffset_17 (by decide) ?_
  obtain ⟨r_7, g_8, hf⟩ := Option.bind_eq_some_iff.mp hf
  refine va_callv (va_runV (As := [.int (41)]) (rest := []) ⟨hx, hb, hml, hown, hts⟩ (c_C_write l (ad := ad) (sk := sk) (sv := sv) (tK := tK) dC dI cA h0 o r_5.1 r_5.2 41  r_7 g_8) (cwV 1 hts (aw_V aw_198 aw_200 aw_p8 aw_1 aw_201) rfl rfl rfl (by decide +kernel) ⟨Nat.le_of_ble_eq_true rfl, Nat.le_of_ble_eq_true rfl⟩) ⟨wBlind, va_recv hK hP (ci := 0) (q0 := 0) rfl rfl, fun U hU hW => ⟨rfl, by rw [hU]; exact hP, va_K.moved hW.alike hK, hD, hT.at hS hU hW (fun _ z => z)⟩⟩ rfl rfl hl.1 rfl (lv_room (Nat.le_of_ble_eq_true rfl)) d_C_writeOffset_19 ⟨Nat.le_refl _, Nat.le_refl _⟩) hS (fun _ _ h => h) (fun _ h => h) (fun u t H1 locs ht1 hvm hw hB hz1 hk1 hS => ?_)
  rw [hw] at hB
  rw [ht1] at hB
  have hP : va_P (dC, dI) cls2 (wC cA h0 o r_7.1 r_7.2) H1 := hB
  have hD : va_D (aC h0 o) (wC cA h0 o r_7.1 r_7.2) := dD hD0 rfl
  exact W.vret hx hb hr (fun t ht hW => ⟨⟨(r_7.1, r_7.2), rfl, Option.some.inj hf, by rw [← ht] at hP; exact hP⟩, hS.F ht⟩) hS.2.2 d_C_writeOffset_22

def f_C_writeOperand (w_f : Nat → Int32) (w_n : Int32) (a0 : Int32) (a1 : Nat) (a2 : Int32) (a3 : Int32) : Option ((Nat → Int32) × Int32) :=
  if a0 = 73 then ((f_K_immediate a1 a2).bind fun r_2 => (f_C_writeDecimal w_f w_n r_2).bind fun r_4 => some (r_4.1, r_4.2)) else ( if a0 = 79 then ((f_K_immediate a1 a2).bind fun r_7 => (f_K_register a1 a2 2).bind fun r_9 => (f_C_writeOffset w_f w_n r_7 r_9).bind fun r_11 => some (r_11.1, r_11.2)) else ( if a0 = 80 then ((f_K_immediate a1 a2).bind fun r_14 => (f_C_writeHex w_f w_n (a3 + r_14)).bind fun r_16 => some (r_16.1, r_16.2)) else ( if a0 = 83 then ((f_K_immediate a1 a2).bind fun r_19 => (f_C_writeOffset w_f w_n r_19 2).bind fun r_21 => some (r_21.1, r_21.2)) else ( if a0 = 97 then ((f_K_register a1 a2 2).bind fun r_24 => (f_C_writeRegister w_f w_n r_24).bind fun r_26 => some (r_26.1, r_26.2)) else ( if a0 = 98 then ((f_K_register a1 a2 4).bind fun r_29 => (f_C_writeRegister w_f w_n r_29).bind fun r_31 => some (r_31.1, r_31.2)) else ( if a0 = 100 then ((f_K_register a1 a2 1).bind fun r_34 => (f_C_writeRegister w_f w_n r_34).bind fun r_36 => some (r_36.1, r_36.2)) else ( if a0 = 115 then ((f_C_writeRegister w_f w_n 2).bind fun r_39 => some (r_39.1, r_39.2)) else ((f_K_immediate a1 a2).bind fun r_41 => (f_C_writeHex w_f w_n r_41).bind fun r_43 => some (r_43.1, r_43.2)))))))))
set_option maxHeartbeats 1000000 in
set_option maxRecDepth 100000 in
theorem c_C_writeOperand (l : Launch) {ad sk sv : Nat → Nat} {tK : Nat} (dC : Nat → ClassId) (dI : Nat → Nat → Nat) (cA : ClassId) (h0 o : Nat) (w_f : Nat → Int32) (w_n : Int32) (a0 : Int32) (a1 : Nat) (a2 : Int32) (a3 : Int32) (ha1 : a1 < 75) (r : (Nat → Int32) × Int32) (hf : f_C_writeOperand w_f w_n a0 a1 a2 a3 = some r) : Met l y_C_writeOperand (Cond.code y_C_writeOperand b_C_writeOperand 5 (Option.none : Option FieldType) :: aw) ({ frames := 6, cells := 0, slots := 0, locals := 130 } : Room) (va_Pc [.ref (h0), .int (a0), .ref (ad a1), .int (a2), .int (a3)] (fun U => va_P (dC, dI) cls2 (wC cA h0 o w_f w_n) U.heap ∧ va_K (dC, dI) cls2 [(cA, .char)] U ∧ va_D (aC h0 o) (wC cA h0 o w_f w_n) ∧ tb ad sk sv tK (aC h0 o) U U.heap)) (va_Qv (fun u => u = r) (fun (u : (Nat → Int32) × Int32) t => va_P (dC, dI) cls2 (wC cA h0 o u.1 u.2) t.heap) (aC h0 o)) 0 0 (aC h0 o) := by
  refine Met.ofW (cc := b_C_writeOperand) (maxL := 5) (ret := (Option.none : Option FieldType)) (by decide) rfl ?_
  intro p e s m args below meth c s₁ B hml hv
  obtain ⟨rfl, hP, hK, hD, hT⟩ := hv
  have hD0 := hD
  have hx := B.exec
  have hb := B.bytes
  have hr := B.returns
  have hts := atoms_spec (ws := (Cond.code y_C_writeOperand b_C_writeOperand 5 (Option.none : Option FieldType) :: aw)) B.pre
  have ht : ∀ {w : Cond}, w ∈ aw → w.before ([.ref (h0), .int (a0), .ref (ad a1), .int (a2), .int (a3)] : List Value).toArray s = true := fun h => hts _ (List.mem_cons_of_mem _ h)
  have hown : s.vm.findClass "CodeWords" = some m.cls := findClass_of_methodNamed B.named
  have hlocks := B.notSynchronized
  have hS : va_S (aC h0 o) s.heap s.heap [] := va_S.rf
  have hl := lv_entry ([.ref (h0), .int (a0), .ref (ad a1), .int (a2), .int (a3)]) (n := 5) (Nat.le_of_ble_eq_true rfl)
  rw [lg_entry_eq]
  generalize (lg_sl ([.ref (h0), .int (a0), .ref (ad a1), .int (a2), .int (a3)]) ++ List.replicate (5 - (lg_sl ([.ref (h0), .int (a0), .ref (ad a1), .int (a2), .int (a3)])).length) Slot.unset).toArray = ls at hl ⊢
  have hl : lv_has ls 5 [(0, .ref (h0)), (1, .int (a0)), (2, .ref (ad a1)), (3, .int (a2)), (4, .int (a3))] := hl
  rw [f_C_writeOperand] at hf
  refine lv_iload_n hx hb d_C_writeOperand_0 rfl (lv_at hl 1 rfl) ?_
  by_cases c_1 : a0 = 73
  · replace hf := (if_pos c_1).symm.trans hf
    refine lv_lookup (tgt := 123) hx hb d_C_writeOperand_1 (by decide) (by rw [c_1] <;> rfl) (by decide) ?_
    refine lv_aload_n hx hb d_C_writeOperand_123 rfl (lv_at hl 0 rfl) ?_
    refine lv_aload_n hx hb d_C_writeOperand_124 rfl (lv_at hl 2 rfl) ?_
    refine lv_iload_n hx hb d_C_writeOperand_125 rfl (lv_at hl 3 rfl) ?_
    obtain ⟨r_2, g_3, hf⟩ := Option.bind_eq_some_iff.mp hf
    refine ju_calli (W.runV (As := [.int (a2)]) (rest := [.ref (h0)]) ⟨hx, hb, hml, hown, hts⟩ (c_K_immediate l (ad := ad) (sk := sk) (sv := sv) (tK := tK)  a1 a2 ha1 r_2 g_3) (cwV 1 hts (aw_V aw_148 aw_113 aw_114 aw_12 aw_115) rfl rfl rfl (by decide +kernel) ⟨Nat.le_of_ble_eq_true rfl, Nat.le_of_ble_eq_true rfl⟩) ⟨fun a U g mk q => ⟨q.1, q.2.call⟩, tb_recvK hT ha1 hS, fun U hU hW => ⟨rfl, hT.at hS hU hW (fun _ z => z.elim)⟩⟩ rfl rfl hl.1 rfl (lv_room (Nat.le_of_ble_eq_true rfl)) d_C_writeOperand_126 ⟨Nat.le_refl _, Nat.le_refl _⟩) ?_
    obtain ⟨r_4, g_5, hf⟩ := Option.bind_eq_some_iff.mp hf
    refine va_callv (va_runV (As := [.int (r_2)]) (rest := []) ⟨hx, hb, hml, hown, hts⟩ (c_C_writeDecimal l (ad := ad) (sk := sk) (sv := sv) (tK := tK) dC dI cA h0 o w_f w_n r_2  r_4 g_5) (cwV 1 hts (aw_V aw_228 aw_230 aw_p13 aw_1 aw_231) rfl rfl rfl (by decide +kernel) ⟨Nat.le_of_ble_eq_true rfl, Nat.le_of_ble_eq_true rfl⟩) ⟨wBlind, va_recv hK hP (ci := 0) (q0 := 0) rfl rfl, fun U hU hW => ⟨rfl, by rw [hU]; exact hP, va_K.moved hW.alike hK, hD, hT.at hS hU hW (fun _ z => z)⟩⟩ rfl rfl hl.1 rfl (lv_room (Nat.le_of_ble_eq_true rfl)) d_C_writeOperand_129 ⟨Nat.le_refl _, Nat.le_refl _⟩) hS (fun _ _ h => h) (fun _ h => h) (fun u t H1 locs ht1 hvm hw hB hz1 hk1 hS => ?_)
    rw [hw] at hB
    rw [ht1] at hB
    have hP : va_P (dC, dI) cls2 (wC cA h0 o r_4.1 r_4.2) H1 := hB
    have hD : va_D (aC h0 o) (wC cA h0 o r_4.1 r_4.2) := dD hD0 rfl
    refine lv_goto (tgt := 190) hx hb d_C_writeOperand_132 (by decide) ?_
    exact W.vret hx hb hr (fun t ht hW => ⟨⟨(r_4.1, r_4.2), rfl, Option.some.inj hf, by rw [← ht] at hP; exact hP⟩, hS.F ht⟩) hS.2.2 d_C_writeOperand_190
  · replace hf := (if_neg c_1).symm.trans hf
    by_cases c_6 : a0 = 79
    · replace hf := (if_pos c_6).symm.trans hf
      refine lv_lookup (tgt := 135) hx hb d_C_writeOperand_1 (by decide) (by rw [c_6] <;> rfl) (by decide) ?_
      refine lv_aload_n hx hb d_C_writeOperand_135 rfl (lv_at hl 0 rfl) ?_
      refine lv_aload_n hx hb d_C_writeOperand_136 rfl (lv_at hl 2 rfl) ?_
      refine lv_iload_n hx hb d_C_writeOperand_137 rfl (lv_at hl 3 rfl) ?_
      obtain ⟨r_7, g_8, hf⟩ := Option.bind_eq_some_iff.mp hf
      refine ju_calli (W.runV (As := [.int (a2)]) (rest := [.ref (h0)]) ⟨hx, hb, hml, hown, hts⟩ (c_K_immediate l (ad := ad) (sk := sk) (sv := sv) (tK := tK)  a1 a2 ha1 r_7 g_8) (cwV 1 hts (aw_V aw_148 aw_113 aw_114 aw_12 aw_115) rfl rfl rfl (by decide +kernel) ⟨Nat.le_of_ble_eq_true rfl, Nat.le_of_ble_eq_true rfl⟩) ⟨fun a U g mk q => ⟨q.1, q.2.call⟩, tb_recvK hT ha1 hS, fun U hU hW => ⟨rfl, hT.at hS hU hW (fun _ z => z.elim)⟩⟩ rfl rfl hl.1 rfl (lv_room (Nat.le_of_ble_eq_true rfl)) d_C_writeOperand_138 ⟨Nat.le_refl _, Nat.le_refl _⟩) ?_
      refine lv_aload_n hx hb d_C_writeOperand_141 rfl (lv_at hl 2 rfl) ?_
      refine lv_iload_n hx hb d_C_writeOperand_142 rfl (lv_at hl 3 rfl) ?_
      refine lv_iconst (v := 2) hx hb d_C_writeOperand_143 (by decide) ?_
      obtain ⟨r_9, g_10, hf⟩ := Option.bind_eq_some_iff.mp hf
      refine ju_calli (W.runV (As := [.int (a2), .int (2)]) (rest := [.int (r_7), .ref (h0)]) ⟨hx, hb, hml, hown, hts⟩ (c_K_register l (ad := ad) (sk := sk) (sv := sv) (tK := tK)  a1 a2 2 ha1 r_9 g_10) (cwV 2 hts (aw_V aw_147 aw_45 aw_46 aw_12 aw_47) rfl rfl rfl (by decide +kernel) ⟨Nat.le_of_ble_eq_true rfl, Nat.le_of_ble_eq_true rfl⟩) ⟨fun a U g mk q => ⟨q.1, q.2.call⟩, tb_recvK hT ha1 hS, fun U hU hW => ⟨rfl, hT.at hS hU hW (fun _ z => z.elim)⟩⟩ rfl rfl hl.1 rfl (lv_room (Nat.le_of_ble_eq_true rfl)) d_C_writeOperand_144 ⟨Nat.le_refl _, Nat.le_refl _⟩) ?_
      obtain ⟨r_11, g_12, hf⟩ := Option.bind_eq_some_iff.mp hf
      refine va_callv (va_runV (As := [.int (r_7), .int (r_9)]) (rest := []) ⟨hx, hb, hml, hown, hts⟩ (c_C_writeOffset l (ad := ad) (sk := sk) (sv := sv) (tK := tK) dC dI cA h0 o w_f w_n r_7 r_9  r_11 g_12) (cwV 2 hts (aw_V aw_232 aw_234 aw_p14 aw_1 aw_235) rfl rfl rfl (by decide +kernel) ⟨Nat.le_of_ble_eq_true rfl, Nat.le_of_ble_eq_true rfl⟩) ⟨wBlind, va_recv hK hP (ci := 0) (q0 := 0) rfl rfl, fun U hU hW => ⟨rfl, by rw [hU]; exact hP, va_K.moved hW.alike hK, hD, hT.at hS hU hW (fun _ z => z)⟩⟩ rfl rfl hl.1 rfl (lv_room (Nat.le_of_ble_eq_true rfl)) d_C_writeOperand_147 ⟨Nat.le_refl _, Nat.le_refl _⟩) hS (fun _ _ h => h) (fun _ h => h) (fun u t H1 locs ht1 hvm hw hB hz1 hk1 hS => ?_)
      rw [hw] at hB
      rw [ht1] at hB
      have hP : va_P (dC, dI) cls2 (wC cA h0 o r_11.1 r_11.2) H1 := hB
      have hD : va_D (aC h0 o) (wC cA h0 o r_11.1 r_11.2) := dD hD0 rfl
      refine lv_goto (tgt := 190) hx hb d_C_writeOperand_150 (by decide) ?_
      exact W.vret hx hb hr (fun t ht hW => ⟨⟨(r_11.1, r_11.2), rfl, Option.some.inj hf, by rw [← ht] at hP; exact hP⟩, hS.F ht⟩) hS.2.2 d_C_writeOperand_190
    · replace hf := (if_neg c_6).symm.trans hf
      by_cases c_13 : a0 = 80
      · replace hf := (if_pos c_13).symm.trans hf
        refine lv_lookup (tgt := 166) hx hb d_C_writeOperand_1 (by decide) (by rw [c_13] <;> rfl) (by decide) ?_
        refine lv_aload_n hx hb d_C_writeOperand_166 rfl (lv_at hl 0 rfl) ?_
        refine lv_iload hx hb d_C_writeOperand_167 (lv_at hl 4 rfl) ?_
        refine lv_aload_n hx hb d_C_writeOperand_169 rfl (lv_at hl 2 rfl) ?_
        refine lv_iload_n hx hb d_C_writeOperand_170 rfl (lv_at hl 3 rfl) ?_
        obtain ⟨r_14, g_15, hf⟩ := Option.bind_eq_some_iff.mp hf
        refine ju_calli (W.runV (As := [.int (a2)]) (rest := [.int (a3), .ref (h0)]) ⟨hx, hb, hml, hown, hts⟩ (c_K_immediate l (ad := ad) (sk := sk) (sv := sv) (tK := tK)  a1 a2 ha1 r_14 g_15) (cwV 1 hts (aw_V aw_148 aw_113 aw_114 aw_12 aw_115) rfl rfl rfl (by decide +kernel) ⟨Nat.le_of_ble_eq_true rfl, Nat.le_of_ble_eq_true rfl⟩) ⟨fun a U g mk q => ⟨q.1, q.2.call⟩, tb_recvK hT ha1 hS, fun U hU hW => ⟨rfl, hT.at hS hU hW (fun _ z => z.elim)⟩⟩ rfl rfl hl.1 rfl (lv_room (Nat.le_of_ble_eq_true rfl)) d_C_writeOperand_171 ⟨Nat.le_refl _, Nat.le_refl _⟩) ?_
        refine lv_iadd hx hb d_C_writeOperand_174 ?_
        obtain ⟨r_16, g_17, hf⟩ := Option.bind_eq_some_iff.mp hf
        refine va_callv (va_runV (As := [.int (a3 + r_14)]) (rest := []) ⟨hx, hb, hml, hown, hts⟩ (c_C_writeHex l (ad := ad) (sk := sk) (sv := sv) (tK := tK) dC dI cA h0 o w_f w_n (a3 + r_14)  r_16 g_17) (cwV 1 hts (aw_V aw_202 aw_204 aw_p9 aw_1 aw_205) rfl rfl rfl (by decide +kernel) ⟨Nat.le_of_ble_eq_true rfl, Nat.le_of_ble_eq_true rfl⟩) ⟨wBlind, va_recv hK hP (ci := 0) (q0 := 0) rfl rfl, fun U hU hW => ⟨rfl, by rw [hU]; exact hP, va_K.moved hW.alike hK, hD, hT.at hS hU hW (fun _ z => z)⟩⟩ rfl rfl hl.1 rfl (lv_room (Nat.le_of_ble_eq_true rfl)) d_C_writeOperand_175 ⟨Nat.le_refl _, Nat.le_refl _⟩) hS (fun _ _ h => h) (fun _ h => h) (fun u t H1 locs ht1 hvm hw hB hz1 hk1 hS => ?_)
        rw [hw] at hB
        rw [ht1] at hB
        have hP : va_P (dC, dI) cls2 (wC cA h0 o r_16.1 r_16.2) H1 := hB
        have hD : va_D (aC h0 o) (wC cA h0 o r_16.1 r_16.2) := dD hD0 rfl
        refine lv_goto (tgt := 190) hx hb d_C_writeOperand_178 (by decide) ?_
        exact W.vret hx hb hr (fun t ht hW => ⟨⟨(r_16.1, r_16.2), rfl, Option.some.inj hf, by rw [← ht] at hP; exact hP⟩, hS.F ht⟩) hS.2.2 d_C_writeOperand_190
      · replace hf := (if_neg c_13).symm.trans hf
        by_cases c_18 : a0 = 83
        · replace hf := (if_pos c_18).symm.trans hf
          refine lv_lookup (tgt := 153) hx hb d_C_writeOperand_1 (by decide) (by rw [c_18] <;> rfl) (by decide) ?_
          refine lv_aload_n hx hb d_C_writeOperand_153 rfl (lv_at hl 0 rfl) ?_
          refine lv_aload_n hx hb d_C_writeOperand_154 rfl (lv_at hl 2 rfl) ?_
          refine lv_iload_n hx hb d_C_writeOperand_155 rfl (lv_at hl 3 rfl) ?_
          obtain ⟨r_19, g_20, hf⟩ := Option.bind_eq_some_iff.mp hf
          refine ju_calli (W.runV (As := [.int (a2)]) (rest := [.ref (h0)]) ⟨hx, hb, hml, hown, hts⟩ (c_K_immediate l (ad := ad) (sk := sk) (sv := sv) (tK := tK)  a1 a2 ha1 r_19 g_20) (cwV 1 hts (aw_V aw_148 aw_113 aw_114 aw_12 aw_115) rfl rfl rfl (by decide +kernel) ⟨Nat.le_of_ble_eq_true rfl, Nat.le_of_ble_eq_true rfl⟩) ⟨fun a U g mk q => ⟨q.1, q.2.call⟩, tb_recvK hT ha1 hS, fun U hU hW => ⟨rfl, hT.at hS hU hW (fun _ z => z.elim)⟩⟩ rfl rfl hl.1 rfl (lv_room (Nat.le_of_ble_eq_true rfl)) d_C_writeOperand_156 ⟨Nat.le_refl _, Nat.le_refl _⟩) ?_
          refine lv_iconst (v := 2) hx hb d_C_writeOperand_159 (by decide) ?_
          obtain ⟨r_21, g_22, hf⟩ := Option.bind_eq_some_iff.mp hf
          refine va_callv (va_runV (As := [.int (r_19), .int (2)]) (rest := []) ⟨hx, hb, hml, hown, hts⟩ (c_C_writeOffset l (ad := ad) (sk := sk) (sv := sv) (tK := tK) dC dI cA h0 o w_f w_n r_19 2  r_21 g_22) (cwV 2 hts (aw_V aw_232 aw_234 aw_p14 aw_1 aw_235) rfl rfl rfl (by decide +kernel) ⟨Nat.le_of_ble_eq_true rfl, Nat.le_of_ble_eq_true rfl⟩) ⟨wBlind, va_recv hK hP (ci := 0) (q0 := 0) rfl rfl, fun U hU hW => ⟨rfl, by rw [hU]; exact hP, va_K.moved hW.alike hK, hD, hT.at hS hU hW (fun _ z => z)⟩⟩ rfl rfl hl.1 rfl (lv_room (Nat.le_of_ble_eq_true rfl)) d_C_writeOperand_160 ⟨Nat.le_refl _, Nat.le_refl _⟩) hS (fun _ _ h => h) (fun _ h => h) (fun u t H1 locs ht1 hvm hw hB hz1 hk1 hS => ?_)
          rw [hw] at hB
          rw [ht1] at hB
          have hP : va_P (dC, dI) cls2 (wC cA h0 o r_21.1 r_21.2) H1 := hB
          have hD : va_D (aC h0 o) (wC cA h0 o r_21.1 r_21.2) := dD hD0 rfl
          refine lv_goto (tgt := 190) hx hb d_C_writeOperand_163 (by decide) ?_
          exact W.vret hx hb hr (fun t ht hW => ⟨⟨(r_21.1, r_21.2), rfl, Option.some.inj hf, by rw [← ht] at hP; exact hP⟩, hS.F ht⟩) hS.2.2 d_C_writeOperand_190
        · replace hf := (if_neg c_18).symm.trans hf
          by_cases c_23 : a0 = 97
          · replace hf := (if_pos c_23).symm.trans hf
            refine lv_lookup (tgt := 89) hx hb d_C_writeOperand_1 (by decide) (by rw [c_23] <;> rfl) (by decide) ?_
            refine lv_aload_n hx hb d_C_writeOperand_89 rfl (lv_at hl 0 rfl) ?_
            refine lv_aload_n hx hb d_C_writeOperand_90 rfl (lv_at hl 2 rfl) ?_
            refine lv_iload_n hx hb d_C_writeOperand_91 rfl (lv_at hl 3 rfl) ?_
            refine lv_iconst (v := 2) hx hb d_C_writeOperand_92 (by decide) ?_
            obtain ⟨r_24, g_25, hf⟩ := Option.bind_eq_some_iff.mp hf
            refine ju_calli (W.runV (As := [.int (a2), .int (2)]) (rest := [.ref (h0)]) ⟨hx, hb, hml, hown, hts⟩ (c_K_register l (ad := ad) (sk := sk) (sv := sv) (tK := tK)  a1 a2 2 ha1 r_24 g_25) (cwV 2 hts (aw_V aw_147 aw_45 aw_46 aw_12 aw_47) rfl rfl rfl (by decide +kernel) ⟨Nat.le_of_ble_eq_true rfl, Nat.le_of_ble_eq_true rfl⟩) ⟨fun a U g mk q => ⟨q.1, q.2.call⟩, tb_recvK hT ha1 hS, fun U hU hW => ⟨rfl, hT.at hS hU hW (fun _ z => z.elim)⟩⟩ rfl rfl hl.1 rfl (lv_room (Nat.le_of_ble_eq_true rfl)) d_C_writeOperand_93 ⟨Nat.le_refl _, Nat.le_refl _⟩) ?_
            obtain ⟨r_26, g_27, hf⟩ := Option.bind_eq_some_iff.mp hf
            refine va_callv (va_runV (As := [.int (r_24)]) (rest := []) ⟨hx, hb, hml, hown, hts⟩ (c_C_writeRegister l (ad := ad) (sk := sk) (sv := sv) (tK := tK) dC dI cA h0 o w_f w_n r_24  r_26 g_27) (cwV 1 hts (aw_V aw_223 aw_225 aw_p12 aw_1 aw_226) rfl rfl rfl (by decide +kernel) ⟨Nat.le_of_ble_eq_true rfl, Nat.le_of_ble_eq_true rfl⟩) ⟨wBlind, va_recv hK hP (ci := 0) (q0 := 0) rfl rfl, fun U hU hW => ⟨rfl, by rw [hU]; exact hP, va_K.moved hW.alike hK, hD, hT.at hS hU hW (fun _ z => z)⟩⟩ rfl rfl hl.1 rfl (lv_room (Nat.le_of_ble_eq_true rfl)) d_C_writeOperand_96 ⟨Nat.le_refl _, Nat.le_refl _⟩) hS (fun _ _ h => h) (fun _ h => h) (fun u t H1 locs ht1 hvm hw hB hz1 hk1 hS => ?_)
            rw [hw] at hB
            rw [ht1] at hB
            have hP : va_P (dC, dI) cls2 (wC cA h0 o r_26.1 r_26.2) H1 := hB
            have hD : va_D (aC h0 o) (wC cA h0 o r_26.1 r_26.2) := dD hD0 rfl
            refine lv_goto (tgt := 190) hx hb d_C_writeOperand_99 (by decide) ?_
            exact W.vret hx hb hr (fun t ht hW => ⟨⟨(r_26.1, r_26.2), rfl, Option.some.inj hf, by rw [← ht] at hP; exact hP⟩, hS.F ht⟩) hS.2.2 d_C_writeOperand_190
          · replace hf := (if_neg c_23).symm.trans hf
            by_cases c_28 : a0 = 98
            · replace hf := (if_pos c_28).symm.trans hf
              refine lv_lookup (tgt := 102) hx hb d_C_writeOperand_1 (by decide) (by rw [c_28] <;> rfl) (by decide) ?_
              refine lv_aload_n hx hb d_C_writeOperand_102 rfl (lv_at hl 0 rfl) ?_
              refine lv_aload_n hx hb d_C_writeOperand_103 rfl (lv_at hl 2 rfl) ?_
              refine lv_iload_n hx hb d_C_writeOperand_104 rfl (lv_at hl 3 rfl) ?_
              refine lv_iconst (v := 4) hx hb d_C_writeOperand_105 (by decide) ?_
              obtain ⟨r_29, g_30, hf⟩ := Option.bind_eq_some_iff.mp hf
              refine ju_calli (W.runV (As := [.int (a2), .int (4)]) (rest := [.ref (h0)]) ⟨hx, hb, hml, hown, hts⟩ (c_K_register l (ad := ad) (sk := sk) (sv := sv) (tK := tK)  a1 a2 4 ha1 r_29 g_30) (cwV 2 hts (aw_V aw_147 aw_45 aw_46 aw_12 aw_47) rfl rfl rfl (by decide +kernel) ⟨Nat.le_of_ble_eq_true rfl, Nat.le_of_ble_eq_true rfl⟩) ⟨fun a U g mk q => ⟨q.1, q.2.call⟩, tb_recvK hT ha1 hS, fun U hU hW => ⟨rfl, hT.at hS hU hW (fun _ z => z.elim)⟩⟩ rfl rfl hl.1 rfl (lv_room (Nat.le_of_ble_eq_true rfl)) d_C_writeOperand_106 ⟨Nat.le_refl _, Nat.le_refl _⟩) ?_
              obtain ⟨r_31, g_32, hf⟩ := Option.bind_eq_some_iff.mp hf
              refine va_callv (va_runV (As := [.int (r_29)]) (rest := []) ⟨hx, hb, hml, hown, hts⟩ (c_C_writeRegister l (ad := ad) (sk := sk) (sv := sv) (tK := tK) dC dI cA h0 o w_f w_n r_29  r_31 g_32) (cwV 1 hts (aw_V aw_223 aw_225 aw_p12 aw_1 aw_226) rfl rfl rfl (by decide +kernel) ⟨Nat.le_of_ble_eq_true rfl, Nat.le_of_ble_eq_true rfl⟩) ⟨wBlind, va_recv hK hP (ci := 0) (q0 := 0) rfl rfl, fun U hU hW => ⟨rfl, by rw [hU]; exact hP, va_K.moved hW.alike hK, hD, hT.at hS hU hW (fun _ z => z)⟩⟩ rfl rfl hl.1 rfl (lv_room (Nat.le_of_ble_eq_true rfl)) d_C_writeOperand_109 ⟨Nat.le_refl _, Nat.le_refl _⟩) hS (fun _ _ h => h) (fun _ h => h) (fun u t H1 locs ht1 hvm hw hB hz1 hk1 hS => ?_)
              rw [hw] at hB
              rw [ht1] at hB
              have hP : va_P (dC, dI) cls2 (wC cA h0 o r_31.1 r_31.2) H1 := hB
              have hD : va_D (aC h0 o) (wC cA h0 o r_31.1 r_31.2) := dD hD0 rfl
              refine lv_goto (tgt := 190) hx hb d_C_writeOperand_112 (by decide) ?_
              exact W.vret hx hb hr (fun t ht hW => ⟨⟨(r_31.1, r_31.2), rfl, Option.some.inj hf, by rw [← ht] at hP; exact hP⟩, hS.F ht⟩) hS.2.2 d_C_writeOperand_190
            · replace hf := (if_neg c_28).symm.trans hf
              by_cases c_33 : a0 = 100
              · replace hf := (if_pos c_33).symm.trans hf
                refine lv_lookup (tgt := 76) hx hb d_C_writeOperand_1 (by decide) (by rw [c_33] <;> rfl) (by decide) ?_
                refine lv_aload_n hx hb d_C_writeOperand_76 rfl (lv_at hl 0 rfl) ?_
                refine lv_aload_n hx hb d_C_writeOperand_77 rfl (lv_at hl 2 rfl) ?_
                refine lv_iload_n hx hb d_C_writeOperand_78 rfl (lv_at hl 3 rfl) ?_
                refine lv_iconst (v := 1) hx hb d_C_writeOperand_79 (by decide) ?_
                obtain ⟨r_34, g_35, hf⟩ := Option.bind_eq_some_iff.mp hf
                refine ju_calli (W.runV (As := [.int (a2), .int (1)]) (rest := [.ref (h0)]) ⟨hx, hb, hml, hown, hts⟩ (c_K_register l (ad := ad) (sk := sk) (sv := sv) (tK := tK)  a1 a2 1 ha1 r_34 g_35) (cwV 2 hts (aw_V aw_147 aw_45 aw_46 aw_12 aw_47) rfl rfl rfl (by decide +kernel) ⟨Nat.le_of_ble_eq_true rfl, Nat.le_of_ble_eq_true rfl⟩) ⟨fun a U g mk q => ⟨q.1, q.2.call⟩, tb_recvK hT ha1 hS, fun U hU hW => ⟨rfl, hT.at hS hU hW (fun _ z => z.elim)⟩⟩ rfl rfl hl.1 rfl (lv_room (Nat.le_of_ble_eq_true rfl)) d_C_writeOperand_80 ⟨Nat.le_refl _, Nat.le_refl _⟩) ?_
                obtain ⟨r_36, g_37, hf⟩ := Option.bind_eq_some_iff.mp hf
                refine va_callv (va_runV (As := [.int (r_34)]) (rest := []) ⟨hx, hb, hml, hown, hts⟩ (c_C_writeRegister l (ad := ad) (sk := sk) (sv := sv) (tK := tK) dC dI cA h0 o w_f w_n r_34  r_36 g_37) (cwV 1 hts (aw_V aw_223 aw_225 aw_p12 aw_1 aw_226) rfl rfl rfl (by decide +kernel) ⟨Nat.le_of_ble_eq_true rfl, Nat.le_of_ble_eq_true rfl⟩) ⟨wBlind, va_recv hK hP (ci := 0) (q0 := 0) rfl rfl, fun U hU hW => ⟨rfl, by rw [hU]; exact hP, va_K.moved hW.alike hK, hD, hT.at hS hU hW (fun _ z => z)⟩⟩ rfl rfl hl.1 rfl (lv_room (Nat.le_of_ble_eq_true rfl)) d_C_writeOperand_83 ⟨Nat.le_refl _, Nat.le_refl _⟩) hS (fun _ _ h => h) (fun _ h => h) (fun u t H1 locs ht1 hvm hw hB hz1 hk1 hS => ?_)
                rw [hw] at hB
                rw [ht1] at hB
                have hP : va_P (dC, dI) cls2 (wC cA h0 o r_36.1 r_36.2) H1 := hB
                have hD : va_D (aC h0 o) (wC cA h0 o r_36.1 r_36.2) := dD hD0 rfl
                refine lv_goto (tgt := 190) hx hb d_C_writeOperand_86 (by decide) ?_
                exact W.vret hx hb hr (fun t ht hW => ⟨⟨(r_36.1, r_36.2), rfl, Option.some.inj hf, by rw [← ht] at hP; exact hP⟩, hS.F ht⟩) hS.2.2 d_C_writeOperand_190
              · replace hf := (if_neg c_33).symm.trans hf
                by_cases c_38 : a0 = 115
                · replace hf := (if_pos c_38).symm.trans hf
                  refine lv_lookup (tgt := 115) hx hb d_C_writeOperand_1 (by decide) (by rw [c_38] <;> rfl) (by decide) ?_
                  refine lv_aload_n hx hb d_C_writeOperand_115 rfl (lv_at hl 0 rfl) ?_
                  refine lv_iconst (v := 2) hx hb d_C_writeOperand_116 (by decide) ?_
                  obtain ⟨r_39, g_40, hf⟩ := Option.bind_eq_some_iff.mp hf
                  refine va_callv (va_runV (As := [.int (2)]) (rest := []) ⟨hx, hb, hml, hown, hts⟩ (c_C_writeRegister l (ad := ad) (sk := sk) (sv := sv) (tK := tK) dC dI cA h0 o w_f w_n 2  r_39 g_40) (cwV 1 hts (aw_V aw_223 aw_225 aw_p12 aw_1 aw_226) rfl rfl rfl (by decide +kernel) ⟨Nat.le_of_ble_eq_true rfl, Nat.le_of_ble_eq_true rfl⟩) ⟨wBlind, va_recv hK hP (ci := 0) (q0 := 0) rfl rfl, fun U hU hW => ⟨rfl, by rw [hU]; exact hP, va_K.moved hW.alike hK, hD, hT.at hS hU hW (fun _ z => z)⟩⟩ rfl rfl hl.1 rfl (lv_room (Nat.le_of_ble_eq_true rfl)) d_C_writeOperand_117 ⟨Nat.le_refl _, Nat.le_refl _⟩) hS (fun _ _ h => h) (fun _ h => h) (fun u t H1 locs ht1 hvm hw hB hz1 hk1 hS => ?_)
                  rw [hw] at hB
                  rw [ht1] at hB
                  have hP : va_P (dC, dI) cls2 (wC cA h0 o r_39.1 r_39.2) H1 := hB
                  have hD : va_D (aC h0 o) (wC cA h0 o r_39.1 r_39.2) := dD hD0 rfl
                  refine lv_goto (tgt := 190) hx hb d_C_writeOperand_120 (by decide) ?_
                  exact W.vret hx hb hr (fun t ht hW => ⟨⟨(r_39.1, r_39.2), rfl, Option.some.inj hf, by rw [← ht] at hP; exact hP⟩, hS.F ht⟩) hS.2.2 d_C_writeOperand_190
                · replace hf := (if_neg c_38).symm.trans hf
                  refine lv_lookup (off := 180) (tgt := 181) hx hb d_C_writeOperand_1 (by decide) (by show Op.lookupswitch.offset [(73, 122), (79, 134), (80, 165), (83, 152), (97, 88), (98, 101), (100, 75), (115, 114)] 180 _ = _; rw [lv_osw (a := 73) c_1 rfl, lv_osw (a := 79) c_6 rfl, lv_osw (a := 80) c_13 rfl, lv_osw (a := 83) c_18 rfl, lv_osw (a := 97) c_23 rfl, lv_osw (a := 98) c_28 rfl, lv_osw (a := 100) c_33 rfl, lv_osw (a := 115) c_38 rfl]; rfl) (by decide) ?_
                  refine lv_aload_n hx hb d_C_writeOperand_181 rfl (lv_at hl 0 rfl) ?_
                  refine lv_aload_n hx hb d_C_writeOperand_182 rfl (lv_at hl 2 rfl) ?_
                  refine lv_iload_n hx hb d_C_writeOperand_183 rfl (lv_at hl 3 rfl) ?_
                  obtain ⟨r_41, g_42, hf⟩ := Option.bind_eq_some_iff.mp hf
                  refine ju_calli (W.runV (As := [.int (a2)]) (rest := [.ref (h0)]) ⟨hx, hb, hml, hown, hts⟩ (c_K_immediate l (ad := ad) (sk := sk) (sv := sv) (tK := tK)  a1 a2 ha1 r_41 g_42) (cwV 1 hts (aw_V aw_148 aw_113 aw_114 aw_12 aw_115) rfl rfl rfl (by decide +kernel) ⟨Nat.le_of_ble_eq_true rfl, Nat.le_of_ble_eq_true rfl⟩) ⟨fun a U g mk q => ⟨q.1, q.2.call⟩, tb_recvK hT ha1 hS, fun U hU hW => ⟨rfl, hT.at hS hU hW (fun _ z => z.elim)⟩⟩ rfl rfl hl.1 rfl (lv_room (Nat.le_of_ble_eq_true rfl)) d_C_writeOperand_184 ⟨Nat.le_refl _, Nat.le_refl _⟩) ?_
                  obtain ⟨r_43, g_44, hf⟩ := Option.bind_eq_some_iff.mp hf
                  refine va_callv (va_runV (As := [.int (r_41)]) (rest := []) ⟨hx, hb, hml, hown, hts⟩ (c_C_writeHex l (ad := ad) (sk := sk) (sv := sv) (tK := tK) dC dI cA h0 o w_f w_n r_41  r_43 g_44) (cwV 1 hts (aw_V aw_202 aw_204 aw_p9 aw_1 aw_205) rfl rfl rfl (by decide +kernel) ⟨Nat.le_of_ble_eq_true rfl, Nat.le_of_ble_eq_true rfl⟩) ⟨wBlind, va_recv hK hP (ci := 0) (q0 := 0) rfl rfl, fun U hU hW => ⟨rfl, by rw [hU]; exact hP, va_K.moved hW.alike hK, hD, hT.at hS hU hW (fun _ z => z)⟩⟩ rfl rfl hl.1 rfl (lv_room (Nat.le_of_ble_eq_true rfl)) d_C_writeOperand_187 ⟨Nat.le_refl _, Nat.le_refl _⟩) hS (fun _ _ h => h) (fun _ h => h) (fun u t H1 locs ht1 hvm hw hB hz1 hk1 hS => ?_)
                  rw [hw] at hB
                  rw [ht1] at hB
                  have hP : va_P (dC, dI) cls2 (wC cA h0 o r_43.1 r_43.2) H1 := hB
                  have hD : va_D (aC h0 o) (wC cA h0 o r_43.1 r_43.2) := dD hD0 rfl
                  exact W.vret hx hb hr (fun t ht hW => ⟨⟨(r_43.1, r_43.2), rfl, Option.some.inj hf, by rw [← ht] at hP; exact hP⟩, hS.F ht⟩) hS.2.2 d_C_writeOperand_190

def f_C_writeLegal_L11 (w_f : Nat → Int32) (w_n : Int32) (a0 : Nat) (a1 : Int32) (a2 : Int32)  : Nat → Int32 → (Nat → Int32) → Int32 → Option ((Nat → Int32) × Int32)
  | 0, _, _, _ => none
  | n + 1, x4, y_f, y_n =>
    if 3 ≤ x4 then (some (y_f, y_n)) else ((f_C_operandAt (((k_pattern a0) * 3) + x4)).bind fun r_4 => if r_4 = 32 then (f_C_writeLegal_L11 w_f w_n a0 a1 a2  n (x4 + 1) y_f y_n) else (if x4 = 0 then ((f_C_writeString y_f y_n 4).bind fun r_12 => (f_C_writeOperand r_12.1 r_12.2 r_4 a0 a1 a2).bind fun r_14 => f_C_writeLegal_L11 w_f w_n a0 a1 a2  n (x4 + 1) r_14.1 r_14.2) else ((f_C_writeString y_f y_n 5).bind fun r_8 => (f_C_writeOperand r_8.1 r_8.2 r_4 a0 a1 a2).bind fun r_10 => f_C_writeLegal_L11 w_f w_n a0 a1 a2  n (x4 + 1) r_10.1 r_10.2)))
def f_C_writeLegal (w_f : Nat → Int32) (w_n : Int32) (a0 : Nat) (a1 : Int32) (a2 : Int32) : Option ((Nat → Int32) × Int32) :=
  (f_C_writeString w_f w_n (k_title a0)).bind fun r_1 => f_C_writeLegal_L11 w_f w_n a0 a1 a2  40 0 r_1.1 r_1.2
set_option maxHeartbeats 1000000 in
set_option maxRecDepth 100000 in
theorem c_C_writeLegal (l : Launch) {ad sk sv : Nat → Nat} {tK : Nat} (dC : Nat → ClassId) (dI : Nat → Nat → Nat) (cA : ClassId) (h0 o : Nat) (w_f : Nat → Int32) (w_n : Int32) (a0 : Nat) (a1 : Int32) (a2 : Int32) (ha0 : a0 < 75) (r : (Nat → Int32) × Int32) (hf : f_C_writeLegal w_f w_n a0 a1 a2 = some r) : Met l y_C_writeLegal (Cond.code y_C_writeLegal b_C_writeLegal 6 (Option.none : Option FieldType) :: aw) ({ frames := 7, cells := 0, slots := 0, locals := 154 } : Room) (va_Pc [.ref (h0), .ref (ad a0), .int (a1), .int (a2)] (fun U => va_P (dC, dI) cls2 (wC cA h0 o w_f w_n) U.heap ∧ va_K (dC, dI) cls2 [(cA, .char)] U ∧ va_D (aC h0 o) (wC cA h0 o w_f w_n) ∧ tb ad sk sv tK (aC h0 o) U U.heap)) (va_Qv (fun u => u = r) (fun (u : (Nat → Int32) × Int32) t => va_P (dC, dI) cls2 (wC cA h0 o u.1 u.2) t.heap) (aC h0 o)) 0 0 (aC h0 o) := by
  refine Met.ofW (cc := b_C_writeLegal) (maxL := 6) (ret := (Option.none : Option FieldType)) (by decide) rfl ?_
  intro p e s m args below meth c s₁ B hml hv
  obtain ⟨rfl, hP, hK, hD, hT⟩ := hv
  have hD0 := hD
  have hx := B.exec
  have hb := B.bytes
  have hr := B.returns
  have hts := atoms_spec (ws := (Cond.code y_C_writeLegal b_C_writeLegal 6 (Option.none : Option FieldType) :: aw)) B.pre
  have ht : ∀ {w : Cond}, w ∈ aw → w.before ([.ref (h0), .ref (ad a0), .int (a1), .int (a2)] : List Value).toArray s = true := fun h => hts _ (List.mem_cons_of_mem _ h)
  have hown : s.vm.findClass "CodeWords" = some m.cls := findClass_of_methodNamed B.named
  have hlocks := B.notSynchronized
  have hS : va_S (aC h0 o) s.heap s.heap [] := va_S.rf
  have hl := lv_entry ([.ref (h0), .ref (ad a0), .int (a1), .int (a2)]) (n := 6) (Nat.le_of_ble_eq_true rfl)
  rw [lg_entry_eq]
  generalize (lg_sl ([.ref (h0), .ref (ad a0), .int (a1), .int (a2)]) ++ List.replicate (6 - (lg_sl ([.ref (h0), .ref (ad a0), .int (a1), .int (a2)])).length) Slot.unset).toArray = ls at hl ⊢
  have hl : lv_has ls 6 [(0, .ref (h0)), (1, .ref (ad a0)), (2, .int (a1)), (3, .int (a2))] := hl
  have J11 : ∀ (n : Nat) (x4 : Int32) (y_f : (Nat → Int32)) (y_n : Int32) (H : Heap) (locs : List Loc) (ls : Array Slot), va_P (dC, dI) cls2 (wC cA h0 o y_f y_n) H → va_S (aC h0 o) s.heap H locs → lv_has ls 6 [(0, .ref (h0)), (1, .ref (ad a0)), (2, .int (a1)), (3, .int (a2)), (4, .int (x4))] → f_C_writeLegal_L11 w_f w_n a0 a1 a2  n x4 y_f y_n = some r → wW p l e (headSpec (Cond.code y_C_writeLegal b_C_writeLegal 6 (Option.none : Option FieldType) :: aw) ({ frames := 7, cells := 0, slots := 0, locals := 154 } : Room)).room s m ([.ref (h0), .ref (ad a0), .int (a1), .int (a2)] : List Value).toArray below meth c (va_Qv (fun u => u = r) (fun (u : (Nat → Int32) × Int32) t => va_P (dC, dI) cls2 (wC cA h0 o u.1 u.2) t.heap) (aC h0 o)) (aC h0 o) H locs (F0 m 11 ls []) := by
    intro n
    induction n with
    | zero =>
      intro x4 y_f y_n H locs ls hP hS hl hf
      rw [f_C_writeLegal_L11] at hf
      cases hf
    | succ n ih =>
      intro x4 y_f y_n H locs ls hP hS hl hf
      rw [f_C_writeLegal_L11] at hf
      have hD : va_D (aC h0 o) (wC cA h0 o y_f y_n) := dD hD0 rfl
      refine lv_iload hx hb d_C_writeLegal_11 (lv_at hl 4 rfl) ?_
      refine lv_iconst (v := 3) hx hb d_C_writeLegal_13 (by decide) ?_
      refine lv_icmp_ge (tgt := 69) hx hb d_C_writeLegal_14 (by decide) (fun c_3 => ?_) (fun c_3 => ?_)
      · replace hf := (if_pos c_3).symm.trans hf
        exact W.vret hx hb hr (fun t ht hW => ⟨⟨(y_f, y_n), rfl, Option.some.inj hf, by rw [← ht] at hP; exact hP⟩, hS.F ht⟩) hS.2.2 d_C_writeLegal_69
      · replace hf := (if_neg c_3).symm.trans hf
        refine lv_aload_n hx hb d_C_writeLegal_17 rfl (lv_at hl 1 rfl) ?_
        refine vk_getf (v := .int (k_pattern a0)) hx hb (tb_pattern hT ha0) hS hown (ht aw_777) (fun _ h9 => h9) d_C_writeLegal_18 ?_
        refine lv_iconst (v := 3) hx hb d_C_writeLegal_21 (by decide) ?_
        refine lv_imul hx hb d_C_writeLegal_22 ?_
        refine lv_iload hx hb d_C_writeLegal_23 (lv_at hl 4 rfl) ?_
        refine lv_iadd hx hb d_C_writeLegal_25 ?_
        obtain ⟨r_4, g_5, hf⟩ := Option.bind_eq_some_iff.mp hf
        refine ju_calli (W.runS (As := [.int (((k_pattern a0) * 3) + x4)]) (rest := []) ⟨hx, hb, hml, hown, hts⟩ (c_C_operandAt l (ad := ad) (sk := sk) (sv := sv) (tK := tK)  (((k_pattern a0) * 3) + x4)  r_4 g_5) (va_cwS 1 hts (aw_S aw_213 aw_214 aw_1 aw_215) rfl rfl rfl (by decide +kernel) ⟨Nat.le_of_ble_eq_true rfl, Nat.le_of_ble_eq_true rfl⟩) ⟨fun a U g mk q => ⟨q.1, q.2.call⟩, fun U hU hW => ⟨rfl, hT.at hS hU hW (fun _ z => z.elim)⟩⟩ rfl rfl hl.1 rfl (lv_room (Nat.le_of_ble_eq_true rfl)) d_C_writeLegal_26 ⟨Nat.le_refl _, Nat.le_refl _⟩) ?_
        refine lv_istore (lv' := [(5, .int (r_4)), (0, .ref (h0)), (1, .ref (ad a0)), (2, .int (a1)), (3, .int (a2)), (4, .int (x4))]) hx hb d_C_writeLegal_29 hl (by decide) rfl (fun ls hl => ?_)
        refine lv_iload hx hb d_C_writeLegal_31 (lv_at hl 0 rfl) ?_
        refine lv_bipush (v := 32) hx hb d_C_writeLegal_33 (by decide) ?_
        refine lv_icmp_eq (tgt := 63) hx hb d_C_writeLegal_35 (by decide) (fun c_6 => ?_) (fun c_6 => ?_)
        · replace hf := (if_pos c_6).symm.trans hf
          refine lv_iinc (v := x4 + 1) (lv' := [(4, .int (x4 + 1)), (5, .int (r_4)), (0, .ref (h0)), (1, .ref (ad a0)), (2, .int (a1)), (3, .int (a2))]) hx hb d_C_writeLegal_63 hl (k := 5) rfl rfl (by decide) rfl (fun ls hl => ?_)
          refine lv_goto (tgt := 11) hx hb d_C_writeLegal_66 (by decide) ?_
          exact ih (x4 + 1) y_f y_n _ _ _ hP hS (lv_sub hl [2, 3, 4, 5, 0] rfl) hf
        · replace hf := (if_neg c_6).symm.trans hf
          refine lv_aload_n hx hb d_C_writeLegal_38 rfl (lv_at hl 1 rfl) ?_
          refine lv_iload hx hb d_C_writeLegal_39 (lv_at hl 5 rfl) ?_
          refine lv_if_ne (tgt := 49) hx hb d_C_writeLegal_41 (by decide) (fun c_7 => ?_) (fun c_7 => ?_)
          · replace hf := (if_neg c_7).symm.trans hf
            refine va_ldcS hx hb hown (tb_r154 hT) d_C_writeLegal_49 ?_
            obtain ⟨r_8, g_9, hf⟩ := Option.bind_eq_some_iff.mp hf
            refine va_callv (va_runV (As := [.ref (sk 5)]) (rest := []) ⟨hx, hb, hml, hown, hts⟩ (c_C_writeString l (ad := ad) (sk := sk) (sv := sv) (tK := tK) dC dI cA h0 o y_f y_n 5 (by decide) r_8 g_9) (cwV 1 hts (aw_V aw_194 aw_196 aw_p7 aw_1 aw_197) rfl rfl rfl (by decide +kernel) ⟨Nat.le_of_ble_eq_true rfl, Nat.le_of_ble_eq_true rfl⟩) ⟨wBlind, va_recv hK hP (ci := 0) (q0 := 0) rfl rfl, fun U hU hW => ⟨rfl, by rw [hU]; exact hP, va_K.moved hW.alike hK, hD, hT.at hS hU hW (fun _ z => z)⟩⟩ rfl rfl hl.1 rfl (lv_room (Nat.le_of_ble_eq_true rfl)) d_C_writeLegal_51 ⟨Nat.le_refl _, Nat.le_refl _⟩) hS (fun _ _ h => h) (fun _ h => h) (fun u t H1 locs ht1 hvm hw hB hz1 hk1 hS => ?_)
            rw [hw] at hB
            rw [ht1] at hB
            have hP : va_P (dC, dI) cls2 (wC cA h0 o r_8.1 r_8.2) H1 := hB
            have hD : va_D (aC h0 o) (wC cA h0 o r_8.1 r_8.2) := dD hD0 rfl
            refine lv_aload_n hx hb d_C_writeLegal_54 rfl (lv_at hl 1 rfl) ?_
            refine lv_iload hx hb d_C_writeLegal_55 (lv_at hl 0 rfl) ?_
            refine lv_aload_n hx hb d_C_writeLegal_57 rfl (lv_at hl 2 rfl) ?_
            refine lv_iload_n hx hb d_C_writeLegal_58 rfl (lv_at hl 3 rfl) ?_
            refine lv_iload_n hx hb d_C_writeLegal_59 rfl (lv_at hl 4 rfl) ?_
            obtain ⟨r_10, g_11, hf⟩ := Option.bind_eq_some_iff.mp hf
            refine va_callv (va_runV (As := [.int (r_4), .ref (ad a0), .int (a1), .int (a2)]) (rest := []) ⟨hx, hb, hml, hown, hts⟩ (c_C_writeOperand l (ad := ad) (sk := sk) (sv := sv) (tK := tK) dC dI cA h0 o r_8.1 r_8.2 r_4 a0 a1 a2 ha0 r_10 g_11) (cwV 4 hts (aw_V aw_219 aw_221 aw_p11 aw_1 aw_222) rfl rfl rfl (by decide +kernel) ⟨Nat.le_of_ble_eq_true rfl, Nat.le_of_ble_eq_true rfl⟩) ⟨wBlind, va_recv hK hP (ci := 0) (q0 := 0) rfl rfl, fun U hU hW => ⟨rfl, by rw [hU]; exact hP, va_K.moved hW.alike hK, hD, hT.at hS hU hW (fun _ z => z)⟩⟩ rfl rfl hl.1 rfl (lv_room (Nat.le_of_ble_eq_true rfl)) d_C_writeLegal_60 ⟨Nat.le_refl _, Nat.le_refl _⟩) hS (fun _ _ h => h) (fun _ h => h) (fun u t H1 locs ht1 hvm hw hB hz1 hk1 hS => ?_)
            rw [hw] at hB
            rw [ht1] at hB
            have hP : va_P (dC, dI) cls2 (wC cA h0 o r_10.1 r_10.2) H1 := hB
            have hD : va_D (aC h0 o) (wC cA h0 o r_10.1 r_10.2) := dD hD0 rfl
            refine lv_iinc (v := x4 + 1) (lv' := [(4, .int (x4 + 1)), (5, .int (r_4)), (0, .ref (h0)), (1, .ref (ad a0)), (2, .int (a1)), (3, .int (a2))]) hx hb d_C_writeLegal_63 hl (k := 5) rfl rfl (by decide) rfl (fun ls hl => ?_)
            refine lv_goto (tgt := 11) hx hb d_C_writeLegal_66 (by decide) ?_
            exact ih (x4 + 1) r_10.1 r_10.2 _ _ _ hP hS (lv_sub hl [2, 3, 4, 5, 0] rfl) hf
          · replace hf := (if_pos c_7).symm.trans hf
            refine va_ldcS hx hb hown (tb_r152 hT) d_C_writeLegal_44 ?_
            refine lv_goto (tgt := 51) hx hb d_C_writeLegal_46 (by decide) ?_
            obtain ⟨r_12, g_13, hf⟩ := Option.bind_eq_some_iff.mp hf
            refine va_callv (va_runV (As := [.ref (sk 4)]) (rest := []) ⟨hx, hb, hml, hown, hts⟩ (c_C_writeString l (ad := ad) (sk := sk) (sv := sv) (tK := tK) dC dI cA h0 o y_f y_n 4 (by decide) r_12 g_13) (cwV 1 hts (aw_V aw_194 aw_196 aw_p7 aw_1 aw_197) rfl rfl rfl (by decide +kernel) ⟨Nat.le_of_ble_eq_true rfl, Nat.le_of_ble_eq_true rfl⟩) ⟨wBlind, va_recv hK hP (ci := 0) (q0 := 0) rfl rfl, fun U hU hW => ⟨rfl, by rw [hU]; exact hP, va_K.moved hW.alike hK, hD, hT.at hS hU hW (fun _ z => z)⟩⟩ rfl rfl hl.1 rfl (lv_room (Nat.le_of_ble_eq_true rfl)) d_C_writeLegal_51 ⟨Nat.le_refl _, Nat.le_refl _⟩) hS (fun _ _ h => h) (fun _ h => h) (fun u t H1 locs ht1 hvm hw hB hz1 hk1 hS => ?_)
            rw [hw] at hB
            rw [ht1] at hB
            have hP : va_P (dC, dI) cls2 (wC cA h0 o r_12.1 r_12.2) H1 := hB
            have hD : va_D (aC h0 o) (wC cA h0 o r_12.1 r_12.2) := dD hD0 rfl
            refine lv_aload_n hx hb d_C_writeLegal_54 rfl (lv_at hl 1 rfl) ?_
            refine lv_iload hx hb d_C_writeLegal_55 (lv_at hl 0 rfl) ?_
            refine lv_aload_n hx hb d_C_writeLegal_57 rfl (lv_at hl 2 rfl) ?_
            refine lv_iload_n hx hb d_C_writeLegal_58 rfl (lv_at hl 3 rfl) ?_
            refine lv_iload_n hx hb d_C_writeLegal_59 rfl (lv_at hl 4 rfl) ?_
            obtain ⟨r_14, g_15, hf⟩ := Option.bind_eq_some_iff.mp hf
            refine va_callv (va_runV (As := [.int (r_4), .ref (ad a0), .int (a1), .int (a2)]) (rest := []) ⟨hx, hb, hml, hown, hts⟩ (c_C_writeOperand l (ad := ad) (sk := sk) (sv := sv) (tK := tK) dC dI cA h0 o r_12.1 r_12.2 r_4 a0 a1 a2 ha0 r_14 g_15) (cwV 4 hts (aw_V aw_219 aw_221 aw_p11 aw_1 aw_222) rfl rfl rfl (by decide +kernel) ⟨Nat.le_of_ble_eq_true rfl, Nat.le_of_ble_eq_true rfl⟩) ⟨wBlind, va_recv hK hP (ci := 0) (q0 := 0) rfl rfl, fun U hU hW => ⟨rfl, by rw [hU]; exact hP, va_K.moved hW.alike hK, hD, hT.at hS hU hW (fun _ z => z)⟩⟩ rfl rfl hl.1 rfl (lv_room (Nat.le_of_ble_eq_true rfl)) d_C_writeLegal_60 ⟨Nat.le_refl _, Nat.le_refl _⟩) hS (fun _ _ h => h) (fun _ h => h) (fun u t H1 locs ht1 hvm hw hB hz1 hk1 hS => ?_)
            rw [hw] at hB
            rw [ht1] at hB
            have hP : va_P (dC, dI) cls2 (wC cA h0 o r_14.1 r_14.2) H1 := hB
            have hD : va_D (aC h0 o) (wC cA h0 o r_14.1 r_14.2) := dD hD0 rfl
            refine lv_iinc (v := x4 + 1) (lv' := [(4, .int (x4 + 1)), (5, .int (r_4)), (0, .ref (h0)), (1, .ref (ad a0)), (2, .int (a1)), (3, .int (a2))]) hx hb d_C_writeLegal_63 hl (k := 5) rfl rfl (by decide) rfl (fun ls hl => ?_)
            refine lv_goto (tgt := 11) hx hb d_C_writeLegal_66 (by decide) ?_
            exact ih (x4 + 1) r_14.1 r_14.2 _ _ _ hP hS (lv_sub hl [2, 3, 4, 5, 0] rfl) hf
  rw [f_C_writeLegal] at hf
  refine lv_aload_n hx hb d_C_writeLegal_0 rfl (lv_at hl 0 rfl) ?_
  refine lv_aload_n hx hb d_C_writeLegal_1 rfl (lv_at hl 1 rfl) ?_
  refine vk_getf (v := .ref (sk (k_title a0))) hx hb (tb_title hT ha0) hS hown (ht aw_776) (fun _ h9 => h9) d_C_writeLegal_2 ?_
  obtain ⟨r_1, g_2, hf⟩ := Option.bind_eq_some_iff.mp hf
  refine va_callv (va_runV (As := [.ref (sk (k_title a0))]) (rest := []) ⟨hx, hb, hml, hown, hts⟩ (c_C_writeString l (ad := ad) (sk := sk) (sv := sv) (tK := tK) dC dI cA h0 o w_f w_n (k_title a0) (k_title_lt ha0) r_1 g_2) (cwV 1 hts (aw_V aw_194 aw_196 aw_p7 aw_1 aw_197) rfl rfl rfl (by decide +kernel) ⟨Nat.le_of_ble_eq_true rfl, Nat.le_of_ble_eq_true rfl⟩) ⟨wBlind, va_recv hK hP (ci := 0) (q0 := 0) rfl rfl, fun U hU hW => ⟨rfl, by rw [hU]; exact hP, va_K.moved hW.alike hK, hD, hT.at hS hU hW (fun _ z => z)⟩⟩ rfl rfl hl.1 rfl (lv_room (Nat.le_of_ble_eq_true rfl)) d_C_writeLegal_5 ⟨Nat.le_refl _, Nat.le_refl _⟩) hS (fun _ _ h => h) (fun _ h => h) (fun u t H1 locs ht1 hvm hw hB hz1 hk1 hS => ?_)
  rw [hw] at hB
  rw [ht1] at hB
  have hP : va_P (dC, dI) cls2 (wC cA h0 o r_1.1 r_1.2) H1 := hB
  have hD : va_D (aC h0 o) (wC cA h0 o r_1.1 r_1.2) := dD hD0 rfl
  refine lv_iconst (v := 0) hx hb d_C_writeLegal_8 (by decide) ?_
  refine lv_istore (lv' := [(4, .int (0)), (0, .ref (h0)), (1, .ref (ad a0)), (2, .int (a1)), (3, .int (a2))]) hx hb d_C_writeLegal_9 hl (by decide) rfl (fun ls hl => ?_)
  exact J11 40 0 r_1.1 r_1.2 _ _ _ hP hS (lv_sub hl [1, 2, 3, 4, 0] rfl) hf

def f_C_writeIllegal (w_f : Nat → Int32) (w_n : Int32) (a0 : Int32) : Option ((Nat → Int32) × Int32) :=
  (f_C_isLong a0).bind fun r_1 => if (bI r_1) = 0 then ((f_C_writeString w_f w_n 2).bind fun r_4 => (f_C_writeHex r_4.1 r_4.2 (a0 &&& 65535)).bind fun r_6 => some (r_6.1, r_6.2)) else ((f_C_writeString w_f w_n 0).bind fun r_8 => (f_C_writeHex r_8.1 r_8.2 a0).bind fun r_10 => some (r_10.1, r_10.2))
set_option maxHeartbeats 1000000 in
set_option maxRecDepth 100000 in
theorem c_C_writeIllegal (l : Launch) {ad sk sv : Nat → Nat} {tK : Nat} (dC : Nat → ClassId) (dI : Nat → Nat → Nat) (cA : ClassId) (h0 o : Nat) (w_f : Nat → Int32) (w_n : Int32) (a0 : Int32)  (r : (Nat → Int32) × Int32) (hf : f_C_writeIllegal w_f w_n a0 = some r) : Met l y_C_writeIllegal (Cond.code y_C_writeIllegal b_C_writeIllegal 2 (Option.none : Option FieldType) :: aw) ({ frames := 6, cells := 0, slots := 0, locals := 130 } : Room) (va_Pc [.ref (h0), .int (a0)] (fun U => va_P (dC, dI) cls2 (wC cA h0 o w_f w_n) U.heap ∧ va_K (dC, dI) cls2 [(cA, .char)] U ∧ va_D (aC h0 o) (wC cA h0 o w_f w_n) ∧ tb ad sk sv tK (aC h0 o) U U.heap)) (va_Qv (fun u => u = r) (fun (u : (Nat → Int32) × Int32) t => va_P (dC, dI) cls2 (wC cA h0 o u.1 u.2) t.heap) (aC h0 o)) 0 0 (aC h0 o) := by
  refine Met.ofW (cc := b_C_writeIllegal) (maxL := 2) (ret := (Option.none : Option FieldType)) (by decide) rfl ?_
  intro p e s m args below meth c s₁ B hml hv
  obtain ⟨rfl, hP, hK, hD, hT⟩ := hv
  have hD0 := hD
  have hx := B.exec
  have hb := B.bytes
  have hr := B.returns
  have hts := atoms_spec (ws := (Cond.code y_C_writeIllegal b_C_writeIllegal 2 (Option.none : Option FieldType) :: aw)) B.pre
  have ht : ∀ {w : Cond}, w ∈ aw → w.before ([.ref (h0), .int (a0)] : List Value).toArray s = true := fun h => hts _ (List.mem_cons_of_mem _ h)
  have hown : s.vm.findClass "CodeWords" = some m.cls := findClass_of_methodNamed B.named
  have hlocks := B.notSynchronized
  have hS : va_S (aC h0 o) s.heap s.heap [] := va_S.rf
  have hl := lv_entry ([.ref (h0), .int (a0)]) (n := 2) (Nat.le_of_ble_eq_true rfl)
  rw [lg_entry_eq]
  generalize (lg_sl ([.ref (h0), .int (a0)]) ++ List.replicate (2 - (lg_sl ([.ref (h0), .int (a0)])).length) Slot.unset).toArray = ls at hl ⊢
  have hl : lv_has ls 2 [(0, .ref (h0)), (1, .int (a0))] := hl
  rw [f_C_writeIllegal] at hf
  refine lv_iload_n hx hb d_C_writeIllegal_0 rfl (lv_at hl 1 rfl) ?_
  obtain ⟨r_1, g_2, hf⟩ := Option.bind_eq_some_iff.mp hf
  refine ju_calli (W.runS (As := [.int (a0)]) (rest := []) ⟨hx, hb, hml, hown, hts⟩ (c_C_isLong l (ad := ad) (sk := sk) (sv := sv) (tK := tK)  a0  r_1 g_2) (va_cwS 1 hts (aw_S aw_140 aw_141 aw_1 aw_142) rfl rfl rfl (by decide +kernel) ⟨Nat.le_of_ble_eq_true rfl, Nat.le_of_ble_eq_true rfl⟩) ⟨fun a U g mk q => ⟨q.1, q.2.call⟩, fun U hU hW => ⟨rfl, hT.at hS hU hW (fun _ z => z.elim)⟩⟩ rfl rfl hl.1 rfl (lv_room (Nat.le_of_ble_eq_true rfl)) d_C_writeIllegal_1 ⟨Nat.le_refl _, Nat.le_refl _⟩) ?_
  refine lv_if_eq (tgt := 21) hx hb d_C_writeIllegal_4 (by decide) (fun c_3 => ?_) (fun c_3 => ?_)
  · replace hf := (if_pos c_3).symm.trans hf
    refine lv_aload_n hx hb d_C_writeIllegal_21 rfl (lv_at hl 0 rfl) ?_
    refine va_ldcS hx hb hown (tb_r146 hT) d_C_writeIllegal_22 ?_
    obtain ⟨r_4, g_5, hf⟩ := Option.bind_eq_some_iff.mp hf
    refine va_callv (va_runV (As := [.ref (sk 2)]) (rest := []) ⟨hx, hb, hml, hown, hts⟩ (c_C_writeString l (ad := ad) (sk := sk) (sv := sv) (tK := tK) dC dI cA h0 o w_f w_n 2 (by decide) r_4 g_5) (cwV 1 hts (aw_V aw_194 aw_196 aw_p7 aw_1 aw_197) rfl rfl rfl (by decide +kernel) ⟨Nat.le_of_ble_eq_true rfl, Nat.le_of_ble_eq_true rfl⟩) ⟨wBlind, va_recv hK hP (ci := 0) (q0 := 0) rfl rfl, fun U hU hW => ⟨rfl, by rw [hU]; exact hP, va_K.moved hW.alike hK, hD, hT.at hS hU hW (fun _ z => z)⟩⟩ rfl rfl hl.1 rfl (lv_room (Nat.le_of_ble_eq_true rfl)) d_C_writeIllegal_24 ⟨Nat.le_refl _, Nat.le_refl _⟩) hS (fun _ _ h => h) (fun _ h => h) (fun u t H1 locs ht1 hvm hw hB hz1 hk1 hS => ?_)
    rw [hw] at hB
    rw [ht1] at hB
    have hP : va_P (dC, dI) cls2 (wC cA h0 o r_4.1 r_4.2) H1 := hB
    have hD : va_D (aC h0 o) (wC cA h0 o r_4.1 r_4.2) := dD hD0 rfl
    refine lv_aload_n hx hb d_C_writeIllegal_27 rfl (lv_at hl 0 rfl) ?_
    refine lv_iload_n hx hb d_C_writeIllegal_28 rfl (lv_at hl 1 rfl) ?_
    refine lv_ldc (v := 65535) hx hb hown (ht aw_208) d_C_writeIllegal_29 ?_
    refine lv_iand hx hb d_C_writeIllegal_31 ?_
    obtain ⟨r_6, g_7, hf⟩ := Option.bind_eq_some_iff.mp hf
    refine va_callv (va_runV (As := [.int (a0 &&& 65535)]) (rest := []) ⟨hx, hb, hml, hown, hts⟩ (c_C_writeHex l (ad := ad) (sk := sk) (sv := sv) (tK := tK) dC dI cA h0 o r_4.1 r_4.2 (a0 &&& 65535)  r_6 g_7) (cwV 1 hts (aw_V aw_202 aw_204 aw_p9 aw_1 aw_205) rfl rfl rfl (by decide +kernel) ⟨Nat.le_of_ble_eq_true rfl, Nat.le_of_ble_eq_true rfl⟩) ⟨wBlind, va_recv hK hP (ci := 0) (q0 := 0) rfl rfl, fun U hU hW => ⟨rfl, by rw [hU]; exact hP, va_K.moved hW.alike hK, hD, hT.at hS hU hW (fun _ z => z)⟩⟩ rfl rfl hl.1 rfl (lv_room (Nat.le_of_ble_eq_true rfl)) d_C_writeIllegal_32 ⟨Nat.le_refl _, Nat.le_refl _⟩) hS (fun _ _ h => h) (fun _ h => h) (fun u t H1 locs ht1 hvm hw hB hz1 hk1 hS => ?_)
    rw [hw] at hB
    rw [ht1] at hB
    have hP : va_P (dC, dI) cls2 (wC cA h0 o r_6.1 r_6.2) H1 := hB
    have hD : va_D (aC h0 o) (wC cA h0 o r_6.1 r_6.2) := dD hD0 rfl
    exact W.vret hx hb hr (fun t ht hW => ⟨⟨(r_6.1, r_6.2), rfl, Option.some.inj hf, by rw [← ht] at hP; exact hP⟩, hS.F ht⟩) hS.2.2 d_C_writeIllegal_35
  · replace hf := (if_neg c_3).symm.trans hf
    refine lv_aload_n hx hb d_C_writeIllegal_7 rfl (lv_at hl 0 rfl) ?_
    refine va_ldcS hx hb hown (tb_r138 hT) d_C_writeIllegal_8 ?_
    obtain ⟨r_8, g_9, hf⟩ := Option.bind_eq_some_iff.mp hf
    refine va_callv (va_runV (As := [.ref (sk 0)]) (rest := []) ⟨hx, hb, hml, hown, hts⟩ (c_C_writeString l (ad := ad) (sk := sk) (sv := sv) (tK := tK) dC dI cA h0 o w_f w_n 0 (by decide) r_8 g_9) (cwV 1 hts (aw_V aw_194 aw_196 aw_p7 aw_1 aw_197) rfl rfl rfl (by decide +kernel) ⟨Nat.le_of_ble_eq_true rfl, Nat.le_of_ble_eq_true rfl⟩) ⟨wBlind, va_recv hK hP (ci := 0) (q0 := 0) rfl rfl, fun U hU hW => ⟨rfl, by rw [hU]; exact hP, va_K.moved hW.alike hK, hD, hT.at hS hU hW (fun _ z => z)⟩⟩ rfl rfl hl.1 rfl (lv_room (Nat.le_of_ble_eq_true rfl)) d_C_writeIllegal_10 ⟨Nat.le_refl _, Nat.le_refl _⟩) hS (fun _ _ h => h) (fun _ h => h) (fun u t H1 locs ht1 hvm hw hB hz1 hk1 hS => ?_)
    rw [hw] at hB
    rw [ht1] at hB
    have hP : va_P (dC, dI) cls2 (wC cA h0 o r_8.1 r_8.2) H1 := hB
    have hD : va_D (aC h0 o) (wC cA h0 o r_8.1 r_8.2) := dD hD0 rfl
    refine lv_aload_n hx hb d_C_writeIllegal_13 rfl (lv_at hl 0 rfl) ?_
    refine lv_iload_n hx hb d_C_writeIllegal_14 rfl (lv_at hl 1 rfl) ?_
    obtain ⟨r_10, g_11, hf⟩ := Option.bind_eq_some_iff.mp hf
    refine va_callv (va_runV (As := [.int (a0)]) (rest := []) ⟨hx, hb, hml, hown, hts⟩ (c_C_writeHex l (ad := ad) (sk := sk) (sv := sv) (tK := tK) dC dI cA h0 o r_8.1 r_8.2 a0  r_10 g_11) (cwV 1 hts (aw_V aw_202 aw_204 aw_p9 aw_1 aw_205) rfl rfl rfl (by decide +kernel) ⟨Nat.le_of_ble_eq_true rfl, Nat.le_of_ble_eq_true rfl⟩) ⟨wBlind, va_recv hK hP (ci := 0) (q0 := 0) rfl rfl, fun U hU hW => ⟨rfl, by rw [hU]; exact hP, va_K.moved hW.alike hK, hD, hT.at hS hU hW (fun _ z => z)⟩⟩ rfl rfl hl.1 rfl (lv_room (Nat.le_of_ble_eq_true rfl)) d_C_writeIllegal_15 ⟨Nat.le_refl _, Nat.le_refl _⟩) hS (fun _ _ h => h) (fun _ h => h) (fun u t H1 locs ht1 hvm hw hB hz1 hk1 hS => ?_)
    rw [hw] at hB
    rw [ht1] at hB
    have hP : va_P (dC, dI) cls2 (wC cA h0 o r_10.1 r_10.2) H1 := hB
    have hD : va_D (aC h0 o) (wC cA h0 o r_10.1 r_10.2) := dD hD0 rfl
    refine lv_goto (tgt := 35) hx hb d_C_writeIllegal_18 (by decide) ?_
    exact W.vret hx hb hr (fun t ht hW => ⟨⟨(r_10.1, r_10.2), rfl, Option.some.inj hf, by rw [← ht] at hP; exact hP⟩, hS.F ht⟩) hS.2.2 d_C_writeIllegal_35

def f_C_tell (w_f : Nat → Int32) (w_n : Int32) (a0 : Int32) (a1 : Int32) : Option (Int32 × (Nat → Int32) × Int32) :=
  (f_C_numberOf a0).bind fun r_1 => if r_1 = ((-1)) then ((f_C_writeIllegal w_f 0 a0).bind fun r_7 => some (r_7.2, r_7.1, r_7.2)) else (if r_1 < 0 ∨ 75 ≤ r_1.toNatClampNeg then none else (f_C_writeLegal w_f 0 r_1.toNatClampNeg a0 a1).bind fun r_5 => some (r_5.2, r_5.1, r_5.2))
set_option maxHeartbeats 1000000 in
set_option maxRecDepth 100000 in
theorem c_C_tell (l : Launch) {ad sk sv : Nat → Nat} {tK : Nat} (dC : Nat → ClassId) (dI : Nat → Nat → Nat) (cA : ClassId) (h0 o : Nat) (w_f : Nat → Int32) (w_n : Int32) (a0 : Int32) (a1 : Int32)  (r : Int32 × (Nat → Int32) × Int32) (hf : f_C_tell w_f w_n a0 a1 = some r) : Met l y_C_tell (Cond.code y_C_tell b_C_tell 4 (Option.some FieldType.int) :: aw) ({ frames := 9, cells := 0, slots := 0, locals := 195 } : Room) (va_Pc [.ref (h0), .int (a0), .int (a1)] (fun U => va_P (dC, dI) cls2 (wC cA h0 o w_f w_n) U.heap ∧ va_K (dC, dI) cls2 [(cA, .char)] U ∧ va_D (aC h0 o) (wC cA h0 o w_f w_n) ∧ tb ad sk sv tK (aC h0 o) U U.heap)) (va_Qi (fun v u => v = r.1 ∧ u = r.2) (fun (u : (Nat → Int32) × Int32) t => va_P (dC, dI) cls2 (wC cA h0 o u.1 u.2) t.heap) (aC h0 o)) 0 0 (aC h0 o) := by
  refine Met.ofW (cc := b_C_tell) (maxL := 4) (ret := (Option.some FieldType.int)) (by decide) rfl ?_
  intro p e s m args below meth c s₁ B hml hv
  obtain ⟨rfl, hP, hK, hD, hT⟩ := hv
  have hD0 := hD
  have hx := B.exec
  have hb := B.bytes
  have hr := B.returns
  have hts := atoms_spec (ws := (Cond.code y_C_tell b_C_tell 4 (Option.some FieldType.int) :: aw)) B.pre
  have ht : ∀ {w : Cond}, w ∈ aw → w.before ([.ref (h0), .int (a0), .int (a1)] : List Value).toArray s = true := fun h => hts _ (List.mem_cons_of_mem _ h)
  have hown : s.vm.findClass "CodeWords" = some m.cls := findClass_of_methodNamed B.named
  have hlocks := B.notSynchronized
  have hS : va_S (aC h0 o) s.heap s.heap [] := va_S.rf
  have hl := lv_entry ([.ref (h0), .int (a0), .int (a1)]) (n := 4) (Nat.le_of_ble_eq_true rfl)
  rw [lg_entry_eq]
  generalize (lg_sl ([.ref (h0), .int (a0), .int (a1)]) ++ List.replicate (4 - (lg_sl ([.ref (h0), .int (a0), .int (a1)])).length) Slot.unset).toArray = ls at hl ⊢
  have hl : lv_has ls 4 [(0, .ref (h0)), (1, .int (a0)), (2, .int (a1))] := hl
  rw [f_C_tell] at hf
  refine lv_aload_n hx hb d_C_tell_0 rfl (lv_at hl 0 rfl) ?_
  refine lv_iconst (v := 0) hx hb d_C_tell_1 (by decide) ?_
  refine va_put (D := (dC, dI)) (ci := 0) (v := .int (0)) (ty := .int) (C := "CodeWords") (T := F_C) (N := 2) hx hb hts (in_C _) ty_C tyok_C nm_C hown hK hP hD hS 0 rfl rfl 1 (by decide) (ht aw_24) (fun _ h9 => h9) rfl (by decide +kernel) rfl rfl (Nat.le_of_ble_eq_true rfl) d_C_tell_2 (fun H locs hP hD hS => ?_)
  have hP : va_P (dC, dI) cls2 (wC cA h0 o w_f 0) H := hP
  have hD : va_D (aC h0 o) (wC cA h0 o w_f 0) := hD
  refine lv_iload_n hx hb d_C_tell_5 rfl (lv_at hl 1 rfl) ?_
  obtain ⟨r_1, g_2, hf⟩ := Option.bind_eq_some_iff.mp hf
  refine ju_calli (W.runS (As := [.int (a0)]) (rest := []) ⟨hx, hb, hml, hown, hts⟩ (c_C_numberOf l (ad := ad) (sk := sk) (sv := sv) (tK := tK)  a0  r_1 g_2) (va_cwS 1 hts (aw_S aw_35 aw_36 aw_1 aw_37) rfl rfl rfl (by decide +kernel) ⟨Nat.le_of_ble_eq_true rfl, Nat.le_of_ble_eq_true rfl⟩) ⟨fun a U g mk q => ⟨q.1, q.2.call⟩, fun U hU hW => ⟨rfl, hT.at hS hU hW (fun _ z => z.elim)⟩⟩ rfl rfl hl.1 rfl (lv_room (Nat.le_of_ble_eq_true rfl)) d_C_tell_6 ⟨Nat.le_refl _, Nat.le_refl _⟩) ?_
  refine lv_istore_n (lv' := [(3, .int (r_1)), (0, .ref (h0)), (1, .int (a0)), (2, .int (a1))]) hx hb d_C_tell_9 rfl hl (by decide) rfl (fun ls hl => ?_)
  refine lv_iload_n hx hb d_C_tell_10 rfl (lv_at hl 0 rfl) ?_
  refine lv_iconst (v := (-1)) hx hb d_C_tell_11 (by decide) ?_
  refine lv_icmp_ne (tgt := 23) hx hb d_C_tell_12 (by decide) (fun c_3 => ?_) (fun c_3 => ?_)
  · replace hf := (if_neg c_3).symm.trans hf
    refine lv_aload_n hx hb d_C_tell_23 rfl (lv_at hl 1 rfl) ?_
    refine va_gets (v := .ref (tK)) hx hb hT.1 hS hown (ht aw_38) (fun _ h9 => h9) d_C_tell_24 ?_
    refine lv_iload_n hx hb d_C_tell_27 rfl (lv_at hl 0 rfl) ?_
    obtain ⟨z_4, hf⟩ := ju_gd hf
    refine vb_tq (v := .ref (ad r_1.toNatClampNeg)) hx hb hT.2.1 hS z_4 rfl d_C_tell_28 ?_
    refine lv_iload_n hx hb d_C_tell_29 rfl (lv_at hl 2 rfl) ?_
    refine lv_iload_n hx hb d_C_tell_30 rfl (lv_at hl 3 rfl) ?_
    obtain ⟨r_5, g_6, hf⟩ := Option.bind_eq_some_iff.mp hf
    refine va_callv (va_runV (As := [.ref (ad r_1.toNatClampNeg), .int (a0), .int (a1)]) (rest := []) ⟨hx, hb, hml, hown, hts⟩ (c_C_writeLegal l (ad := ad) (sk := sk) (sv := sv) (tK := tK) dC dI cA h0 o w_f 0 r_1.toNatClampNeg a0 a1 (ju_lt z_4) r_5 g_6) (cwV 3 hts (aw_V aw_209 aw_211 aw_p10 aw_1 aw_212) rfl rfl rfl (by decide +kernel) ⟨Nat.le_of_ble_eq_true rfl, Nat.le_of_ble_eq_true rfl⟩) ⟨wBlind, va_recv hK hP (ci := 0) (q0 := 0) rfl rfl, fun U hU hW => ⟨rfl, by rw [hU]; exact hP, va_K.moved hW.alike hK, hD, hT.at hS hU hW (fun _ z => z)⟩⟩ rfl rfl hl.1 rfl (lv_room (Nat.le_of_ble_eq_true rfl)) d_C_tell_31 ⟨Nat.le_refl _, Nat.le_refl _⟩) hS (fun _ _ h => h) (fun _ h => h) (fun u t H1 locs ht1 hvm hw hB hz1 hk1 hS => ?_)
    rw [hw] at hB
    rw [ht1] at hB
    have hP : va_P (dC, dI) cls2 (wC cA h0 o r_5.1 r_5.2) H1 := hB
    have hD : va_D (aC h0 o) (wC cA h0 o r_5.1 r_5.2) := dD hD0 rfl
    refine lv_aload_n hx hb d_C_tell_34 rfl (lv_at hl 1 rfl) ?_
    refine va_get (D := (dC, dI)) (ci := 0) (v := .int (r_5.2)) (C := "CodeWords") (T := F_C) (N := 2) hx hb hts (in_C _) hown hK hP 0 rfl rfl 1 (by decide) (ht aw_24) (fun _ h9 => h9) rfl d_C_tell_35 ?_
    exact W.iret (v := r_5.2) hx hb hr (fun t ht hW => ⟨⟨_, (r_5.1, r_5.2), rfl, ⟨congrArg (fun z => z.1) (Option.some.inj hf), congrArg (fun z => z.2) (Option.some.inj hf)⟩, by rw [← ht] at hP; exact hP⟩, hS.F ht⟩) hS.2.2 d_C_tell_38
  · replace hf := (if_pos c_3).symm.trans hf
    refine lv_aload_n hx hb d_C_tell_15 rfl (lv_at hl 1 rfl) ?_
    refine lv_iload_n hx hb d_C_tell_16 rfl (lv_at hl 2 rfl) ?_
    obtain ⟨r_7, g_8, hf⟩ := Option.bind_eq_some_iff.mp hf
    refine va_callv (va_runV (As := [.int (a0)]) (rest := []) ⟨hx, hb, hml, hown, hts⟩ (c_C_writeIllegal l (ad := ad) (sk := sk) (sv := sv) (tK := tK) dC dI cA h0 o w_f 0 a0  r_7 g_8) (cwV 1 hts (aw_V aw_189 aw_191 aw_p6 aw_1 aw_192) rfl rfl rfl (by decide +kernel) ⟨Nat.le_of_ble_eq_true rfl, Nat.le_of_ble_eq_true rfl⟩) ⟨wBlind, va_recv hK hP (ci := 0) (q0 := 0) rfl rfl, fun U hU hW => ⟨rfl, by rw [hU]; exact hP, va_K.moved hW.alike hK, hD, hT.at hS hU hW (fun _ z => z)⟩⟩ rfl rfl hl.1 rfl (lv_room (Nat.le_of_ble_eq_true rfl)) d_C_tell_17 ⟨Nat.le_refl _, Nat.le_refl _⟩) hS (fun _ _ h => h) (fun _ h => h) (fun u t H1 locs ht1 hvm hw hB hz1 hk1 hS => ?_)
    rw [hw] at hB
    rw [ht1] at hB
    have hP : va_P (dC, dI) cls2 (wC cA h0 o r_7.1 r_7.2) H1 := hB
    have hD : va_D (aC h0 o) (wC cA h0 o r_7.1 r_7.2) := dD hD0 rfl
    refine lv_goto (tgt := 34) hx hb d_C_tell_20 (by decide) ?_
    refine lv_aload_n hx hb d_C_tell_34 rfl (lv_at hl 1 rfl) ?_
    refine va_get (D := (dC, dI)) (ci := 0) (v := .int (r_7.2)) (C := "CodeWords") (T := F_C) (N := 2) hx hb hts (in_C _) hown hK hP 0 rfl rfl 1 (by decide) (ht aw_24) (fun _ h9 => h9) rfl d_C_tell_35 ?_
    exact W.iret (v := r_7.2) hx hb hr (fun t ht hW => ⟨⟨_, (r_7.1, r_7.2), rfl, ⟨congrArg (fun z => z.1) (Option.some.inj hf), congrArg (fun z => z.2) (Option.some.inj hf)⟩, by rw [← ht] at hP; exact hP⟩, hS.F ht⟩) hS.2.2 d_C_tell_38

def f_C_letter (w_f : Nat → Int32) (w_n : Int32) (a0 : Int32) : Option (Int32) :=
  if a0 < 0 then (some ((-1))) else (if w_n ≤ a0 then (some ((-1))) else (if 48 ≤ a0 then (some ((-1))) else (if a0 < 0 ∨ 48 ≤ a0.toNatClampNeg then none else some (w_f a0.toNatClampNeg))))
set_option maxHeartbeats 1000000 in
set_option maxRecDepth 100000 in
theorem c_C_letter (l : Launch) {ad sk sv : Nat → Nat} {tK : Nat} (dC : Nat → ClassId) (dI : Nat → Nat → Nat) (cA : ClassId) (h0 o : Nat) (w_f : Nat → Int32) (w_n : Int32) (a0 : Int32)  (r : Int32) (hf : f_C_letter w_f w_n a0 = some r) : Met l y_C_letter (Cond.code y_C_letter b_C_letter 2 (Option.some FieldType.int) :: aw) ({ frames := 0, cells := 0, slots := 0, locals := 0 } : Room) (va_Pc [.ref (h0), .int (a0)] (fun U => va_P (dC, dI) cls2 (wC cA h0 o w_f w_n) U.heap ∧ va_K (dC, dI) cls2 [(cA, .char)] U ∧ va_D (aC h0 o) (wC cA h0 o w_f w_n) ∧ tb ad sk sv tK (aC h0 o) U U.heap)) (QcRead r) 0 0 (fun _ => False) := by
  refine Met.ofW (cc := b_C_letter) (maxL := 2) (ret := (Option.some FieldType.int)) (by decide) rfl ?_
  intro p e s m args below meth c s₁ B hml hv
  obtain ⟨rfl, hP, hK, hD, hT⟩ := hv
  have hD0 := hD
  have hx := B.exec
  have hb := B.bytes
  have hr := B.returns
  have hts := atoms_spec (ws := (Cond.code y_C_letter b_C_letter 2 (Option.some FieldType.int) :: aw)) B.pre
  have ht : ∀ {w : Cond}, w ∈ aw → w.before ([.ref (h0), .int (a0)] : List Value).toArray s = true := fun h => hts _ (List.mem_cons_of_mem _ h)
  have hown : s.vm.findClass "CodeWords" = some m.cls := findClass_of_methodNamed B.named
  have hlocks := B.notSynchronized
  have hS : va_S (aC h0 o) s.heap s.heap [] := va_S.rf
  have hl := lv_entry ([.ref (h0), .int (a0)]) (n := 2) (Nat.le_of_ble_eq_true rfl)
  rw [lg_entry_eq]
  generalize (lg_sl ([.ref (h0), .int (a0)]) ++ List.replicate (2 - (lg_sl ([.ref (h0), .int (a0)])).length) Slot.unset).toArray = ls at hl ⊢
  have hl : lv_has ls 2 [(0, .ref (h0)), (1, .int (a0))] := hl
  rw [f_C_letter] at hf
  refine lv_iload_n hx hb d_C_letter_0 rfl (lv_at hl 1 rfl) ?_
  refine lv_if_lt (tgt := 30) hx hb d_C_letter_1 (by decide) (fun c_1 => ?_) (fun c_1 => ?_)
  · replace hf := (if_pos c_1).symm.trans hf
    refine lv_iconst (v := (-1)) hx hb d_C_letter_30 (by decide) ?_
    exact W.iret (v := (-1)) hx hb hr (fun t ht hW => ⟨congrArg (fun z => Outcome.returned (some (Value.int z))) (Option.some.inj hf), ht⟩) (fun q h => nomatch h) d_C_letter_31
  · replace hf := (if_neg c_1).symm.trans hf
    refine lv_iload_n hx hb d_C_letter_4 rfl (lv_at hl 1 rfl) ?_
    refine lv_aload_n hx hb d_C_letter_5 rfl (lv_at hl 0 rfl) ?_
    refine va_get (D := (dC, dI)) (ci := 0) (v := .int (w_n)) (C := "CodeWords") (T := F_C) (N := 2) hx hb hts (in_C _) hown hK hP 0 rfl rfl 1 (by decide) (ht aw_24) (fun _ h9 => h9) rfl d_C_letter_6 ?_
    refine lv_icmp_ge (tgt := 30) hx hb d_C_letter_9 (by decide) (fun c_2 => ?_) (fun c_2 => ?_)
    · replace hf := (if_pos c_2).symm.trans hf
      refine lv_iconst (v := (-1)) hx hb d_C_letter_30 (by decide) ?_
      exact W.iret (v := (-1)) hx hb hr (fun t ht hW => ⟨congrArg (fun z => Outcome.returned (some (Value.int z))) (Option.some.inj hf), ht⟩) (fun q h => nomatch h) d_C_letter_31
    · replace hf := (if_neg c_2).symm.trans hf
      refine lv_iload_n hx hb d_C_letter_12 rfl (lv_at hl 1 rfl) ?_
      refine lv_aload_n hx hb d_C_letter_13 rfl (lv_at hl 0 rfl) ?_
      refine va_get (D := (dC, dI)) (ci := 0) (v := .ref (o)) (C := "CodeWords") (T := F_C) (N := 2) hx hb hts (in_C _) hown hK hP 0 rfl rfl 0 (by decide) (ht aw_23) (fun _ h9 => h9) rfl d_C_letter_14 ?_
      refine va_alen (v := 48) hx hb hK hP 1 0 rfl rfl rfl d_C_letter_17 ?_
      refine lv_icmp_ge (tgt := 30) hx hb d_C_letter_18 (by decide) (fun c_3 => ?_) (fun c_3 => ?_)
      · replace hf := (if_pos c_3).symm.trans hf
        refine lv_iconst (v := (-1)) hx hb d_C_letter_30 (by decide) ?_
        exact W.iret (v := (-1)) hx hb hr (fun t ht hW => ⟨congrArg (fun z => Outcome.returned (some (Value.int z))) (Option.some.inj hf), ht⟩) (fun q h => nomatch h) d_C_letter_31
      · replace hf := (if_neg c_3).symm.trans hf
        refine lv_aload_n hx hb d_C_letter_21 rfl (lv_at hl 0 rfl) ?_
        refine va_get (D := (dC, dI)) (ci := 0) (v := .ref (o)) (C := "CodeWords") (T := F_C) (N := 2) hx hb hts (in_C _) hown hK hP 0 rfl rfl 0 (by decide) (ht aw_23) (fun _ h9 => h9) rfl d_C_letter_22 ?_
        refine lv_iload_n hx hb d_C_letter_25 rfl (lv_at hl 1 rfl) ?_
        obtain ⟨z_4, hf⟩ := ju_gd hf
        refine va_cald hx hb hK hP 1 0 rfl rfl z_4 d_C_letter_26 ?_
        refine lv_goto (tgt := 31) hx hb d_C_letter_27 (by decide) ?_
        exact W.iret (v := w_f a0.toNatClampNeg) hx hb hr (fun t ht hW => ⟨congrArg (fun z => Outcome.returned (some (Value.int z))) (Option.some.inj hf), ht⟩) (fun q h => nomatch h) d_C_letter_31

