/-! the two constructors -/
theorem aM_sub {A : Nat → Prop} {cI : ClassId} {h0 rw pt ou : Nat} {th : Int32} {rf pf of : Nat → Int32} {sz bg : Int32} (h : va_D A (wM cI h0 rw pt ou th rf pf of sz bg)) : ∀ q, aM h0 rw pt ou q → A q := by
  intro q z
  rcases z with rfl | rfl | rfl | rfl
  · exact h.2 0 _ rfl
  · exact h.2 1 _ rfl
  · exact h.2 2 _ rfl
  · exact h.2 3 _ rfl
theorem aM_D {A : Nat → Prop} {cI : ClassId} {h0 rw pt ou : Nat} {th : Int32} {rf pf of : Nat → Int32} {sz bg : Int32} (h : va_D A (wM cI h0 rw pt ou th rf pf of sz bg)) : va_D (aM h0 rw pt ou) (wM cI h0 rw pt ou th rf pf of sz bg) := by
  refine ⟨h.1, fun k q hq => ?_⟩
  match k, hq with
  | 0, hq => cases hq; exact Or.inl rfl
  | 1, hq => cases hq; exact Or.inr (Or.inl rfl)
  | 2, hq => cases hq; exact Or.inr (Or.inr (Or.inl rfl))
  | 3, hq => cases hq; exact Or.inr (Or.inr (Or.inr rfl))
  | k + 4, hq => simp at hq
theorem aC_sub {A : Nat → Prop} {cA : ClassId} {h0 o : Nat} {f : Nat → Int32} {n : Int32} (h : va_D A (wC cA h0 o f n)) : ∀ q, aC h0 o q → A q := by
  intro q z
  rcases z with rfl | rfl
  · exact h.2 0 _ rfl
  · exact h.2 1 _ rfl
theorem aC_D {A : Nat → Prop} {cA : ClassId} {h0 o : Nat} {f : Nat → Int32} {n : Int32} (h : va_D A (wC cA h0 o f n)) : va_D (aC h0 o) (wC cA h0 o f n) := by
  refine ⟨h.1, fun k q hq => ?_⟩
  match k, hq with
  | 0, hq => cases hq; exact Or.inl rfl
  | 1, hq => cases hq; exact Or.inr rfl
  | k + 2, hq => simp at hq
set_option maxHeartbeats 4000000 in
set_option maxRecDepth 100000 in
theorem c_C_init (l : Launch) (dC : Nat → ClassId) (dI : Nat → Nat → Nat) (h0 sz : Nat) : Met l y_C_init (Cond.code y_C_init b_C_init 1 (Option.none : Option FieldType) :: aw) ({ frames := 1, cells := 1, slots := 48, locals := 20 } : Room) (va_Pc [.ref h0] (fun U => U.heap.size = sz ∧ va_P (dC, dI) cls2 [(h0, .inr (0, [.null, .int 0]))] U.heap ∧ va_K (dC, dI) cls2 [] U ∧ va_D (fun _ => True) [(h0, .inr (0, [.null, .int 0]))])) (va_Qv (fun _ : ClassId × Nat => True) (fun u t => va_P (dC, dI) cls2 (wC u.1 h0 u.2 (fun _ => 0) 0) t.heap ∧ va_K (dC, dI) cls2 [(u.1, .char)] t ∧ va_D (va_A [(h0, .inr (0, [.null, .int 0]))] sz) (wC u.1 h0 u.2 (fun _ => 0) 0)) (va_A [(h0, .inr (0, [.null, .int 0]))] sz)) 1 48 (va_A [(h0, .inr (0, [.null, .int 0]))] sz) := by
  refine Met.ofW (cc := b_C_init) (maxL := 1) (ret := none) (by decide) rfl ?_
  intro p e s m args below meth c s₁ B hml hv
  obtain ⟨rfl, hsz, hP, hK, hD0⟩ := hv
  have hx := B.exec
  have hb := B.bytes
  have hr := B.returns
  have hts := atoms_spec (ws := (Cond.code y_C_init b_C_init 1 (Option.none : Option FieldType) :: aw)) B.pre
  have ht : ∀ {w : Cond}, w ∈ aw → w.before ([.ref h0] : List Value).toArray s = true := fun h => hts _ (List.mem_cons_of_mem _ h)
  have hown : s.vm.findClass "CodeWords" = some m.cls := findClass_of_methodNamed B.named
  have hlocks := B.notSynchronized
  have hin : meth.name = "<init>" := (name_of_methodNamed B.named B.method).1
  subst hsz
  have hD := hD0.self (sz := s.heap.size)
  generalize hAe : va_A [(h0, .inr (0, [.null, .int 0]))] s.heap.size = A at hD ⊢
  have hA : ∀ q : Nat, s.heap.size ≤ q → A q := fun q h => by rw [← hAe]; exact Or.inr h
  have hS : va_S A s.heap s.heap [] := va_S.rf
  have hl := lv_entry ([.ref h0]) (n := 1) (Nat.le_of_ble_eq_true rfl)
  rw [lg_entry_eq]
  generalize (lg_sl ([.ref h0]) ++ List.replicate (1 - (lg_sl ([.ref h0])).length) Slot.unset).toArray = ls at hl ⊢
  have hl : lv_has ls 1 [(0, .ref h0)] := hl
  refine lv_aload_n hx hb d_C_init_0 rfl (lv_at hl 0 rfl) ?_
  refine W.objInit hx hb hown (ht aw_20) (ht aw_21) (ht aw_22) rfl (by rw [hml]; exact hl.1) rfl d_C_init_1 (Nat.le_of_ble_eq_true rfl) (Nat.le_of_ble_eq_true rfl) ?_
  refine W.eq (g2 := F0 m 4 ls []) rfl ?_
  refine lv_aload_n hx hb d_C_init_4 rfl (lv_at hl 0 rfl) ?_
  refine lv_bipush (v := 48) hx hb d_C_init_5 (by decide) ?_
  refine va_newa (atype := .char) (ty := .char) (a0 := (48, .inl (fun _ => 0))) (N' := 48) hx hb (ht aw_30) rfl hK hP hD hS hA (fun _ => rfl) (by decide) (by decide) (by decide) (Nat.le_of_ble_eq_true rfl) (Nat.le_of_ble_eq_true rfl) d_C_init_7 (fun o cA H hK hP hD hS => ?_)
  have hP : va_P (dC, dI) cls2 [(h0, .inr (0, [.null, .int 0])), (o, .inl (cA, 48, .inl (fun _ => 0)))] H := hP
  have hD : va_D A [(h0, .inr (0, [.null, .int 0])), (o, .inl (cA, 48, .inl (fun _ => 0)))] := hD
  have hK : va_K (dC, dI) cls2 [(cA, .char)] s := hK
  refine va_putF (D := (dC, dI)) (ci := 0) (v := .ref o) (ty := .array .char) (C := "CodeWords") (T := F_C) (N := 2) hx hb hts (in_C _) ty_C tyok_C nm_C hown hK hP hD hS 0 rfl rfl 0 (by decide) (ht aw_23) (fun _ h9 => h9) rfl hin rfl (by decide +kernel) rfl rfl (Nat.le_of_ble_eq_true rfl) d_C_init_9 (fun H locs hP hD hS => ?_)
  have hP : va_P (dC, dI) cls2 (wC cA h0 o (fun _ => 0) 0) H := hP
  have hD : va_D A (wC cA h0 o (fun _ => 0) 0) := hD
  refine lv_aload_n hx hb d_C_init_12 rfl (lv_at hl 0 rfl) ?_
  refine lv_iconst (v := 0) hx hb d_C_init_13 (by decide) ?_
  refine va_put (D := (dC, dI)) (ci := 0) (v := .int 0) (ty := .int) (C := "CodeWords") (T := F_C) (N := 2) hx hb hts (in_C _) ty_C tyok_C nm_C hown hK hP hD hS 0 rfl rfl 1 (by decide) (ht aw_24) (fun _ h9 => h9) rfl (by decide +kernel) rfl rfl (Nat.le_of_ble_eq_true rfl) d_C_init_14 (fun H locs hP hD hS => ?_)
  have hP : va_P (dC, dI) cls2 (wC cA h0 o (fun _ => 0) 0) H := hP
  have hD : va_D A (wC cA h0 o (fun _ => 0) 0) := hD
  refine W.widen (k := 1) (n := 48) (Nat.le_of_ble_eq_true rfl) (Nat.le_of_ble_eq_true rfl) ?_
  exact W.vret hx hb hr (fun t ht hW => ⟨⟨(cA, o), rfl, trivial, by rw [← ht] at hP; exact hP, va_K.moved hW.alike hK, hD⟩, hS.F ht⟩) hS.2.2 d_C_init_17
/-- the rows before anything is laid -/
def mm0 : List (List Int32) := List.replicate 75 (List.replicate 32 0)
theorem gg_mm0 : gg mm0 = fun _ => 0 := by
  funext j
  have h : ∀ (n k : Nat), (List.replicate n (0 : Int32)).getD k 0 = 0 := by
    intro n k
    rw [List.getD_eq_getElem?_getD, List.getElem?_replicate]
    split <;> rfl
  rw [gg, mm0, List.getD_eq_getElem?_getD (l := List.replicate 75 _), List.getElem?_replicate]
  split
  · exact h _ _
  · rfl
theorem gw_mm0 : gw mm0 := by
  refine ⟨List.length_replicate, fun k hk => ?_⟩
  rw [mm0, List.getD_eq_getElem?_getD, List.getElem?_replicate, if_pos hk, Option.getD_some, List.length_replicate]
def f_M_init_L30 : Nat → Int32 → List (List Int32) → Option (List (List Int32))
  | 0, _, _ => none
  | n + 1, x1, mm => if 75 ≤ x1 then ((f_M_layShort mm).bind fun r => some r) else ((f_M_layLong mm x1).bind fun r => f_M_init_L30 n (x1 + 1) r)
def f_M_init : Option (List (List Int32)) := f_M_init_L30 80 0 mm0
set_option maxHeartbeats 4000000 in
set_option maxRecDepth 100000 in
theorem c_M_init (l : Launch) {ad sk sv : Nat → Nat} {tK : Nat} (dC : Nat → ClassId) (dI : Nat → Nat → Nat) (h0 sz : Nat) (r : List (List Int32)) (hf : f_M_init = some r) : Met l y_M_init (Cond.code y_M_init b_M_init 2 (Option.none : Option FieldType) :: aw) ({ frames := 4, cells := 3, slots := 2484, locals := 91 } : Room) (va_Pc [.ref h0] (fun U => U.heap.size = sz ∧ va_P (dC, dI) cls2 [(h0, .inr (1, [.int 0, .null, .null, .null, .int 0, .int 0]))] U.heap ∧ va_K (dC, dI) cls2 [] U ∧ va_D (fun _ => True) [(h0, .inr (1, [.int 0, .null, .null, .null, .int 0, .int 0]))] ∧ tb ad sk sv tK (va_A [(h0, .inr (1, [.int 0, .null, .null, .null, .int 0, .int 0]))] sz) U U.heap)) (va_Qv (fun _ : ClassId × Nat × Nat × Nat => True) (fun u t => va_P (dC, dI) cls2 (wM u.1 h0 u.2.1 u.2.2.1 u.2.2.2 0 (gg r) (fun _ => 0) (fun _ => 0) 0 0) t.heap ∧ va_K (dC, dI) cls2 [(u.1, .int)] t ∧ va_D (va_A [(h0, .inr (1, [.int 0, .null, .null, .null, .int 0, .int 0]))] sz) (wM u.1 h0 u.2.1 u.2.2.1 u.2.2.2 0 (gg r) (fun _ => 0) (fun _ => 0) 0 0)) (va_A [(h0, .inr (1, [.int 0, .null, .null, .null, .int 0, .int 0]))] sz)) 3 2484 (va_A [(h0, .inr (1, [.int 0, .null, .null, .null, .int 0, .int 0]))] sz) := by
  refine Met.ofW (cc := b_M_init) (maxL := 2) (ret := none) (by decide) rfl ?_
  intro p e s m args below meth c s₁ B hml hv
  obtain ⟨rfl, hsz, hP, hK, hD0, hT⟩ := hv
  have hx := B.exec
  have hb := B.bytes
  have hr := B.returns
  have hts := atoms_spec (ws := (Cond.code y_M_init b_M_init 2 (Option.none : Option FieldType) :: aw)) B.pre
  have ht : ∀ {w : Cond}, w ∈ aw → w.before ([.ref h0] : List Value).toArray s = true := fun h => hts _ (List.mem_cons_of_mem _ h)
  have hown : s.vm.findClass "CodeWordsModel" = some m.cls := findClass_of_methodNamed B.named
  have hlocks := B.notSynchronized
  have hin : meth.name = "<init>" := (name_of_methodNamed B.named B.method).1
  subst hsz
  have hD := hD0.self (sz := s.heap.size)
  generalize hAe : va_A [(h0, .inr (1, [.int 0, .null, .null, .null, .int 0, .int 0]))] s.heap.size = A at hD hT ⊢
  have hA : ∀ q : Nat, s.heap.size ≤ q → A q := fun q h => by rw [← hAe]; exact Or.inr h
  have hS : va_S A s.heap s.heap [] := va_S.rf
  have hl := lv_entry ([.ref h0]) (n := 2) (Nat.le_of_ble_eq_true rfl)
  rw [lg_entry_eq]
  generalize (lg_sl ([.ref h0]) ++ List.replicate (2 - (lg_sl ([.ref h0])).length) Slot.unset).toArray = ls at hl ⊢
  have hl : lv_has ls 2 [(0, .ref h0)] := hl
  refine lv_aload_n hx hb d_M_init_0 rfl (lv_at hl 0 rfl) ?_
  refine W.objInit hx hb hown (ht aw_390) (ht aw_21) (ht aw_22) rfl (by rw [hml]; exact hl.1) rfl d_M_init_1 (Nat.le_of_ble_eq_true rfl) (Nat.le_of_ble_eq_true rfl) ?_
  refine W.eq (g2 := F0 m 4 ls []) rfl ?_
  refine lv_aload_n hx hb d_M_init_4 rfl (lv_at hl 0 rfl) ?_
  refine lv_sipush (v := 2400) hx hb d_M_init_5 (by decide) ?_
  refine va_newa (atype := .int) (ty := .int) (a0 := (2400, .inl (fun _ => 0))) (N' := 2400) hx hb (ht aw_458) rfl hK hP hD hS hA (fun _ => rfl) (by decide) (by decide) (by decide) (Nat.le_of_ble_eq_true rfl) (Nat.le_of_ble_eq_true rfl) d_M_init_8 (fun rw_ c1 H hK hP hD hS => ?_)
  have hP : va_P (dC, dI) cls2 [(h0, .inr (1, [.int 0, .null, .null, .null, .int 0, .int 0])), (rw_, .inl (c1, 2400, .inl (fun _ => 0)))] H := hP
  have hD : va_D A [(h0, .inr (1, [.int 0, .null, .null, .null, .int 0, .int 0])), (rw_, .inl (c1, 2400, .inl (fun _ => 0)))] := hD
  have hK : va_K (dC, dI) cls2 [(c1, .int)] s := hK
  refine va_putF (D := (dC, dI)) (ci := 1) (v := .ref rw_) (ty := .array .int) (C := "CodeWordsModel") (T := F_M) (N := 6) hx hb hts (in_M _) ty_M tyok_M nm_M hown hK hP hD hS 0 rfl rfl 1 (by decide) (ht aw_440) (fun _ h9 => h9) rfl hin rfl (by decide +kernel) rfl rfl (Nat.le_of_ble_eq_true rfl) d_M_init_10 (fun H locs hP hD hS => ?_)
  have hP : va_P (dC, dI) cls2 [(h0, .inr (1, [.int 0, .ref rw_, .null, .null, .int 0, .int 0])), (rw_, .inl (c1, 2400, .inl (fun _ => 0)))] H := hP
  have hD : va_D A [(h0, .inr (1, [.int 0, .ref rw_, .null, .null, .int 0, .int 0])), (rw_, .inl (c1, 2400, .inl (fun _ => 0)))] := hD
  refine lv_aload_n hx hb d_M_init_13 rfl (lv_at hl 0 rfl) ?_
  refine lv_iconst (v := 4) hx hb d_M_init_14 (by decide) ?_
  refine va_newa (atype := .int) (ty := .int) (a0 := (4, .inl (fun _ => 0))) (N' := 4) hx hb (ht aw_458) rfl hK hP hD hS hA (fun _ => rfl) (by decide) (by decide) (by decide) (Nat.le_of_ble_eq_true rfl) (Nat.le_of_ble_eq_true rfl) d_M_init_15 (fun pt c2 H hK hP hD hS => ?_)
  have hK : va_K (dC, dI) cls2 [(c1, .int), (c2, .int)] s := hK
  obtain rfl : c1 = c2 := Option.some.inj ((hK.2 0 _ rfl).2.symm.trans (hK.2 1 _ rfl).2)
  have hK : va_K (dC, dI) cls2 [(c1, .int)] s := hK.sub [0] rfl
  have hP : va_P (dC, dI) cls2 [(h0, .inr (1, [.int 0, .ref rw_, .null, .null, .int 0, .int 0])), (rw_, .inl (c1, 2400, .inl (fun _ => 0))), (pt, .inl (c1, 4, .inl (fun _ => 0)))] H := hP
  have hD : va_D A [(h0, .inr (1, [.int 0, .ref rw_, .null, .null, .int 0, .int 0])), (rw_, .inl (c1, 2400, .inl (fun _ => 0))), (pt, .inl (c1, 4, .inl (fun _ => 0)))] := hD
  refine va_putF (D := (dC, dI)) (ci := 1) (v := .ref pt) (ty := .array .int) (C := "CodeWordsModel") (T := F_M) (N := 6) hx hb hts (in_M _) ty_M tyok_M nm_M hown hK hP hD hS 0 rfl rfl 2 (by decide) (ht aw_441) (fun _ h9 => h9) rfl hin rfl (by decide +kernel) rfl rfl (Nat.le_of_ble_eq_true rfl) d_M_init_17 (fun H locs hP hD hS => ?_)
  have hP : va_P (dC, dI) cls2 [(h0, .inr (1, [.int 0, .ref rw_, .ref pt, .null, .int 0, .int 0])), (rw_, .inl (c1, 2400, .inl (fun _ => 0))), (pt, .inl (c1, 4, .inl (fun _ => 0)))] H := hP
  have hD : va_D A [(h0, .inr (1, [.int 0, .ref rw_, .ref pt, .null, .int 0, .int 0])), (rw_, .inl (c1, 2400, .inl (fun _ => 0))), (pt, .inl (c1, 4, .inl (fun _ => 0)))] := hD
  refine lv_aload_n hx hb d_M_init_20 rfl (lv_at hl 0 rfl) ?_
  refine lv_bipush (v := 80) hx hb d_M_init_21 (by decide) ?_
  refine va_newa (atype := .int) (ty := .int) (a0 := (80, .inl (fun _ => 0))) (N' := 80) hx hb (ht aw_458) rfl hK hP hD hS hA (fun _ => rfl) (by decide) (by decide) (by decide) (Nat.le_of_ble_eq_true rfl) (Nat.le_of_ble_eq_true rfl) d_M_init_23 (fun ou c2 H hK hP hD hS => ?_)
  have hK : va_K (dC, dI) cls2 [(c1, .int), (c2, .int)] s := hK
  obtain rfl : c1 = c2 := Option.some.inj ((hK.2 0 _ rfl).2.symm.trans (hK.2 1 _ rfl).2)
  have hK : va_K (dC, dI) cls2 [(c1, .int)] s := hK.sub [0] rfl
  have hP : va_P (dC, dI) cls2 [(h0, .inr (1, [.int 0, .ref rw_, .ref pt, .null, .int 0, .int 0])), (rw_, .inl (c1, 2400, .inl (fun _ => 0))), (pt, .inl (c1, 4, .inl (fun _ => 0))), (ou, .inl (c1, 80, .inl (fun _ => 0)))] H := hP
  have hD : va_D A [(h0, .inr (1, [.int 0, .ref rw_, .ref pt, .null, .int 0, .int 0])), (rw_, .inl (c1, 2400, .inl (fun _ => 0))), (pt, .inl (c1, 4, .inl (fun _ => 0))), (ou, .inl (c1, 80, .inl (fun _ => 0)))] := hD
  refine va_putF (D := (dC, dI)) (ci := 1) (v := .ref ou) (ty := .array .int) (C := "CodeWordsModel") (T := F_M) (N := 6) hx hb hts (in_M _) ty_M tyok_M nm_M hown hK hP hD hS 0 rfl rfl 3 (by decide) (ht aw_442) (fun _ h9 => h9) rfl hin rfl (by decide +kernel) rfl rfl (Nat.le_of_ble_eq_true rfl) d_M_init_25 (fun H locs hP hD hS => ?_)
  have hP : va_P (dC, dI) cls2 (wM c1 h0 rw_ pt ou 0 (gg mm0) (fun _ => 0) (fun _ => 0) 0 0) H := by rw [gg_mm0]; exact hP
  have hD : va_D A (wM c1 h0 rw_ pt ou 0 (gg mm0) (fun _ => 0) (fun _ => 0) 0 0) := dD hD rfl
  refine W.widen (k := 3) (n := 2484) (Nat.le_of_ble_eq_true rfl) (Nat.le_of_ble_eq_true rfl) ?_
  refine lv_iconst (v := 0) hx hb d_M_init_28 (by decide) ?_
  refine lv_istore_n (lv' := [(1, .int 0), (0, .ref h0)]) hx hb d_M_init_29 rfl hl (by decide) rfl (fun ls hl => ?_)
  have hsub := aM_sub hD
  have hDm := aM_D hD
  have hD1 := hD
  rw [f_M_init] at hf
  have J : ∀ (n : Nat) (x1 : Int32) (mm : List (List Int32)) (H : Heap) (locs : List Loc) (ls : Array Slot), gw mm → va_P (dC, dI) cls2 (wM c1 h0 rw_ pt ou 0 (gg mm) (fun _ => 0) (fun _ => 0) 0 0) H → va_S A s.heap H locs → lv_has ls 2 [(1, .int x1), (0, .ref h0)] → f_M_init_L30 n x1 mm = some r → W p l e (headSpec (Cond.code y_M_init b_M_init 2 (Option.none : Option FieldType) :: aw) ({ frames := 4, cells := 3, slots := 2484, locals := 91 } : Room)).room s m ([.ref h0] : List Value).toArray below meth c H locs 3 2484 (MQ below (va_Qv (fun _ : ClassId × Nat × Nat × Nat => True) (fun u t => va_P (dC, dI) cls2 (wM u.1 h0 u.2.1 u.2.2.1 u.2.2.2 0 (gg r) (fun _ => 0) (fun _ => 0) 0 0) t.heap ∧ va_K (dC, dI) cls2 [(u.1, .int)] t ∧ va_D A (wM u.1 h0 u.2.1 u.2.2.1 u.2.2.2 0 (gg r) (fun _ => 0) (fun _ => 0) 0 0)) A) ([.ref h0] : List Value).toArray s 3 2484 A) (F0 m 30 ls []) := by
    intro n
    induction n with
    | zero => intro x1 mm H locs ls hm hP hS hl hf; rw [f_M_init_L30] at hf; cases hf
    | succ n ih =>
      intro x1 mm H locs ls hm hP hS hl hf
      rw [f_M_init_L30] at hf
      refine lv_iload_n hx hb d_M_init_30 rfl (lv_at hl 0 rfl) ?_
      refine lv_bipush (v := 75) hx hb d_M_init_31 (by decide) ?_
      refine lv_icmp_ge (tgt := 47) hx hb d_M_init_33 (by decide) (fun c_1 => ?_) (fun c_1 => ?_)
      · replace hf := (if_pos c_1).symm.trans hf
        refine lv_aload_n hx hb d_M_init_47 rfl (lv_at hl 1 rfl) ?_
        obtain ⟨r1, g1, hf⟩ := Option.bind_eq_some_iff.mp hf
        refine va_callv (va_runV (As := []) (rest := []) ⟨hx, hb, hml, hown, hts⟩ (c_M_layShort l (ad := ad) (sk := sk) (sv := sv) (tK := tK) dC dI c1 h0 rw_ pt ou mm hm r1 g1) (cwV 0 hts (aw_V aw_423 aw_425 aw_p19 aw_2 aw_426) rfl rfl rfl (by decide +kernel) ⟨Nat.le_of_ble_eq_true rfl, Nat.le_of_ble_eq_true rfl⟩) ⟨wBlind, va_recv hK hP (ci := 1) (q0 := 0) rfl rfl, fun U hU hW => ⟨rfl, by rw [hU]; exact hP, va_K.moved hW.alike hK, dD hDm rfl, hT.at hS hU hW hsub⟩⟩ rfl rfl hl.1 rfl (lv_room (Nat.le_of_ble_eq_true rfl)) d_M_init_48 ⟨Nat.le_of_ble_eq_true rfl, Nat.le_of_ble_eq_true rfl⟩) hS (fun q _ z => hsub q z) hsub (fun u t H1 locs ht1 hvm hw hB hz1 hk1 hS => ?_)
        obtain ⟨hw, hm1⟩ := hw
        rw [hw] at hB
        rw [ht1] at hB
        obtain rfl := Option.some.inj hf
        exact W.vret hx hb hr (fun t ht hW => ⟨⟨(c1, rw_, pt, ou), rfl, trivial, by rw [← ht] at hB; exact hB, va_K.moved hW.alike hK, dD hD1 rfl⟩, hS.F ht⟩) hS.2.2 d_M_init_51
      · replace hf := (if_neg c_1).symm.trans hf
        refine lv_aload_n hx hb d_M_init_36 rfl (lv_at hl 1 rfl) ?_
        refine lv_iload_n hx hb d_M_init_37 rfl (lv_at hl 0 rfl) ?_
        obtain ⟨r1, g1, hf⟩ := Option.bind_eq_some_iff.mp hf
        refine va_callv (va_runV (As := [.int x1]) (rest := []) ⟨hx, hb, hml, hown, hts⟩ (c_M_layLong l (ad := ad) (sk := sk) (sv := sv) (tK := tK) dC dI c1 h0 rw_ pt ou mm hm x1 r1 g1) (cwV 1 hts (aw_V aw_391 aw_393 aw_p16 aw_2 aw_394) rfl rfl rfl (by decide +kernel) ⟨Nat.le_of_ble_eq_true rfl, Nat.le_of_ble_eq_true rfl⟩) ⟨wBlind, va_recv hK hP (ci := 1) (q0 := 0) rfl rfl, fun U hU hW => ⟨rfl, by rw [hU]; exact hP, va_K.moved hW.alike hK, dD hDm rfl, hT.at hS hU hW hsub⟩⟩ rfl rfl hl.1 rfl (lv_room (Nat.le_of_ble_eq_true rfl)) d_M_init_38 ⟨Nat.le_of_ble_eq_true rfl, Nat.le_of_ble_eq_true rfl⟩) hS (fun q _ z => hsub q z) hsub (fun u t H1 locs ht1 hvm hw hB hz1 hk1 hS => ?_)
        obtain ⟨hw, hm1⟩ := hw
        rw [hw] at hB hm1
        rw [ht1] at hB
        refine lv_iinc (v := x1 + 1) (lv' := [(1, .int (x1 + 1)), (0, .ref h0)]) hx hb d_M_init_41 hl (k := 0) rfl rfl (by decide) rfl (fun ls hl => ?_)
        refine lv_goto (tgt := 30) hx hb d_M_init_44 (by decide) ?_
        exact ih (x1 + 1) r1 _ _ _ hm1 hB hS hl hf
  exact J 80 0 mm0 _ _ _ gw_mm0 hP hS hl hf
