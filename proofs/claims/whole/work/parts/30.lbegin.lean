/-! the law from its entry to its loop, over the facts of the start -/
theorem aw_CG {cy : Cond} (h5 : cy ∈ aw) : GoodIn lw_tbl (cy :: aw) := by
  intro w hw
  have h : w ∈ aw := by
    rcases List.mem_cons.mp hw with rfl | hw
    · exact h5
    · exact hw
  exact ⟨aw_tbl h, aw_good h⟩
set_option maxHeartbeats 2000000 in
set_option maxRecDepth 100000 in
theorem law_begin {p : Program} {e : Env} {s : State} {m : MethodId} {below : List Frame} {meth : Method} {c : Code} (l : Launch) (hfl : l.stackTraces = false) {b L : Nat} {xs : Nat → Int32} (hL : L ≤ 3072) (C0 : lw_At p s m meth c b L xs) {ad sk sv : Nat → Nat} {tK : Nat} (hT : tb ad sk sv tK (fun q => s.heap.size ≤ q) s s.heap) (hXb : xb (fun q => s.heap.size ≤ q) s s.heap) (hN : xN s) {I : lST → Prop} (hq : lStep xs L I) (hI0 : I (fun _ => 0, 0, 0, fun _ => 0, fun _ => 0, 0, 0, fun _ => 0)) : W p l e room_1 s m #[Value.ref b] below meth c s.heap [] 0 0 (lw_Z below #[Value.ref b] s) (entryFrame m ([Value.ref b] : List Value).toArray 7) := by
  have C1 := C0
  obtain ⟨hx, hb, hr, hml, hown, hts, hX, hbl, hlocks, hgv⟩ := C0
  have hown : s.vm.findClass "CodeWordsLaw" = some m.cls := hown
  have ht : ∀ {w : Cond}, w ∈ aw → w.before #[Value.ref b] s = true := fun h => hts _ (aw_tbl h)
  have hA : ∀ q : Nat, s.heap.size ≤ q → (fun q : Nat => s.heap.size ≤ q) q := fun _ h => h
  have iC : ∀ w ∈ u_ws "CodeWords" F_C 2, w ∈ lw_tbl := fun w h => aw_tbl (in0_C w h)
  have iM : ∀ w ∈ u_ws "CodeWordsModel" F_M 6, w ∈ lw_tbl := fun w h => aw_tbl (in0_M w h)
  obtain ⟨c0, iS0, hKn0⟩ := u_known (C := "CodeWords") (T := F_C) (N := 2) (n := 2) hts iC (ht aw_16)
  obtain ⟨c1, iS1, hKn1⟩ := u_known (C := "CodeWordsModel") (T := F_M) (N := 6) (n := 6) hts iM (ht aw_386)
  obtain ⟨dC, dI, hKc⟩ : ∃ (dC : Nat → ClassId) (dI : Nat → Nat → Nat), ∀ (k : Nat) (q : vw_C), cls2[k]? = some q → u_Kn s q.1 q.2.1 q.2.2 (dC k) (dI k) := by
    refine ⟨fun k => if k = 0 then c0 else c1, fun k => if k = 0 then iS0 else iS1, ?_⟩
    intro k q hq
    match k, hq with
    | 0, hq => cases hq; exact hKn0
    | 1, hq => cases hq; exact hKn1
    | k + 2, hq => simp [cls2] at hq
  have hS : va_S (fun q : Nat => s.heap.size ≤ q) s.heap s.heap [] := va_S.rf
  have hK : va_K (dC, dI) cls2 [] s := ⟨hKc, fun k q h => by simp at h⟩
  have hP : va_P (dC, dI) cls2 [] s.heap := fun k q h => by simp at h
  have hD : va_D (fun q : Nat => s.heap.size ≤ q) [] := ⟨fun i j p q h => by simp at h, fun k q h => by simp at h⟩
  have hl := lv_entry ([.ref b]) (n := 7) (Nat.le_of_ble_eq_true rfl)
  rw [lg_entry_eq]
  generalize (lg_sl ([.ref b]) ++ List.replicate (7 - (lg_sl ([.ref b])).length) Slot.unset).toArray = ls at hl ⊢
  have hl : lv_has ls 7 [(0, .ref b)] := hl
  refine va_new (ci := 0) (fs := [.null, .int 0]) (C := "CodeWords") (T := F_C) (N := 2) hx hb hts iC ty_C tyok_C hown (ht aw_15) (ht aw_16) (ht aw_1) hK hP hD hS hA rfl (fun j hj => by rcases (show j = 0 ∨ j = 1 by omega) with rfl | rfl <;> rfl) (Nat.le_of_ble_eq_true rfl) (Nat.le_of_ble_eq_true rfl) d_L_law_0 (fun h0 H hP hD hS => ?_)
  have hP : va_P (dC, dI) cls2 [(h0, .inr (0, [.null, .int 0]))] H := hP
  have hD : va_D (fun q : Nat => s.heap.size ≤ q) [(h0, .inr (0, [.null, .int 0]))] := hD
  refine lv_dup hx hb d_L_law_3 rfl ?_
  have hFc := va_free (wc := [(h0, .inr (0, [.null, .int 0]))]) hD hS hA [0] rfl
  refine va_callv (va_runI (As := []) (rest := [.ref h0]) ⟨hx, hb, hml, hown, hts⟩ (c_C_init l dC dI h0 H.size) (cwI 0 hts (aw_CG aw_19) rfl rfl rfl (ht aw_1) (ht aw_17) (ht aw_18) rfl (by decide +kernel) ⟨Nat.le_of_ble_eq_true rfl, Nat.le_of_ble_eq_true rfl⟩) ⟨fun a U g mk q => by obtain ⟨q0, q1, qP, qK, qD⟩ := q; exact ⟨q0, q1, qP, va_K.moved (u := U) (U := U.calling g mk a) (Vm.Alike.refl U.vm) qK, qD⟩, fun U hU hW => ⟨rfl, by rw [hU], by rw [hU]; exact hP, va_K.moved hW.alike hK, hD.weaken (fun _ _ _ _ => trivial)⟩⟩ rfl rfl hl.1 rfl (lv_room (Nat.le_of_ble_eq_true rfl)) d_L_law_4 ⟨Nat.le_of_ble_eq_true rfl, Nat.le_of_ble_eq_true rfl⟩) hS (fun q _ h => hFc q h) hFc (fun u t H1 locs ht1 hvm hw hB hz1 hk1 hS => ?_)
  obtain ⟨cA, o⟩ := u
  obtain ⟨hP1, hK1, hD1⟩ := hB
  rw [ht1] at hP1
  have hK1 := va_K.moved hvm.symm hK1
  obtain ⟨hP, hD⟩ := va_join (wr := []) (w1 := wC cA h0 o (fun _ => 0) 0) hP hD [0] [] rfl rfl (by decide) (by decide) hk1 hFc hP1 hD1
  have hK : va_K (dC, dI) cls2 [(cA, .char)] s := hK1
  generalize H1 = H at hP hS ⊢
  have hP : va_P (dC, dI) cls2 [(h0, .inr (0, [.ref o, .int 0])), (o, .inl (cA, 48, .inl (fun _ => 0)))] H := hP
  have hD : va_D (fun q : Nat => s.heap.size ≤ q) [(h0, .inr (0, [.ref o, .int 0])), (o, .inl (cA, 48, .inl (fun _ => 0)))] := hD
  refine lv_astore_n (lv' := [(1, .ref h0), (0, .ref b)]) hx hb d_L_law_7 rfl hl (by decide) rfl (fun ls hl => ?_)
  refine va_new (ci := 1) (fs := [.int 0, .null, .null, .null, .int 0, .int 0]) (C := "CodeWordsModel") (T := F_M) (N := 6) hx hb hts iM ty_M tyok_M hown (ht aw_385) (ht aw_386) (ht aw_2) hK hP hD hS hA rfl (fun j hj => by rcases (show j = 0 ∨ j = 1 ∨ j = 2 ∨ j = 3 ∨ j = 4 ∨ j = 5 by omega) with rfl | rfl | rfl | rfl | rfl | rfl <;> rfl) (Nat.le_of_ble_eq_true rfl) (Nat.le_of_ble_eq_true rfl) d_L_law_8 (fun h1 H hP hD hS => ?_)
  have hP : va_P (dC, dI) cls2 [(h0, .inr (0, [.ref o, .int 0])), (o, .inl (cA, 48, .inl (fun _ => 0))), (h1, .inr (1, [.int 0, .null, .null, .null, .int 0, .int 0]))] H := hP
  have hD : va_D (fun q : Nat => s.heap.size ≤ q) [(h0, .inr (0, [.ref o, .int 0])), (o, .inl (cA, 48, .inl (fun _ => 0))), (h1, .inr (1, [.int 0, .null, .null, .null, .int 0, .int 0]))] := hD
  refine lv_dup hx hb d_L_law_11 rfl ?_
  have hPc := hP.sub (ws' := [(h1, .inr (1, [.int 0, .null, .null, .null, .int 0, .int 0]))]) [2] rfl
  have hDc := hD.sub (ws' := [(h1, .inr (1, [.int 0, .null, .null, .null, .int 0, .int 0]))]) [2] (by decide) rfl
  have hFc := va_free (wc := [(h1, .inr (1, [.int 0, .null, .null, .null, .int 0, .int 0]))]) hD hS hA [2] rfl
  refine va_callv (va_runI (As := []) (rest := [.ref h1]) ⟨hx, hb, hml, hown, hts⟩ (c_M_init l (ad := ad) (sk := sk) (sv := sv) (tK := tK) dC dI h1 H.size mT m_init) (cwI 0 hts (aw_CG aw_389) rfl rfl rfl (ht aw_2) (ht aw_387) (ht aw_388) rfl (by decide +kernel) ⟨Nat.le_of_ble_eq_true rfl, Nat.le_of_ble_eq_true rfl⟩) ⟨fun a U g mk q => by obtain ⟨q0, q1, qP, qK, qD, qT⟩ := q; exact ⟨q0, q1, qP, va_K.moved (u := U) (U := U.calling g mk a) (Vm.Alike.refl U.vm) qK, qD, qT.call⟩, fun U hU hW => ⟨rfl, by rw [hU], by rw [hU]; exact hPc, va_K.moved hW.alike (hK.sub [] rfl), hDc.weaken (fun _ _ _ _ => trivial), hT.at hS hU hW hFc⟩⟩ rfl rfl hl.1 rfl (lv_room (Nat.le_of_ble_eq_true rfl)) d_L_law_12 ⟨Nat.le_of_ble_eq_true rfl, Nat.le_of_ble_eq_true rfl⟩) hS (fun q _ h => hFc q h) hFc (fun u t H1 locs ht1 hvm hw hB hz1 hk1 hS => ?_)
  obtain ⟨cI, rw_, pt, ou⟩ := u
  obtain ⟨hP1, hK1, hD1⟩ := hB
  rw [ht1] at hP1
  have hK1 := va_K.moved hvm.symm hK1
  obtain ⟨hP, hD⟩ := va_join (wr := [(h0, .inr (0, [.ref o, .int 0])), (o, .inl (cA, 48, .inl (fun _ => 0)))]) (w1 := wM cI h1 rw_ pt ou 0 mR (fun _ => 0) (fun _ => 0) 0 0) hP hD [2] [0, 1] rfl rfl (by decide) (by decide) hk1 hFc hP1 hD1
  have hK : va_K (dC, dI) cls2 [(cA, .char), (cI, .int)] s := hK.app hK1
  generalize H1 = H at hP hS ⊢
  refine lv_astore_n (lv' := [(2, .ref h1), (1, .ref h0), (0, .ref b)]) hx hb d_L_law_15 rfl hl (by decide) rfl (fun ls hl => ?_)
  refine lv_iconst (v := 1) hx hb d_L_law_16 (by decide) ?_
  refine va_newa (atype := .long) (ty := .long) (a0 := (1, .inr (.inl (fun _ => 0)))) (N' := 1) hx hb (ht aw_760) rfl hK hP hD hS hA (fun _ => rfl) (by decide) (by decide) (by decide) (Nat.le_of_ble_eq_true rfl) (Nat.le_of_ble_eq_true rfl) d_L_law_17 (fun oa cL H hK hP hD hS => ?_)
  have hP : va_P (dC, dI) cls2 [(h0, .inr (0, [.ref o, .int 0])), (o, .inl (cA, 48, .inl (fun _ => 0))), (h1, .inr (1, [.int 0, .ref rw_, .ref pt, .ref ou, .int 0, .int 0])), (rw_, .inl (cI, 2400, .inl mR)), (pt, .inl (cI, 4, .inl (fun _ => 0))), (ou, .inl (cI, 80, .inl (fun _ => 0))), (oa, .inl (cL, 1, .inr (.inl (fun _ => 0))))] H := hP
  have hD : va_D (fun q : Nat => s.heap.size ≤ q) [(h0, .inr (0, [.ref o, .int 0])), (o, .inl (cA, 48, .inl (fun _ => 0))), (h1, .inr (1, [.int 0, .ref rw_, .ref pt, .ref ou, .int 0, .int 0])), (rw_, .inl (cI, 2400, .inl mR)), (pt, .inl (cI, 4, .inl (fun _ => 0))), (ou, .inl (cI, 80, .inl (fun _ => 0))), (oa, .inl (cL, 1, .inr (.inl (fun _ => 0))))] := hD
  have hK : va_K (dC, dI) cls2 [(cA, .char), (cI, .int), (cL, .long)] s := hK
  have hd : lA s cA cI cL h0 o h1 rw_ pt ou oa := by
    refine ⟨aC_D (dD (hD.sub (ws' := wC cA h0 o (fun _ => 0) 0) [0, 1] (by decide) rfl) rfl), aM_D (A := fun q => s.heap.size ≤ q) (dD (hD.sub (ws' := wM cI h1 rw_ pt ou 0 mR (fun _ => 0) (fun _ => 0) 0 0) [2, 3, 4, 5] (by decide) rfl) rfl), ?_, ?_, ?_, hD.2 6 _ rfl, ?_, ?_, ?_⟩
    · refine ⟨fun i j p q hi hj _ => ?_, fun k q hq => ?_⟩
      · have h1 := (List.getElem?_eq_some_iff.mp hi).1
        have h2 := (List.getElem?_eq_some_iff.mp hj).1
        simp at h1 h2
        omega
      · match k, hq with
        | 0, hq => cases hq; rfl
        | k + 1, hq => simp at hq
    · intro q z
      rcases z with rfl | rfl
      · exact hD.2 0 _ rfl
      · exact hD.2 1 _ rfl
    · intro q z
      rcases z with rfl | rfl | rfl | rfl
      · exact hD.2 2 _ rfl
      · exact hD.2 3 _ rfl
      · exact hD.2 4 _ rfl
      · exact hD.2 5 _ rfl
    · intro q z y
      rcases z with z | z | z | z <;> rcases y with y | y
      · exact absurd (hD.1 2 0 _ _ rfl rfl (z.symm.trans y)) (by decide)
      · exact absurd (hD.1 2 1 _ _ rfl rfl (z.symm.trans y)) (by decide)
      · exact absurd (hD.1 3 0 _ _ rfl rfl (z.symm.trans y)) (by decide)
      · exact absurd (hD.1 3 1 _ _ rfl rfl (z.symm.trans y)) (by decide)
      · exact absurd (hD.1 4 0 _ _ rfl rfl (z.symm.trans y)) (by decide)
      · exact absurd (hD.1 4 1 _ _ rfl rfl (z.symm.trans y)) (by decide)
      · exact absurd (hD.1 5 0 _ _ rfl rfl (z.symm.trans y)) (by decide)
      · exact absurd (hD.1 5 1 _ _ rfl rfl (z.symm.trans y)) (by decide)
    · intro y
      rcases y with y | y
      · exact absurd (hD.1 6 0 _ _ rfl rfl y) (by decide)
      · exact absurd (hD.1 6 1 _ _ rfl rfl y) (by decide)
    · intro y
      rcases y with y | y | y | y
      · exact absurd (hD.1 6 2 _ _ rfl rfl y) (by decide)
      · exact absurd (hD.1 6 3 _ _ rfl rfl y) (by decide)
      · exact absurd (hD.1 6 4 _ _ rfl rfl y) (by decide)
      · exact absurd (hD.1 6 5 _ _ rfl rfl y) (by decide)
  refine lv_astore_n (lv' := [(3, .ref oa), (2, .ref h1), (1, .ref h0), (0, .ref b)]) hx hb d_L_law_19 rfl hl (by decide) rfl (fun ls hl => ?_)
  refine lv_iconst (v := 0) hx hb d_L_law_20 (by decide) ?_
  refine lv_istore (lv' := [(4, .int 0), (3, .ref oa), (2, .ref h1), (1, .ref h0), (0, .ref b)]) hx hb d_L_law_21 hl (by decide) rfl (fun ls hl => ?_)
  refine W.widen (k := 7 + 0) (n := 2541 + 6 * 0) (Nat.le_of_ble_eq_true rfl) (Nat.le_of_ble_eq_true rfl) ?_
  exact law_loop hL hfl C1 dC dI hT hXb hN hK hd hq (L + 1) 0 (fun _ => 0, 0, 0, fun _ => 0, fun _ => 0, 0, 0, fun _ => 0) (by omega) (by omega) hI0 H locs ls (hP.sub [0, 1] rfl) (hP.sub [2, 3, 4, 5] rfl) (hP.sub [6] rfl) hS (lv_sub hl [4, 3, 2, 1, 0] rfl)
