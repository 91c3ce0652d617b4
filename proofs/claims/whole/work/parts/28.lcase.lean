def f_L_c1 (xs : Nat → Int32) (L : Nat) (i : Int32) (w_f : Nat → Int32) (w_n : Int32) (w_th : Int32) (w_pf : Nat → Int32) (w_of : Nat → Int32) (w_sz : Int32) (w_bg : Int32) (w_g : Nat → Int64) : Option ((Nat → Int32) × Int32 × Int32 × (Nat → Int32) × (Nat → Int32) × Int32 × Int32 × (Nat → Int64)) :=
  if (i + 1) < 0 ∨ L ≤ (i + 1).toNatClampNeg then none else (f_C_kind (xs (i + 1).toNatClampNeg)).bind fun r_2 => if (i + 1) < 0 ∨ L ≤ (i + 1).toNatClampNeg then none else (f_M_kind w_th w_pf w_of w_sz w_bg (xs (i + 1).toNatClampNeg)).bind fun r_5 => if r_2 = r_5.1 then (some (w_f, w_n, r_5.2.1, r_5.2.2.1, r_5.2.2.2.1, r_5.2.2.2.2.1, r_5.2.2.2.2.2, w_g)) else (none)
set_option maxHeartbeats 1000000 in
set_option maxRecDepth 100000 in
theorem lc_1 {p : Program} {l : Launch} {e : Env} {s : State} {m : MethodId} {below : List Frame} {meth : Method} {c : Code} {b L : Nat} {xs : Nat → Int32} (hfl : l.stackTraces = false) (C0 : lw_At p s m meth c b L xs) {ad sk sv : Nat → Nat} {tK : Nat} (dC : Nat → ClassId) (dI : Nat → Nat → Nat) {cA cI cL : ClassId} {h0 o h1 rw pt ou oa : Nat} (hT : tb ad sk sv tK (fun q => s.heap.size ≤ q) s s.heap) (hXb : xb (fun q => s.heap.size ≤ q) s s.heap) (hN : xN s) (hK : va_K (dC, dI) cls2 [(cA, .char), (cI, .int), (cL, .long)] s) (hd : lA s cA cI cL h0 o h1 rw pt ou oa) {cells slots : Nat} (hcs : cells + 1 ≤ 1038 ∧ slots + 6 ≤ 10775) (i : Int32) (w_f : Nat → Int32) (w_n : Int32) (w_th : Int32) (w_pf : Nat → Int32) (w_of : Nat → Int32) (w_sz : Int32) (w_bg : Int32) (w_g : Nat → Int64) (r : (Nat → Int32) × Int32 × Int32 × (Nat → Int32) × (Nat → Int32) × Int32 × Int32 × (Nat → Int64)) (hf : f_L_c1 xs L i w_f w_n w_th w_pf w_of w_sz w_bg w_g = some r)
    (kk : ∀ (H : Heap) (locs : List Loc) (ls : Array Slot), va_P (dC, dI) cls2 (wC cA h0 o r.1 r.2.1) H → va_P (dC, dI) cls2 (wM cI h1 rw pt ou r.2.2.1 mR r.2.2.2.1 r.2.2.2.2.1 r.2.2.2.2.2.1 r.2.2.2.2.2.2.1) H → va_P (dC, dI) cls2 (wO cL oa r.2.2.2.2.2.2.2) H → va_S (fun q => s.heap.size ≤ q) s.heap H locs → lv_has ls 7 [(0, .ref (b)), (1, .ref (h0)), (2, .ref (h1)), (3, .ref (oa)), (4, .int (i))] → W p l e room_1 s m #[Value.ref b] below meth c H locs (cells + 1) (slots + 6) (lw_Z below #[Value.ref b] s) (F0 m 776 ls []))
    (H : Heap) (locs : List Loc) (ls : Array Slot) (hPc : va_P (dC, dI) cls2 (wC cA h0 o w_f w_n) H) (hPm : va_P (dC, dI) cls2 (wM cI h1 rw pt ou w_th mR w_pf w_of w_sz w_bg) H) (hPo : va_P (dC, dI) cls2 (wO cL oa w_g) H) (hS : va_S (fun q => s.heap.size ≤ q) s.heap H locs) (hl : lv_has ls 7 [(0, .ref (b)), (1, .ref (h0)), (2, .ref (h1)), (3, .ref (oa)), (4, .int (i))]) : W p l e room_1 s m #[Value.ref b] below meth c H locs cells slots (lw_Z below #[Value.ref b] s) (F0 m 208 ls []) := by
  obtain ⟨hx, hb, hr, hml, hown, hts, hX, hbl, hlocks, hgv⟩ := C0
  have hown : s.vm.findClass "CodeWordsLaw" = some m.cls := hown
  have ht : ∀ {w : Cond}, w ∈ aw → w.before #[Value.ref b] s = true := fun h => hts _ (aw_tbl h)
  have hbA : ¬ (fun q : Nat => s.heap.size ≤ q) b := Nat.not_le.mpr hbl
  rw [f_L_c1] at hf
  refine lv_aload_n hx hb d_L_law_208 rfl (lv_at hl 1 rfl) ?_
  refine lv_aload_n hx hb d_L_law_209 rfl (lv_at hl 0 rfl) ?_
  refine lv_iload hx hb d_L_law_210 (lv_at hl 4 rfl) ?_
  refine lv_iconst (v := 1) hx hb d_L_law_212 (by decide) ?_
  refine lv_iadd hx hb d_L_law_213 ?_
  obtain ⟨z_1, hf⟩ := ju_gd hf
  refine va_sld hx hb hX hbl hbA hS z_1 d_L_law_214 ?_
  obtain ⟨r_2, g_3, hf⟩ := Option.bind_eq_some_iff.mp hf
  refine ju_calli (W.runV (As := [.int (xs (i + 1).toNatClampNeg)]) (rest := []) ⟨hx, hb, hml, hown, hts⟩ (c_C_kind l (ad := ad) (sk := sk) (sv := sv) (tK := tK) h0 (xs (i + 1).toNatClampNeg) r_2 g_3) (cwV 1 hts (aw_VL aw_31 aw_32 aw_33 aw_1 aw_34) rfl rfl rfl (by decide +kernel) ⟨Nat.le_of_ble_eq_true rfl, Nat.le_of_ble_eq_true rfl⟩) ⟨fun a U g mk q => ⟨q.1, q.2.call⟩, va_recv (hK.sub (tys' := [(cA, .char)]) [0] rfl) hPc (ci := 0) (q0 := 0) rfl rfl, fun U hU hW => ⟨rfl, hT.at hS hU hW (fun _ z => z.elim)⟩⟩ rfl rfl hl.1 rfl (lv_room (Nat.le_of_ble_eq_true rfl)) d_L_law_215 ⟨(by have := hcs.1; show _ ≤ 1038; omega), (by have := hcs.2; show _ ≤ 10775; omega)⟩) ?_
  refine lv_aload_n hx hb d_L_law_218 rfl (lv_at hl 2 rfl) ?_
  refine lv_aload_n hx hb d_L_law_219 rfl (lv_at hl 0 rfl) ?_
  refine lv_iload hx hb d_L_law_220 (lv_at hl 4 rfl) ?_
  refine lv_iconst (v := 1) hx hb d_L_law_222 (by decide) ?_
  refine lv_iadd hx hb d_L_law_223 ?_
  obtain ⟨z_4, hf⟩ := ju_gd hf
  refine va_sld hx hb hX hbl hbA hS z_4 d_L_law_224 ?_
  obtain ⟨r_5, g_6, hf⟩ := Option.bind_eq_some_iff.mp hf
  refine va_calli (va_runV (As := [.int (xs (i + 1).toNatClampNeg)]) (rest := [.int (r_2)]) ⟨hx, hb, hml, hown, hts⟩ (c_M_kind l (ad := ad) (sk := sk) (sv := sv) (tK := tK) dC dI cI h1 rw pt ou w_th w_pf w_of w_sz w_bg (xs (i + 1).toNatClampNeg) r_5 g_6) (cwV 1 hts (aw_VL aw_520 aw_521 aw_522 aw_2 aw_523) rfl rfl rfl (by decide +kernel) ⟨Nat.le_of_ble_eq_true rfl, Nat.le_of_ble_eq_true rfl⟩) ⟨wBlind, va_recv (hK.sub (tys' := [(cI, .int)]) [1] rfl) hPm (ci := 1) (q0 := 0) rfl rfl, fun U hU hW => ⟨rfl, by rw [hU]; exact hPm, va_K.moved hW.alike (hK.sub [1] rfl), dD hd.2.1 rfl, hT.at hS hU hW hd.2.2.2.2.1⟩⟩ rfl rfl hl.1 rfl (lv_room (Nat.le_of_ble_eq_true rfl)) d_L_law_225 ⟨(by have := hcs.1; show _ ≤ 1038; omega), (by have := hcs.2; show _ ≤ 10775; omega)⟩) hS (fun q _ z => hd.2.2.2.2.1 q z) hd.2.2.2.2.1 (fun v1 u t H1 locs1 ht1 hvm hw hB hz1 hk1 hS1 => ?_)
  obtain ⟨hw1, hw2⟩ := hw
  rw [hw1]
  rw [hw2] at hB
  rw [ht1] at hB
  have hPm' : va_P (dC, dI) cls2 (wM cI h1 rw pt ou r_5.2.1 mR r_5.2.2.1 r_5.2.2.2.1 r_5.2.2.2.2.1 r_5.2.2.2.2.2) H1 := hB
  have hPc' := lk hPc hk1 (fun k q hq _ z => hd.2.2.2.2.2.2.1 _ z ((dD (ws' := (wC cA h0 o w_f w_n)) hd.1 rfl).2 k q hq))
  have hPo' := lk hPo hk1 (fun k q hq _ z => hd.2.2.2.2.2.2.2.2 (by rw [← show q.1 = oa from (dD (ws' := (wO cL oa w_g)) hd.2.2.1 rfl).2 k q hq]; exact z))
  replace hPc := hPc'
  replace hPm := hPm'
  replace hPo := hPo'
  replace hS := hS1
  clear hPc' hPm' hPo' hS1 hB hk1 hz1
  generalize H1 = H at hPo hPc hPm hS ⊢
  generalize locs1 = locs at hS ⊢
  refine lv_icmp_eq (tgt := 776) hx hb d_L_law_228 (by decide) (fun c_7 => ?_) (fun c_7 => ?_)
  · replace hf := (if_pos c_7).symm.trans hf
    obtain rfl := Option.some.inj hf
    refine W.widen (k := cells + 1) (n := slots + 6) (by omega) (by omega) ?_
    exact kk _ _ _ hPc hPm hPo hS (lv_sub hl [0, 1, 2, 3, 4] rfl)
  · replace hf := (if_neg c_7).symm.trans hf
    cases hf

def f_L_c2 (xs : Nat → Int32) (L : Nat) (i : Int32) (w_f : Nat → Int32) (w_n : Int32) (w_th : Int32) (w_pf : Nat → Int32) (w_of : Nat → Int32) (w_sz : Int32) (w_bg : Int32) (w_g : Nat → Int64) : Option ((Nat → Int32) × Int32 × Int32 × (Nat → Int32) × (Nat → Int32) × Int32 × Int32 × (Nat → Int64)) :=
  if (i + 1) < 0 ∨ L ≤ (i + 1).toNatClampNeg then none else (f_C_size (xs (i + 1).toNatClampNeg)).bind fun r_2 => if (i + 1) < 0 ∨ L ≤ (i + 1).toNatClampNeg then none else (f_M_size w_th w_pf w_of w_sz w_bg (xs (i + 1).toNatClampNeg)).bind fun r_5 => if r_2 = r_5.1 then (some (w_f, w_n, r_5.2.1, r_5.2.2.1, r_5.2.2.2.1, r_5.2.2.2.2.1, r_5.2.2.2.2.2, w_g)) else (none)
set_option maxHeartbeats 1000000 in
set_option maxRecDepth 100000 in
theorem lc_2 {p : Program} {l : Launch} {e : Env} {s : State} {m : MethodId} {below : List Frame} {meth : Method} {c : Code} {b L : Nat} {xs : Nat → Int32} (hfl : l.stackTraces = false) (C0 : lw_At p s m meth c b L xs) {ad sk sv : Nat → Nat} {tK : Nat} (dC : Nat → ClassId) (dI : Nat → Nat → Nat) {cA cI cL : ClassId} {h0 o h1 rw pt ou oa : Nat} (hT : tb ad sk sv tK (fun q => s.heap.size ≤ q) s s.heap) (hXb : xb (fun q => s.heap.size ≤ q) s s.heap) (hN : xN s) (hK : va_K (dC, dI) cls2 [(cA, .char), (cI, .int), (cL, .long)] s) (hd : lA s cA cI cL h0 o h1 rw pt ou oa) {cells slots : Nat} (hcs : cells + 1 ≤ 1038 ∧ slots + 6 ≤ 10775) (i : Int32) (w_f : Nat → Int32) (w_n : Int32) (w_th : Int32) (w_pf : Nat → Int32) (w_of : Nat → Int32) (w_sz : Int32) (w_bg : Int32) (w_g : Nat → Int64) (r : (Nat → Int32) × Int32 × Int32 × (Nat → Int32) × (Nat → Int32) × Int32 × Int32 × (Nat → Int64)) (hf : f_L_c2 xs L i w_f w_n w_th w_pf w_of w_sz w_bg w_g = some r)
    (kk : ∀ (H : Heap) (locs : List Loc) (ls : Array Slot), va_P (dC, dI) cls2 (wC cA h0 o r.1 r.2.1) H → va_P (dC, dI) cls2 (wM cI h1 rw pt ou r.2.2.1 mR r.2.2.2.1 r.2.2.2.2.1 r.2.2.2.2.2.1 r.2.2.2.2.2.2.1) H → va_P (dC, dI) cls2 (wO cL oa r.2.2.2.2.2.2.2) H → va_S (fun q => s.heap.size ≤ q) s.heap H locs → lv_has ls 7 [(0, .ref (b)), (1, .ref (h0)), (2, .ref (h1)), (3, .ref (oa)), (4, .int (i))] → W p l e room_1 s m #[Value.ref b] below meth c H locs (cells + 1) (slots + 6) (lw_Z below #[Value.ref b] s) (F0 m 776 ls []))
    (H : Heap) (locs : List Loc) (ls : Array Slot) (hPc : va_P (dC, dI) cls2 (wC cA h0 o w_f w_n) H) (hPm : va_P (dC, dI) cls2 (wM cI h1 rw pt ou w_th mR w_pf w_of w_sz w_bg) H) (hPo : va_P (dC, dI) cls2 (wO cL oa w_g) H) (hS : va_S (fun q => s.heap.size ≤ q) s.heap H locs) (hl : lv_has ls 7 [(0, .ref (b)), (1, .ref (h0)), (2, .ref (h1)), (3, .ref (oa)), (4, .int (i))]) : W p l e room_1 s m #[Value.ref b] below meth c H locs cells slots (lw_Z below #[Value.ref b] s) (F0 m 233 ls []) := by
  obtain ⟨hx, hb, hr, hml, hown, hts, hX, hbl, hlocks, hgv⟩ := C0
  have hown : s.vm.findClass "CodeWordsLaw" = some m.cls := hown
  have ht : ∀ {w : Cond}, w ∈ aw → w.before #[Value.ref b] s = true := fun h => hts _ (aw_tbl h)
  have hbA : ¬ (fun q : Nat => s.heap.size ≤ q) b := Nat.not_le.mpr hbl
  rw [f_L_c2] at hf
  refine lv_aload_n hx hb d_L_law_233 rfl (lv_at hl 1 rfl) ?_
  refine lv_aload_n hx hb d_L_law_234 rfl (lv_at hl 0 rfl) ?_
  refine lv_iload hx hb d_L_law_235 (lv_at hl 4 rfl) ?_
  refine lv_iconst (v := 1) hx hb d_L_law_237 (by decide) ?_
  refine lv_iadd hx hb d_L_law_238 ?_
  obtain ⟨z_1, hf⟩ := ju_gd hf
  refine va_sld hx hb hX hbl hbA hS z_1 d_L_law_239 ?_
  obtain ⟨r_2, g_3, hf⟩ := Option.bind_eq_some_iff.mp hf
  refine ju_calli (W.runV (As := [.int (xs (i + 1).toNatClampNeg)]) (rest := []) ⟨hx, hb, hml, hown, hts⟩ (c_C_size l (ad := ad) (sk := sk) (sv := sv) (tK := tK) h0 (xs (i + 1).toNatClampNeg) r_2 g_3) (cwV 1 hts (aw_VL aw_136 aw_137 aw_138 aw_1 aw_139) rfl rfl rfl (by decide +kernel) ⟨Nat.le_of_ble_eq_true rfl, Nat.le_of_ble_eq_true rfl⟩) ⟨fun a U g mk q => ⟨q.1, q.2.call⟩, va_recv (hK.sub (tys' := [(cA, .char)]) [0] rfl) hPc (ci := 0) (q0 := 0) rfl rfl, fun U hU hW => ⟨rfl, hT.at hS hU hW (fun _ z => z.elim)⟩⟩ rfl rfl hl.1 rfl (lv_room (Nat.le_of_ble_eq_true rfl)) d_L_law_240 ⟨(by have := hcs.1; show _ ≤ 1038; omega), (by have := hcs.2; show _ ≤ 10775; omega)⟩) ?_
  refine lv_aload_n hx hb d_L_law_243 rfl (lv_at hl 2 rfl) ?_
  refine lv_aload_n hx hb d_L_law_244 rfl (lv_at hl 0 rfl) ?_
  refine lv_iload hx hb d_L_law_245 (lv_at hl 4 rfl) ?_
  refine lv_iconst (v := 1) hx hb d_L_law_247 (by decide) ?_
  refine lv_iadd hx hb d_L_law_248 ?_
  obtain ⟨z_4, hf⟩ := ju_gd hf
  refine va_sld hx hb hX hbl hbA hS z_4 d_L_law_249 ?_
  obtain ⟨r_5, g_6, hf⟩ := Option.bind_eq_some_iff.mp hf
  refine va_calli (va_runV (As := [.int (xs (i + 1).toNatClampNeg)]) (rest := [.int (r_2)]) ⟨hx, hb, hml, hown, hts⟩ (c_M_size l (ad := ad) (sk := sk) (sv := sv) (tK := tK) dC dI cI h1 rw pt ou w_th w_pf w_of w_sz w_bg (xs (i + 1).toNatClampNeg) r_5 g_6) (cwV 1 hts (aw_VL aw_539 aw_540 aw_541 aw_2 aw_542) rfl rfl rfl (by decide +kernel) ⟨Nat.le_of_ble_eq_true rfl, Nat.le_of_ble_eq_true rfl⟩) ⟨wBlind, va_recv (hK.sub (tys' := [(cI, .int)]) [1] rfl) hPm (ci := 1) (q0 := 0) rfl rfl, fun U hU hW => ⟨rfl, by rw [hU]; exact hPm, va_K.moved hW.alike (hK.sub [1] rfl), dD hd.2.1 rfl, hT.at hS hU hW hd.2.2.2.2.1⟩⟩ rfl rfl hl.1 rfl (lv_room (Nat.le_of_ble_eq_true rfl)) d_L_law_250 ⟨(by have := hcs.1; show _ ≤ 1038; omega), (by have := hcs.2; show _ ≤ 10775; omega)⟩) hS (fun q _ z => hd.2.2.2.2.1 q z) hd.2.2.2.2.1 (fun v1 u t H1 locs1 ht1 hvm hw hB hz1 hk1 hS1 => ?_)
  obtain ⟨hw1, hw2⟩ := hw
  rw [hw1]
  rw [hw2] at hB
  rw [ht1] at hB
  have hPm' : va_P (dC, dI) cls2 (wM cI h1 rw pt ou r_5.2.1 mR r_5.2.2.1 r_5.2.2.2.1 r_5.2.2.2.2.1 r_5.2.2.2.2.2) H1 := hB
  have hPc' := lk hPc hk1 (fun k q hq _ z => hd.2.2.2.2.2.2.1 _ z ((dD (ws' := (wC cA h0 o w_f w_n)) hd.1 rfl).2 k q hq))
  have hPo' := lk hPo hk1 (fun k q hq _ z => hd.2.2.2.2.2.2.2.2 (by rw [← show q.1 = oa from (dD (ws' := (wO cL oa w_g)) hd.2.2.1 rfl).2 k q hq]; exact z))
  replace hPc := hPc'
  replace hPm := hPm'
  replace hPo := hPo'
  replace hS := hS1
  clear hPc' hPm' hPo' hS1 hB hk1 hz1
  generalize H1 = H at hPo hPc hPm hS ⊢
  generalize locs1 = locs at hS ⊢
  refine lv_icmp_eq (tgt := 776) hx hb d_L_law_253 (by decide) (fun c_7 => ?_) (fun c_7 => ?_)
  · replace hf := (if_pos c_7).symm.trans hf
    obtain rfl := Option.some.inj hf
    refine W.widen (k := cells + 1) (n := slots + 6) (by omega) (by omega) ?_
    exact kk _ _ _ hPc hPm hPo hS (lv_sub hl [0, 1, 2, 3, 4] rfl)
  · replace hf := (if_neg c_7).symm.trans hf
    cases hf
