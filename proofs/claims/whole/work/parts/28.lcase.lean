def f_L_c0 (xs : Nat → Int32) (L : Nat) (i : Int32) (w_f : Nat → Int32) (w_n : Int32) (w_th : Int32) (w_pf : Nat → Int32) (w_of : Nat → Int32) (w_sz : Int32) (w_bg : Int32) (w_g : Nat → Int64) : Option ((Nat → Int32) × Int32 × Int32 × (Nat → Int32) × (Nat → Int32) × Int32 × Int32 × (Nat → Int64)) :=
  if (i + 1) < 0 ∨ L ≤ (i + 1).toNatClampNeg then none else if (i + 2) < 0 ∨ L ≤ (i + 2).toNatClampNeg then none else if (i + 3) < 0 ∨ L ≤ (i + 3).toNatClampNeg then none else if (i + 4) < 0 ∨ L ≤ (i + 4).toNatClampNeg then none else if (i + 5) < 0 ∨ L ≤ (i + 5).toNatClampNeg then none else (f_L_word w_g (xs (i + 1).toNatClampNeg) (xs (i + 2).toNatClampNeg) (xs (i + 3).toNatClampNeg) (xs (i + 4).toNatClampNeg) (xs (i + 5).toNatClampNeg)).bind fun r_6 => if (i + 1) < 0 ∨ L ≤ (i + 1).toNatClampNeg then none else if (i + 2) < 0 ∨ L ≤ (i + 2).toNatClampNeg then none else if (i + 3) < 0 ∨ L ≤ (i + 3).toNatClampNeg then none else if (i + 4) < 0 ∨ L ≤ (i + 4).toNatClampNeg then none else if (i + 5) < 0 ∨ L ≤ (i + 5).toNatClampNeg then none else (f_M_word w_th w_pf w_of w_sz w_bg (xs (i + 1).toNatClampNeg) (xs (i + 2).toNatClampNeg) (xs (i + 3).toNatClampNeg) (xs (i + 4).toNatClampNeg) (xs (i + 5).toNatClampNeg)).bind fun r_13 => (f_M_thrown r_13.2.1 r_13.2.2.1 r_13.2.2.2.1 r_13.2.2.2.2.1 r_13.2.2.2.2.2 ).bind fun r_15 => if r_15 = r_6.1 then (if r_6.1 = 0 then (if (0 : Int32) < 0 ∨ 1 ≤ (0 : Int32).toNatClampNeg then none else if (lg_cmp (r_6.2 (0 : Int32).toNatClampNeg) r_13.1.toInt64) = 0 then (some (w_f, w_n, r_13.2.1, r_13.2.2.1, r_13.2.2.2.1, r_13.2.2.2.2.1, r_13.2.2.2.2.2, r_6.2)) else (none)) else (some (w_f, w_n, r_13.2.1, r_13.2.2.1, r_13.2.2.2.1, r_13.2.2.2.2.1, r_13.2.2.2.2.2, r_6.2))) else (none)
set_option maxHeartbeats 1000000 in
set_option maxRecDepth 100000 in
theorem lc_0 {p : Program} {l : Launch} {e : Env} {s : State} {m : MethodId} {below : List Frame} {meth : Method} {c : Code} {b L : Nat} {xs : Nat → Int32} (hfl : l.stackTraces = false) (C0 : lw_At p s m meth c b L xs) {ad sk sv : Nat → Nat} {tK : Nat} (dC : Nat → ClassId) (dI : Nat → Nat → Nat) {cA cI cL : ClassId} {h0 o h1 rw pt ou oa : Nat} (hT : tb ad sk sv tK (fun q => s.heap.size ≤ q) s s.heap) (hXb : xb (fun q => s.heap.size ≤ q) s s.heap) (hN : xN s) (hK : va_K (dC, dI) cls2 [(cA, .char), (cI, .int), (cL, .long)] s) (hd : lA s cA cI cL h0 o h1 rw pt ou oa) {cells slots : Nat} (hcs : cells + 1 ≤ 1038 ∧ slots + 6 ≤ 10775) (i : Int32) (w_f : Nat → Int32) (w_n : Int32) (w_th : Int32) (w_pf : Nat → Int32) (w_of : Nat → Int32) (w_sz : Int32) (w_bg : Int32) (w_g : Nat → Int64) (r : (Nat → Int32) × Int32 × Int32 × (Nat → Int32) × (Nat → Int32) × Int32 × Int32 × (Nat → Int64)) (hf : f_L_c0 xs L i w_f w_n w_th w_pf w_of w_sz w_bg w_g = some r)
    (kk : ∀ (H : Heap) (locs : List Loc) (ls : Array Slot), va_P (dC, dI) cls2 (wC cA h0 o r.1 r.2.1) H → va_P (dC, dI) cls2 (wM cI h1 rw pt ou r.2.2.1 mR r.2.2.2.1 r.2.2.2.2.1 r.2.2.2.2.2.1 r.2.2.2.2.2.2.1) H → va_P (dC, dI) cls2 (wO cL oa r.2.2.2.2.2.2.2) H → va_S (fun q => s.heap.size ≤ q) s.heap H locs → lv_has ls 7 [(0, .ref (b)), (1, .ref (h0)), (2, .ref (h1)), (3, .ref (oa)), (4, .int (i))] → W p l e room_1 s m #[Value.ref b] below meth c H locs (cells + 1) (slots + 6) (lw_Z below #[Value.ref b] s) (F0 m 776 ls []))
    (H : Heap) (locs : List Loc) (ls : Array Slot) (hPc : va_P (dC, dI) cls2 (wC cA h0 o w_f w_n) H) (hPm : va_P (dC, dI) cls2 (wM cI h1 rw pt ou w_th mR w_pf w_of w_sz w_bg) H) (hPo : va_P (dC, dI) cls2 (wO cL oa w_g) H) (hS : va_S (fun q => s.heap.size ≤ q) s.heap H locs) (hl : lv_has ls 7 [(0, .ref (b)), (1, .ref (h0)), (2, .ref (h1)), (3, .ref (oa)), (4, .int (i))]) : W p l e room_1 s m #[Value.ref b] below meth c H locs cells slots (lw_Z below #[Value.ref b] s) (F0 m 104 ls []) := by
  obtain ⟨hx, hb, hr, hml, hown, hts, hX, hbl, hlocks, hgv⟩ := C0
  have hown : s.vm.findClass "CodeWordsLaw" = some m.cls := hown
  have ht : ∀ {w : Cond}, w ∈ aw → w.before #[Value.ref b] s = true := fun h => hts _ (aw_tbl h)
  have hbA : ¬ (fun q : Nat => s.heap.size ≤ q) b := Nat.not_le.mpr hbl
  rw [f_L_c0] at hf
  refine lv_aload_n hx hb d_L_law_104 rfl (lv_at hl 1 rfl) ?_
  refine lv_aload_n hx hb d_L_law_105 rfl (lv_at hl 0 rfl) ?_
  refine lv_iload hx hb d_L_law_106 (lv_at hl 4 rfl) ?_
  refine lv_iconst (v := 1) hx hb d_L_law_108 (by decide) ?_
  refine lv_iadd hx hb d_L_law_109 ?_
  obtain ⟨z_1, hf⟩ := ju_gd hf
  refine va_sld hx hb hX hbl hbA hS z_1 d_L_law_110 ?_
  refine lv_aload_n hx hb d_L_law_111 rfl (lv_at hl 0 rfl) ?_
  refine lv_iload hx hb d_L_law_112 (lv_at hl 4 rfl) ?_
  refine lv_iconst (v := 2) hx hb d_L_law_114 (by decide) ?_
  refine lv_iadd hx hb d_L_law_115 ?_
  obtain ⟨z_2, hf⟩ := ju_gd hf
  refine va_sld hx hb hX hbl hbA hS z_2 d_L_law_116 ?_
  refine lv_aload_n hx hb d_L_law_117 rfl (lv_at hl 0 rfl) ?_
  refine lv_iload hx hb d_L_law_118 (lv_at hl 4 rfl) ?_
  refine lv_iconst (v := 3) hx hb d_L_law_120 (by decide) ?_
  refine lv_iadd hx hb d_L_law_121 ?_
  obtain ⟨z_3, hf⟩ := ju_gd hf
  refine va_sld hx hb hX hbl hbA hS z_3 d_L_law_122 ?_
  refine lv_aload_n hx hb d_L_law_123 rfl (lv_at hl 0 rfl) ?_
  refine lv_iload hx hb d_L_law_124 (lv_at hl 4 rfl) ?_
  refine lv_iconst (v := 4) hx hb d_L_law_126 (by decide) ?_
  refine lv_iadd hx hb d_L_law_127 ?_
  obtain ⟨z_4, hf⟩ := ju_gd hf
  refine va_sld hx hb hX hbl hbA hS z_4 d_L_law_128 ?_
  refine lv_aload_n hx hb d_L_law_129 rfl (lv_at hl 0 rfl) ?_
  refine lv_iload hx hb d_L_law_130 (lv_at hl 4 rfl) ?_
  refine lv_iconst (v := 5) hx hb d_L_law_132 (by decide) ?_
  refine lv_iadd hx hb d_L_law_133 ?_
  obtain ⟨z_5, hf⟩ := ju_gd hf
  refine va_sld hx hb hX hbl hbA hS z_5 d_L_law_134 ?_
  refine lv_aload_n hx hb d_L_law_135 rfl (lv_at hl 3 rfl) ?_
  obtain ⟨r_6, g_7, hf⟩ := Option.bind_eq_some_iff.mp hf
  refine va_calli (xl_runS (As := [.ref (h0), .int (xs (i + 1).toNatClampNeg), .int (xs (i + 2).toNatClampNeg), .int (xs (i + 3).toNatClampNeg), .int (xs (i + 4).toNatClampNeg), .int (xs (i + 5).toNatClampNeg), .ref (oa)]) (rest := []) (n := 7) (hh := [(0, 16, 19, 13), (0, 16, 23, 15)]) ⟨hx, hb, hml, hown, hts⟩ (c_L_word l hfl (ad := ad) (sk := sk) (sv := sv) (tK := tK) dC dI cL h0 oa H.size w_g (fun q => q = oa ∨ H.size ≤ q) (xs (i + 1).toNatClampNeg) (xs (i + 2).toNatClampNeg) (xs (i + 3).toNatClampNeg) (xs (i + 4).toNatClampNeg) (xs (i + 5).toNatClampNeg) r_6 g_7) rfl rfl ⟨Nat.le_of_ble_eq_true rfl, Nat.le_of_ble_eq_true rfl⟩ (aw_CL aw_254 hts) List.mem_cons_self (ht aw_254) (ht aw_0) (by decide) (fun sig h => ju_len h (by decide +kernel)) (ht aw_252) (ht aw_253) ⟨xPc_blind, fun U hU hW => ⟨rfl, by rw [hU], by rw [hU]; exact hPo, va_K.moved hW.alike (hK.sub [2] rfl), dD (ws := wO cL oa (fun _ => 0)) ⟨hd.2.2.1.1, fun k q hq => Or.inl (hd.2.2.1.2 k q hq)⟩ rfl, fun q z => Or.inr z, (by rw [hU]; obtain ⟨cl9, h91, h92, h93⟩ := va_recv (hK.sub (tys' := [(cA, .char)]) [0] rfl) hPc (ci := 0) (q0 := 0) rfl rfl; exact ⟨cl9, h91, h92, by rw [hW.alike.findClass]; exact h93⟩), hT.at hS hU hW (fun q z => z.elim (fun z => by rw [z]; exact hd.2.2.2.2.2.1) (fun z => Nat.le_trans hS.1 z)), hXb.at hS hU hW (fun q z => z.elim (fun z => by rw [z]; exact hd.2.2.2.2.2.1) (fun z => Nat.le_trans hS.1 z)), va_Nw.warmC hW hN.1, va_Nw.warmC hW hN.2.1, va_Nw.warmC hW hN.2.2.1, va_Nc.moved hW.alike hN.2.2.2⟩⟩ rfl rfl hl.1 rfl (lv_room (Nat.le_of_ble_eq_true rfl)) d_L_law_136 ⟨(by have := hcs.1; show _ ≤ 1038; omega), (by have := hcs.2; show _ ≤ 10775; omega)⟩) hS (fun q _ z => z.elim (fun z => by rw [z]; exact hd.2.2.2.2.2.1) (fun z => Nat.le_trans hS.1 z)) (fun q z => z.elim (fun z => by rw [z]; exact hd.2.2.2.2.2.1) (fun z => Nat.le_trans hS.1 z)) (fun v1 u t H1 locs1 ht1 hvm hw hB hz1 hk1 hS1 => ?_)
  obtain ⟨hw1, hw2⟩ := hw
  rw [hw1]
  rw [hw2] at hB
  rw [ht1] at hB
  have hPo : va_P (dC, dI) cls2 (wO cL oa r_6.2) H1 := hB
  have hPc := lk hPc hk1 (fun k q hq hlt z => z.elim (fun z => hd.2.2.2.2.2.2.2.1 (by rw [← z]; exact (dD (ws' := (wC cA h0 o w_f w_n)) hd.1 rfl).2 k q hq)) (fun z => Nat.not_lt.mpr z hlt))
  have hPm := lk hPm hk1 (fun k q hq hlt z => z.elim (fun z => hd.2.2.2.2.2.2.2.2 (by rw [← z]; exact (dD (ws' := (wM cI h1 rw pt ou w_th mR w_pf w_of w_sz w_bg)) hd.2.1 rfl).2 k q hq)) (fun z => Nat.not_lt.mpr z hlt))
  have hS := hS1
  clear hS1
  generalize H1 = H at hPo hPc hPm hS ⊢
  generalize locs1 = locs at hS ⊢
  refine lv_istore (lv' := [(5, .int (r_6.1)), (0, .ref (b)), (1, .ref (h0)), (2, .ref (h1)), (3, .ref (oa)), (4, .int (i))]) hx hb d_L_law_139 hl (by decide) rfl (fun ls hl => ?_)
  refine lv_aload_n hx hb d_L_law_141 rfl (lv_at hl 3 rfl) ?_
  refine lv_aload_n hx hb d_L_law_142 rfl (lv_at hl 1 rfl) ?_
  refine lv_iload hx hb d_L_law_143 (lv_at hl 5 rfl) ?_
  refine lv_iconst (v := 1) hx hb d_L_law_145 (by decide) ?_
  refine lv_iadd hx hb d_L_law_146 ?_
  obtain ⟨z_8, hf⟩ := ju_gd hf
  refine va_sld hx hb hX hbl hbA hS z_8 d_L_law_147 ?_
  refine lv_aload_n hx hb d_L_law_148 rfl (lv_at hl 1 rfl) ?_
  refine lv_iload hx hb d_L_law_149 (lv_at hl 5 rfl) ?_
  refine lv_iconst (v := 2) hx hb d_L_law_151 (by decide) ?_
  refine lv_iadd hx hb d_L_law_152 ?_
  obtain ⟨z_9, hf⟩ := ju_gd hf
  refine va_sld hx hb hX hbl hbA hS z_9 d_L_law_153 ?_
  refine lv_aload_n hx hb d_L_law_154 rfl (lv_at hl 1 rfl) ?_
  refine lv_iload hx hb d_L_law_155 (lv_at hl 5 rfl) ?_
  refine lv_iconst (v := 3) hx hb d_L_law_157 (by decide) ?_
  refine lv_iadd hx hb d_L_law_158 ?_
  obtain ⟨z_10, hf⟩ := ju_gd hf
  refine va_sld hx hb hX hbl hbA hS z_10 d_L_law_159 ?_
  refine lv_aload_n hx hb d_L_law_160 rfl (lv_at hl 1 rfl) ?_
  refine lv_iload hx hb d_L_law_161 (lv_at hl 5 rfl) ?_
  refine lv_iconst (v := 4) hx hb d_L_law_163 (by decide) ?_
  refine lv_iadd hx hb d_L_law_164 ?_
  obtain ⟨z_11, hf⟩ := ju_gd hf
  refine va_sld hx hb hX hbl hbA hS z_11 d_L_law_165 ?_
  refine lv_aload_n hx hb d_L_law_166 rfl (lv_at hl 1 rfl) ?_
  refine lv_iload hx hb d_L_law_167 (lv_at hl 5 rfl) ?_
  refine lv_iconst (v := 5) hx hb d_L_law_169 (by decide) ?_
  refine lv_iadd hx hb d_L_law_170 ?_
  obtain ⟨z_12, hf⟩ := ju_gd hf
  refine va_sld hx hb hX hbl hbA hS z_12 d_L_law_171 ?_
  obtain ⟨r_13, g_14, hf⟩ := Option.bind_eq_some_iff.mp hf
  refine va_calli (va_runV (As := [.int (xs (i + 1).toNatClampNeg), .int (xs (i + 2).toNatClampNeg), .int (xs (i + 3).toNatClampNeg), .int (xs (i + 4).toNatClampNeg), .int (xs (i + 5).toNatClampNeg)]) (rest := []) ⟨hx, hb, hml, hown, hts⟩ (c_M_word l (ad := ad) (sk := sk) (sv := sv) (tK := tK) dC dI cI h1 rw pt ou w_th w_pf w_of w_sz w_bg (xs (i + 1).toNatClampNeg) (xs (i + 2).toNatClampNeg) (xs (i + 3).toNatClampNeg) (xs (i + 4).toNatClampNeg) (xs (i + 5).toNatClampNeg) r_13 g_14) (cwV 5 hts (aw_VL aw_463 aw_464 aw_465 aw_2 aw_466) rfl rfl rfl (by decide +kernel) ⟨Nat.le_of_ble_eq_true rfl, Nat.le_of_ble_eq_true rfl⟩) ⟨wBlind, va_recv (hK.sub (tys' := [(cI, .int)]) [1] rfl) hPm (ci := 1) (q0 := 0) rfl rfl, fun U hU hW => ⟨rfl, by rw [hU]; exact hPm, va_K.moved hW.alike (hK.sub [1] rfl), dD hd.2.1 rfl, hT.at hS hU hW hd.2.2.2.2.1⟩⟩ rfl rfl hl.1 rfl (lv_room (Nat.le_of_ble_eq_true rfl)) d_L_law_172 ⟨(by have := hcs.1; show _ ≤ 1038; omega), (by have := hcs.2; show _ ≤ 10775; omega)⟩) hS (fun q _ z => hd.2.2.2.2.1 q z) hd.2.2.2.2.1 (fun v1 u t H1 locs1 ht1 hvm hw hB hz1 hk1 hS1 => ?_)
  obtain ⟨hw1, hw2⟩ := hw
  rw [hw1]
  rw [hw2] at hB
  rw [ht1] at hB
  have hPm' : va_P (dC, dI) cls2 (wM cI h1 rw pt ou r_13.2.1 mR r_13.2.2.1 r_13.2.2.2.1 r_13.2.2.2.2.1 r_13.2.2.2.2.2) H1 := hB
  have hPc' := lk hPc hk1 (fun k q hq _ z => hd.2.2.2.2.2.2.1 _ z ((dD (ws' := (wC cA h0 o w_f w_n)) hd.1 rfl).2 k q hq))
  have hPo' := lk hPo hk1 (fun k q hq _ z => hd.2.2.2.2.2.2.2.2 (by rw [← show q.1 = oa from (dD (ws' := (wO cL oa r_6.2)) hd.2.2.1 rfl).2 k q hq]; exact z))
  replace hPc := hPc'
  replace hPm := hPm'
  replace hPo := hPo'
  replace hS := hS1
  clear hPc' hPm' hPo' hS1 hB hk1 hz1
  generalize H1 = H at hPo hPc hPm hS ⊢
  generalize locs1 = locs at hS ⊢
  refine lv_istore (lv' := [(6, .int (r_13.1)), (5, .int (r_6.1)), (0, .ref (b)), (1, .ref (h0)), (2, .ref (h1)), (3, .ref (oa)), (4, .int (i))]) hx hb d_L_law_175 hl (by decide) rfl (fun ls hl => ?_)
  refine lv_aload_n hx hb d_L_law_177 rfl (lv_at hl 4 rfl) ?_
  obtain ⟨r_15, g_16, hf⟩ := Option.bind_eq_some_iff.mp hf
  refine ju_calli (W.runV (As := []) (rest := []) ⟨hx, hb, hml, hown, hts⟩ (c_M_thrown l (ad := ad) (sk := sk) (sv := sv) (tK := tK) dC dI cI h1 rw pt ou r_13.2.1 r_13.2.2.1 r_13.2.2.2.1 r_13.2.2.2.2.1 r_13.2.2.2.2.2  r_15 g_16) (cwV 0 hts (aw_VL aw_459 aw_460 aw_461 aw_2 aw_462) rfl rfl rfl (by decide +kernel) ⟨Nat.le_of_ble_eq_true rfl, Nat.le_of_ble_eq_true rfl⟩) ⟨wBlind, va_recv (hK.sub (tys' := [(cI, .int)]) [1] rfl) hPm (ci := 1) (q0 := 0) rfl rfl, fun U hU hW => ⟨rfl, by rw [hU]; exact hPm, va_K.moved hW.alike (hK.sub [1] rfl), dD hd.2.1 rfl, hT.at hS hU hW hd.2.2.2.2.1⟩⟩ rfl rfl hl.1 rfl (lv_room (Nat.le_of_ble_eq_true rfl)) d_L_law_178 ⟨(by have := hcs.1; show _ ≤ 1038; omega), (by have := hcs.2; show _ ≤ 10775; omega)⟩) ?_
  refine lv_iload hx hb d_L_law_181 (lv_at hl 1 rfl) ?_
  refine lv_icmp_eq (tgt := 188) hx hb d_L_law_183 (by decide) (fun c_17 => ?_) (fun c_17 => ?_)
  · replace hf := (if_pos c_17).symm.trans hf
    refine lv_iload hx hb d_L_law_188 (lv_at hl 1 rfl) ?_
    refine lv_if_ne (tgt := 205) hx hb d_L_law_190 (by decide) (fun c_18 => ?_) (fun c_18 => ?_)
    · replace hf := (if_neg c_18).symm.trans hf
      refine lv_goto (tgt := 776) hx hb d_L_law_205 (by decide) ?_
      obtain rfl := Option.some.inj hf
      refine W.widen (k := cells + 1) (n := slots + 6) (by omega) (by omega) ?_
      exact kk _ _ _ hPc hPm hPo hS (lv_sub hl [2, 3, 4, 5, 6] rfl)
    · replace hf := (if_pos c_18).symm.trans hf
      refine lv_aload_n hx hb d_L_law_193 rfl (lv_at hl 5 rfl) ?_
      refine lv_iconst (v := 0) hx hb d_L_law_194 (by decide) ?_
      obtain ⟨z_19, hf⟩ := ju_gd hf
      refine va_lald hx hb (hK.sub [2] rfl) hPo 0 0 rfl rfl z_19 d_L_law_195 ?_
      refine lv_iload hx hb d_L_law_196 (lv_at hl 0 rfl) ?_
      refine lv_i2l (v := r_13.1.toInt64) hx hb d_L_law_198 rfl ?_
      refine W.lcmp hx hb d_L_law_199 ?_
      refine lv_if_eq (tgt := 205) hx hb d_L_law_200 (by decide) (fun c_20 => ?_) (fun c_20 => ?_)
      · replace hf := (if_pos c_20).symm.trans hf
        refine lv_goto (tgt := 776) hx hb d_L_law_205 (by decide) ?_
        obtain rfl := Option.some.inj hf
        refine W.widen (k := cells + 1) (n := slots + 6) (by omega) (by omega) ?_
        exact kk _ _ _ hPc hPm hPo hS (lv_sub hl [2, 3, 4, 5, 6] rfl)
      · replace hf := (if_neg c_20).symm.trans hf
        cases hf
  · replace hf := (if_neg c_17).symm.trans hf
    cases hf

def f_L_c1 (xs : Nat → Int32) (L : Nat) (i : Int32) (w_f : Nat → Int32) (w_n : Int32) (w_th : Int32) (w_pf : Nat → Int32) (w_of : Nat → Int32) (w_sz : Int32) (w_bg : Int32) (w_g : Nat → Int64) : Option ((Nat → Int32) × Int32 × Int32 × (Nat → Int32) × (Nat → Int32) × Int32 × Int32 × (Nat → Int64)) :=
  if (i + 1) < 0 ∨ L ≤ (i + 1).toNatClampNeg then none else (f_C_kind (xs (i + 1).toNatClampNeg)).bind fun r_2 => if (i + 1) < 0 ∨ L ≤ (i + 1).toNatClampNeg then none else (f_M_kind w_th w_pf w_of w_sz w_bg (xs (i + 1).toNatClampNeg)).bind fun r_5 => if r_2 = r_5.1 then (some (w_f, w_n, r_5.2.1, r_5.2.2.1, r_5.2.2.2.1, r_5.2.2.2.2.1, r_5.2.2.2.2.2, w_g)) else (none)
set_option maxHeartbeats 1000000 in
set_option maxRecDepth 100000 in
theorem lc_1 {p : Program} {l : Launch} {e : Env} {s : State} {m : MethodId} {below : List Frame} {meth : Method} {c : Code} {b L : Nat} {xs : Nat → Int32} (hfl : l.stackTraces = false) (C0 : lw_At p s m meth c b L xs) {ad sk sv : Nat → Nat} {tK : Nat} (dC : Nat → ClassId) (dI : Nat → Nat → Nat) {cA cI cL : ClassId} {h0 o h1 rw pt ou oa : Nat} (hT : tb ad sk sv tK (fun q => s.heap.size ≤ q) s s.heap) (hXb : xb (fun q => s.heap.size ≤ q) s s.heap) (hN : xN s) (hK : va_K (dC, dI) cls2 [(cA, .char), (cI, .int), (cL, .long)] s) (hd : lA s cA cI cL h0 o h1 rw pt ou oa) {cells slots : Nat} (hcs : cells + 1 ≤ 1038 ∧ slots + 6 ≤ 10775) (i : Int32) (w_f : Nat → Int32) (w_n : Int32) (w_th : Int32) (w_pf : Nat → Int32) (w_of : Nat → Int32) (w_sz : Int32) (w_bg : Int32) (w_g : Nat → Int64) (r : (Nat → Int32) × Int32 × Int32 × (Nat → Int32) × (Nat → Int32) × Int32 × Int32 × (Nat → Int64)) (hf : f_L_c1 xs L i w_f w_n w_th w_pf w_of w_sz w_bg w_g = some r)
    (kk : ∀ (H : Heap) (locs : List Loc) (ls : Array Slot), va_P (dC, dI) cls2 (wC cA h0 o r.1 r.2.1) H → va_P (dC, dI) cls2 (wM cI h1 rw pt ou r.2.2.1 mR r.2.2.2.1 r.2.2.2.2.1 r.2.2.2.2.2.1 r.2.2.2.2.2.2.1) H → va_P (dC, dI) cls2 (wO cL oa r.2.2.2.2.2.2.2) H → va_S (fun q => s.heap.size ≤ q) s.heap H locs → lv_has ls 7 [(0, .ref (b)), (1, .ref (h0)), (2, .ref (h1)), (3, .ref (oa)), (4, .int (i))] → W p l e room_1 s m #[Value.ref b] below meth c H locs (cells + 1) (slots + 6) (lw_Z below #[Value.ref b] s) (F0 m 776 ls []))
    (H : Heap) (locs : List Loc) (ls : Array Slot) (hPc : va_P (dC, dI) cls2 (wC cA h0 o w_f w_n) H) (hPm : va_P (dC, dI) cls2 (wM cI h1 rw pt ou w_th mR w_pf w_of w_sz w_bg) H) (hPo : va_P (dC, dI) cls2 (wO cL oa w_g) H) (hS : va_S (fun q => s.heap.size ≤ q) s.heap H locs) (hl : lv_has ls 7 [(0, .ref (b)), (1, .ref (h0)), (2, .ref (h1)), (3, .ref (oa)), (4, .int (i))]) : W p l e room_1 s m #[Value.ref b] below meth c H locs cells slots (lw_Z below #[Value.ref b] s) (F0 m 208 ls []) := by
  obtain ⟨hx, hb, hr, hml, hown, hts, hX, hbl, hlocks, hgv⟩ := C0
  have hown : s.vm.findClass "CodeWordsLaw" = some m.cls := hown
  have ht : ∀ {w : Cond}, w ∈ aw → w.before #[Value.ref b] s = true := fun h => hts _ (aw_tbl h)
  have hbA : ¬ (fun q : Nat => s.heap.size ≤ q) b := Nat.not_le.mpr hbl
  rw [f_L_c1] at hf
  refine lv_aload_n hx hb d_L_law_208 rfl (lv_at hl 1 rfl) ?_
  refine lv_aload_n hx hb d_L_law_209 rfl (lv_at hl 0 rfl) ?_
  refine lv_iload hx hb d_L_law_210 (lv_at hl 4 rfl) ?_
  refine lv_iconst (v := 1) hx hb d_L_law_212 (by decide) ?_
  refine lv_iadd hx hb d_L_law_213 ?_
  obtain ⟨z_1, hf⟩ := ju_gd hf
  refine va_sld hx hb hX hbl hbA hS z_1 d_L_law_214 ?_
  obtain ⟨r_2, g_3, hf⟩ := Option.bind_eq_some_iff.mp hf
  refine ju_calli (W.runV (As := [.int (xs (i + 1).toNatClampNeg)]) (rest := []) ⟨hx, hb, hml, hown, hts⟩ (c_C_kind l (ad := ad) (sk := sk) (sv := sv) (tK := tK) h0 (xs (i + 1).toNatClampNeg) r_2 g_3) (cwV 1 hts (aw_VL aw_31 aw_32 aw_33 aw_1 aw_34) rfl rfl rfl (by decide +kernel) ⟨Nat.le_of_ble_eq_true rfl, Nat.le_of_ble_eq_true rfl⟩) ⟨fun a U g mk q => ⟨q.1, q.2.call⟩, va_recv (hK.sub (tys' := [(cA, .char)]) [0] rfl) hPc (ci := 0) (q0 := 0) rfl rfl, fun U hU hW => ⟨rfl, hT.at hS hU hW (fun _ z => z.elim)⟩⟩ rfl rfl hl.1 rfl (lv_room (Nat.le_of_ble_eq_true rfl)) d_L_law_215 ⟨(by have := hcs.1; show _ ≤ 1038; omega), (by have := hcs.2; show _ ≤ 10775; omega)⟩) ?_
  refine lv_aload_n hx hb d_L_law_218 rfl (lv_at hl 2 rfl) ?_
  refine lv_aload_n hx hb d_L_law_219 rfl (lv_at hl 0 rfl) ?_
  refine lv_iload hx hb d_L_law_220 (lv_at hl 4 rfl) ?_
  refine lv_iconst (v := 1) hx hb d_L_law_222 (by decide) ?_
  refine lv_iadd hx hb d_L_law_223 ?_
  obtain ⟨z_4, hf⟩ := ju_gd hf
  refine va_sld hx hb hX hbl hbA hS z_4 d_L_law_224 ?_
  obtain ⟨r_5, g_6, hf⟩ := Option.bind_eq_some_iff.mp hf
  refine va_calli (va_runV (As := [.int (xs (i + 1).toNatClampNeg)]) (rest := [.int (r_2)]) ⟨hx, hb, hml, hown, hts⟩ (c_M_kind l (ad := ad) (sk := sk) (sv := sv) (tK := tK) dC dI cI h1 rw pt ou w_th w_pf w_of w_sz w_bg (xs (i + 1).toNatClampNeg) r_5 g_6) (cwV 1 hts (aw_VL aw_520 aw_521 aw_522 aw_2 aw_523) rfl rfl rfl (by decide +kernel) ⟨Nat.le_of_ble_eq_true rfl, Nat.le_of_ble_eq_true rfl⟩) ⟨wBlind, va_recv (hK.sub (tys' := [(cI, .int)]) [1] rfl) hPm (ci := 1) (q0 := 0) rfl rfl, fun U hU hW => ⟨rfl, by rw [hU]; exact hPm, va_K.moved hW.alike (hK.sub [1] rfl), dD hd.2.1 rfl, hT.at hS hU hW hd.2.2.2.2.1⟩⟩ rfl rfl hl.1 rfl (lv_room (Nat.le_of_ble_eq_true rfl)) d_L_law_225 ⟨(by have := hcs.1; show _ ≤ 1038; omega), (by have := hcs.2; show _ ≤ 10775; omega)⟩) hS (fun q _ z => hd.2.2.2.2.1 q z) hd.2.2.2.2.1 (fun v1 u t H1 locs1 ht1 hvm hw hB hz1 hk1 hS1 => ?_)
  obtain ⟨hw1, hw2⟩ := hw
  rw [hw1]
  rw [hw2] at hB
  rw [ht1] at hB
  have hPm' : va_P (dC, dI) cls2 (wM cI h1 rw pt ou r_5.2.1 mR r_5.2.2.1 r_5.2.2.2.1 r_5.2.2.2.2.1 r_5.2.2.2.2.2) H1 := hB
  have hPc' := lk hPc hk1 (fun k q hq _ z => hd.2.2.2.2.2.2.1 _ z ((dD (ws' := (wC cA h0 o w_f w_n)) hd.1 rfl).2 k q hq))
  have hPo' := lk hPo hk1 (fun k q hq _ z => hd.2.2.2.2.2.2.2.2 (by rw [← show q.1 = oa from (dD (ws' := (wO cL oa w_g)) hd.2.2.1 rfl).2 k q hq]; exact z))
  replace hPc := hPc'
  replace hPm := hPm'
  replace hPo := hPo'
  replace hS := hS1
  clear hPc' hPm' hPo' hS1 hB hk1 hz1
  generalize H1 = H at hPo hPc hPm hS ⊢
  generalize locs1 = locs at hS ⊢
  refine lv_icmp_eq (tgt := 776) hx hb d_L_law_228 (by decide) (fun c_7 => ?_) (fun c_7 => ?_)
  · replace hf := (if_pos c_7).symm.trans hf
    obtain rfl := Option.some.inj hf
    refine W.widen (k := cells + 1) (n := slots + 6) (by omega) (by omega) ?_
    exact kk _ _ _ hPc hPm hPo hS (lv_sub hl [0, 1, 2, 3, 4] rfl)
  · replace hf := (if_neg c_7).symm.trans hf
    cases hf

def f_L_c2 (xs : Nat → Int32) (L : Nat) (i : Int32) (w_f : Nat → Int32) (w_n : Int32) (w_th : Int32) (w_pf : Nat → Int32) (w_of : Nat → Int32) (w_sz : Int32) (w_bg : Int32) (w_g : Nat → Int64) : Option ((Nat → Int32) × Int32 × Int32 × (Nat → Int32) × (Nat → Int32) × Int32 × Int32 × (Nat → Int64)) :=
  if (i + 1) < 0 ∨ L ≤ (i + 1).toNatClampNeg then none else (f_C_size (xs (i + 1).toNatClampNeg)).bind fun r_2 => if (i + 1) < 0 ∨ L ≤ (i + 1).toNatClampNeg then none else (f_M_size w_th w_pf w_of w_sz w_bg (xs (i + 1).toNatClampNeg)).bind fun r_5 => if r_2 = r_5.1 then (some (w_f, w_n, r_5.2.1, r_5.2.2.1, r_5.2.2.2.1, r_5.2.2.2.2.1, r_5.2.2.2.2.2, w_g)) else (none)
set_option maxHeartbeats 1000000 in
set_option maxRecDepth 100000 in
theorem lc_2 {p : Program} {l : Launch} {e : Env} {s : State} {m : MethodId} {below : List Frame} {meth : Method} {c : Code} {b L : Nat} {xs : Nat → Int32} (hfl : l.stackTraces = false) (C0 : lw_At p s m meth c b L xs) {ad sk sv : Nat → Nat} {tK : Nat} (dC : Nat → ClassId) (dI : Nat → Nat → Nat) {cA cI cL : ClassId} {h0 o h1 rw pt ou oa : Nat} (hT : tb ad sk sv tK (fun q => s.heap.size ≤ q) s s.heap) (hXb : xb (fun q => s.heap.size ≤ q) s s.heap) (hN : xN s) (hK : va_K (dC, dI) cls2 [(cA, .char), (cI, .int), (cL, .long)] s) (hd : lA s cA cI cL h0 o h1 rw pt ou oa) {cells slots : Nat} (hcs : cells + 1 ≤ 1038 ∧ slots + 6 ≤ 10775) (i : Int32) (w_f : Nat → Int32) (w_n : Int32) (w_th : Int32) (w_pf : Nat → Int32) (w_of : Nat → Int32) (w_sz : Int32) (w_bg : Int32) (w_g : Nat → Int64) (r : (Nat → Int32) × Int32 × Int32 × (Nat → Int32) × (Nat → Int32) × Int32 × Int32 × (Nat → Int64)) (hf : f_L_c2 xs L i w_f w_n w_th w_pf w_of w_sz w_bg w_g = some r)
    (kk : ∀ (H : Heap) (locs : List Loc) (ls : Array Slot), va_P (dC, dI) cls2 (wC cA h0 o r.1 r.2.1) H → va_P (dC, dI) cls2 (wM cI h1 rw pt ou r.2.2.1 mR r.2.2.2.1 r.2.2.2.2.1 r.2.2.2.2.2.1 r.2.2.2.2.2.2.1) H → va_P (dC, dI) cls2 (wO cL oa r.2.2.2.2.2.2.2) H → va_S (fun q => s.heap.size ≤ q) s.heap H locs → lv_has ls 7 [(0, .ref (b)), (1, .ref (h0)), (2, .ref (h1)), (3, .ref (oa)), (4, .int (i))] → W p l e room_1 s m #[Value.ref b] below meth c H locs (cells + 1) (slots + 6) (lw_Z below #[Value.ref b] s) (F0 m 776 ls []))
    (H : Heap) (locs : List Loc) (ls : Array Slot) (hPc : va_P (dC, dI) cls2 (wC cA h0 o w_f w_n) H) (hPm : va_P (dC, dI) cls2 (wM cI h1 rw pt ou w_th mR w_pf w_of w_sz w_bg) H) (hPo : va_P (dC, dI) cls2 (wO cL oa w_g) H) (hS : va_S (fun q => s.heap.size ≤ q) s.heap H locs) (hl : lv_has ls 7 [(0, .ref (b)), (1, .ref (h0)), (2, .ref (h1)), (3, .ref (oa)), (4, .int (i))]) : W p l e room_1 s m #[Value.ref b] below meth c H locs cells slots (lw_Z below #[Value.ref b] s) (F0 m 233 ls []) := by
  obtain ⟨hx, hb, hr, hml, hown, hts, hX, hbl, hlocks, hgv⟩ := C0
  have hown : s.vm.findClass "CodeWordsLaw" = some m.cls := hown
  have ht : ∀ {w : Cond}, w ∈ aw → w.before #[Value.ref b] s = true := fun h => hts _ (aw_tbl h)
  have hbA : ¬ (fun q : Nat => s.heap.size ≤ q) b := Nat.not_le.mpr hbl
  rw [f_L_c2] at hf
  refine lv_aload_n hx hb d_L_law_233 rfl (lv_at hl 1 rfl) ?_
  refine lv_aload_n hx hb d_L_law_234 rfl (lv_at hl 0 rfl) ?_
  refine lv_iload hx hb d_L_law_235 (lv_at hl 4 rfl) ?_
  refine lv_iconst (v := 1) hx hb d_L_law_237 (by decide) ?_
  refine lv_iadd hx hb d_L_law_238 ?_
  obtain ⟨z_1, hf⟩ := ju_gd hf
  refine va_sld hx hb hX hbl hbA hS z_1 d_L_law_239 ?_
  obtain ⟨r_2, g_3, hf⟩ := Option.bind_eq_some_iff.mp hf
  refine ju_calli (W.runV (As := [.int (xs (i + 1).toNatClampNeg)]) (rest := []) ⟨hx, hb, hml, hown, hts⟩ (c_C_size l (ad := ad) (sk := sk) (sv := sv) (tK := tK) h0 (xs (i + 1).toNatClampNeg) r_2 g_3) (cwV 1 hts (aw_VL aw_136 aw_137 aw_138 aw_1 aw_139) rfl rfl rfl (by decide +kernel) ⟨Nat.le_of_ble_eq_true rfl, Nat.le_of_ble_eq_true rfl⟩) ⟨fun a U g mk q => ⟨q.1, q.2.call⟩, va_recv (hK.sub (tys' := [(cA, .char)]) [0] rfl) hPc (ci := 0) (q0 := 0) rfl rfl, fun U hU hW => ⟨rfl, hT.at hS hU hW (fun _ z => z.elim)⟩⟩ rfl rfl hl.1 rfl (lv_room (Nat.le_of_ble_eq_true rfl)) d_L_law_240 ⟨(by have := hcs.1; show _ ≤ 1038; omega), (by have := hcs.2; show _ ≤ 10775; omega)⟩) ?_
  refine lv_aload_n hx hb d_L_law_243 rfl (lv_at hl 2 rfl) ?_
  refine lv_aload_n hx hb d_L_law_244 rfl (lv_at hl 0 rfl) ?_
  refine lv_iload hx hb d_L_law_245 (lv_at hl 4 rfl) ?_
  refine lv_iconst (v := 1) hx hb d_L_law_247 (by decide) ?_
  refine lv_iadd hx hb d_L_law_248 ?_
  obtain ⟨z_4, hf⟩ := ju_gd hf
  refine va_sld hx hb hX hbl hbA hS z_4 d_L_law_249 ?_
  obtain ⟨r_5, g_6, hf⟩ := Option.bind_eq_some_iff.mp hf
  refine va_calli (va_runV (As := [.int (xs (i + 1).toNatClampNeg)]) (rest := [.int (r_2)]) ⟨hx, hb, hml, hown, hts⟩ (c_M_size l (ad := ad) (sk := sk) (sv := sv) (tK := tK) dC dI cI h1 rw pt ou w_th w_pf w_of w_sz w_bg (xs (i + 1).toNatClampNeg) r_5 g_6) (cwV 1 hts (aw_VL aw_539 aw_540 aw_541 aw_2 aw_542) rfl rfl rfl (by decide +kernel) ⟨Nat.le_of_ble_eq_true rfl, Nat.le_of_ble_eq_true rfl⟩) ⟨wBlind, va_recv (hK.sub (tys' := [(cI, .int)]) [1] rfl) hPm (ci := 1) (q0 := 0) rfl rfl, fun U hU hW => ⟨rfl, by rw [hU]; exact hPm, va_K.moved hW.alike (hK.sub [1] rfl), dD hd.2.1 rfl, hT.at hS hU hW hd.2.2.2.2.1⟩⟩ rfl rfl hl.1 rfl (lv_room (Nat.le_of_ble_eq_true rfl)) d_L_law_250 ⟨(by have := hcs.1; show _ ≤ 1038; omega), (by have := hcs.2; show _ ≤ 10775; omega)⟩) hS (fun q _ z => hd.2.2.2.2.1 q z) hd.2.2.2.2.1 (fun v1 u t H1 locs1 ht1 hvm hw hB hz1 hk1 hS1 => ?_)
  obtain ⟨hw1, hw2⟩ := hw
  rw [hw1]
  rw [hw2] at hB
  rw [ht1] at hB
  have hPm' : va_P (dC, dI) cls2 (wM cI h1 rw pt ou r_5.2.1 mR r_5.2.2.1 r_5.2.2.2.1 r_5.2.2.2.2.1 r_5.2.2.2.2.2) H1 := hB
  have hPc' := lk hPc hk1 (fun k q hq _ z => hd.2.2.2.2.2.2.1 _ z ((dD (ws' := (wC cA h0 o w_f w_n)) hd.1 rfl).2 k q hq))
  have hPo' := lk hPo hk1 (fun k q hq _ z => hd.2.2.2.2.2.2.2.2 (by rw [← show q.1 = oa from (dD (ws' := (wO cL oa w_g)) hd.2.2.1 rfl).2 k q hq]; exact z))
  replace hPc := hPc'
  replace hPm := hPm'
  replace hPo := hPo'
  replace hS := hS1
  clear hPc' hPm' hPo' hS1 hB hk1 hz1
  generalize H1 = H at hPo hPc hPm hS ⊢
  generalize locs1 = locs at hS ⊢
  refine lv_icmp_eq (tgt := 776) hx hb d_L_law_253 (by decide) (fun c_7 => ?_) (fun c_7 => ?_)
  · replace hf := (if_pos c_7).symm.trans hf
    obtain rfl := Option.some.inj hf
    refine W.widen (k := cells + 1) (n := slots + 6) (by omega) (by omega) ?_
    exact kk _ _ _ hPc hPm hPo hS (lv_sub hl [0, 1, 2, 3, 4] rfl)
  · replace hf := (if_neg c_7).symm.trans hf
    cases hf

def f_L_c3 (xs : Nat → Int32) (L : Nat) (i : Int32) (w_f : Nat → Int32) (w_n : Int32) (w_th : Int32) (w_pf : Nat → Int32) (w_of : Nat → Int32) (w_sz : Int32) (w_bg : Int32) (w_g : Nat → Int64) : Option ((Nat → Int32) × Int32 × Int32 × (Nat → Int32) × (Nat → Int32) × Int32 × Int32 × (Nat → Int64)) :=
  if (i + 1) < 0 ∨ L ≤ (i + 1).toNatClampNeg then none else if (i + 2) < 0 ∨ L ≤ (i + 2).toNatClampNeg then none else (f_L_part w_g (xs (i + 1).toNatClampNeg) (xs (i + 2).toNatClampNeg)).bind fun r_3 => if (i + 1) < 0 ∨ L ≤ (i + 1).toNatClampNeg then none else if (i + 2) < 0 ∨ L ≤ (i + 2).toNatClampNeg then none else (f_M_part w_th w_pf w_of w_sz w_bg (xs (i + 1).toNatClampNeg) (xs (i + 2).toNatClampNeg)).bind fun r_7 => (f_M_thrown r_7.2.1 r_7.2.2.1 r_7.2.2.2.1 r_7.2.2.2.2.1 r_7.2.2.2.2.2 ).bind fun r_9 => if r_9 = r_3.1 then (if r_3.1 = 0 then (if (0 : Int32) < 0 ∨ 1 ≤ (0 : Int32).toNatClampNeg then none else if (lg_cmp (r_3.2 (0 : Int32).toNatClampNeg) r_7.1.toInt64) = 0 then (some (w_f, w_n, r_7.2.1, r_7.2.2.1, r_7.2.2.2.1, r_7.2.2.2.2.1, r_7.2.2.2.2.2, r_3.2)) else (none)) else (some (w_f, w_n, r_7.2.1, r_7.2.2.1, r_7.2.2.2.1, r_7.2.2.2.2.1, r_7.2.2.2.2.2, r_3.2))) else (none)
set_option maxHeartbeats 1000000 in
set_option maxRecDepth 100000 in
theorem lc_3 {p : Program} {l : Launch} {e : Env} {s : State} {m : MethodId} {below : List Frame} {meth : Method} {c : Code} {b L : Nat} {xs : Nat → Int32} (hfl : l.stackTraces = false) (C0 : lw_At p s m meth c b L xs) {ad sk sv : Nat → Nat} {tK : Nat} (dC : Nat → ClassId) (dI : Nat → Nat → Nat) {cA cI cL : ClassId} {h0 o h1 rw pt ou oa : Nat} (hT : tb ad sk sv tK (fun q => s.heap.size ≤ q) s s.heap) (hXb : xb (fun q => s.heap.size ≤ q) s s.heap) (hN : xN s) (hK : va_K (dC, dI) cls2 [(cA, .char), (cI, .int), (cL, .long)] s) (hd : lA s cA cI cL h0 o h1 rw pt ou oa) {cells slots : Nat} (hcs : cells + 1 ≤ 1038 ∧ slots + 6 ≤ 10775) (i : Int32) (w_f : Nat → Int32) (w_n : Int32) (w_th : Int32) (w_pf : Nat → Int32) (w_of : Nat → Int32) (w_sz : Int32) (w_bg : Int32) (w_g : Nat → Int64) (r : (Nat → Int32) × Int32 × Int32 × (Nat → Int32) × (Nat → Int32) × Int32 × Int32 × (Nat → Int64)) (hf : f_L_c3 xs L i w_f w_n w_th w_pf w_of w_sz w_bg w_g = some r)
    (kk : ∀ (H : Heap) (locs : List Loc) (ls : Array Slot), va_P (dC, dI) cls2 (wC cA h0 o r.1 r.2.1) H → va_P (dC, dI) cls2 (wM cI h1 rw pt ou r.2.2.1 mR r.2.2.2.1 r.2.2.2.2.1 r.2.2.2.2.2.1 r.2.2.2.2.2.2.1) H → va_P (dC, dI) cls2 (wO cL oa r.2.2.2.2.2.2.2) H → va_S (fun q => s.heap.size ≤ q) s.heap H locs → lv_has ls 7 [(0, .ref (b)), (1, .ref (h0)), (2, .ref (h1)), (3, .ref (oa)), (4, .int (i))] → W p l e room_1 s m #[Value.ref b] below meth c H locs (cells + 1) (slots + 6) (lw_Z below #[Value.ref b] s) (F0 m 776 ls []))
    (H : Heap) (locs : List Loc) (ls : Array Slot) (hPc : va_P (dC, dI) cls2 (wC cA h0 o w_f w_n) H) (hPm : va_P (dC, dI) cls2 (wM cI h1 rw pt ou w_th mR w_pf w_of w_sz w_bg) H) (hPo : va_P (dC, dI) cls2 (wO cL oa w_g) H) (hS : va_S (fun q => s.heap.size ≤ q) s.heap H locs) (hl : lv_has ls 7 [(0, .ref (b)), (1, .ref (h0)), (2, .ref (h1)), (3, .ref (oa)), (4, .int (i))]) : W p l e room_1 s m #[Value.ref b] below meth c H locs cells slots (lw_Z below #[Value.ref b] s) (F0 m 258 ls []) := by
  obtain ⟨hx, hb, hr, hml, hown, hts, hX, hbl, hlocks, hgv⟩ := C0
  have hown : s.vm.findClass "CodeWordsLaw" = some m.cls := hown
  have ht : ∀ {w : Cond}, w ∈ aw → w.before #[Value.ref b] s = true := fun h => hts _ (aw_tbl h)
  have hbA : ¬ (fun q : Nat => s.heap.size ≤ q) b := Nat.not_le.mpr hbl
  rw [f_L_c3] at hf
  refine lv_aload_n hx hb d_L_law_258 rfl (lv_at hl 1 rfl) ?_
  refine lv_aload_n hx hb d_L_law_259 rfl (lv_at hl 0 rfl) ?_
  refine lv_iload hx hb d_L_law_260 (lv_at hl 4 rfl) ?_
  refine lv_iconst (v := 1) hx hb d_L_law_262 (by decide) ?_
  refine lv_iadd hx hb d_L_law_263 ?_
  obtain ⟨z_1, hf⟩ := ju_gd hf
  refine va_sld hx hb hX hbl hbA hS z_1 d_L_law_264 ?_
  refine lv_aload_n hx hb d_L_law_265 rfl (lv_at hl 0 rfl) ?_
  refine lv_iload hx hb d_L_law_266 (lv_at hl 4 rfl) ?_
  refine lv_iconst (v := 2) hx hb d_L_law_268 (by decide) ?_
  refine lv_iadd hx hb d_L_law_269 ?_
  obtain ⟨z_2, hf⟩ := ju_gd hf
  refine va_sld hx hb hX hbl hbA hS z_2 d_L_law_270 ?_
  refine lv_aload_n hx hb d_L_law_271 rfl (lv_at hl 3 rfl) ?_
  obtain ⟨r_3, g_4, hf⟩ := Option.bind_eq_some_iff.mp hf
  refine va_calli (xl_runS (As := [.ref (h0), .int (xs (i + 1).toNatClampNeg), .int (xs (i + 2).toNatClampNeg), .ref (oa)]) (rest := []) (n := 4) (hh := [(0, 10, 13, 21)]) ⟨hx, hb, hml, hown, hts⟩ (c_L_part l hfl (ad := ad) (sk := sk) (sv := sv) (tK := tK) dC dI cL h0 oa H.size w_g (fun q => q = oa ∨ H.size ≤ q) (xs (i + 1).toNatClampNeg) (xs (i + 2).toNatClampNeg) r_3 g_4) rfl rfl ⟨Nat.le_of_ble_eq_true rfl, Nat.le_of_ble_eq_true rfl⟩ (aw_CL aw_346 hts) List.mem_cons_self (ht aw_346) (ht aw_0) (by decide) (fun sig h => ju_len h (by decide +kernel)) (ht aw_344) (ht aw_345) ⟨xPc_blind, fun U hU hW => ⟨rfl, by rw [hU], by rw [hU]; exact hPo, va_K.moved hW.alike (hK.sub [2] rfl), dD (ws := wO cL oa (fun _ => 0)) ⟨hd.2.2.1.1, fun k q hq => Or.inl (hd.2.2.1.2 k q hq)⟩ rfl, fun q z => Or.inr z, (by rw [hU]; obtain ⟨cl9, h91, h92, h93⟩ := va_recv (hK.sub (tys' := [(cA, .char)]) [0] rfl) hPc (ci := 0) (q0 := 0) rfl rfl; exact ⟨cl9, h91, h92, by rw [hW.alike.findClass]; exact h93⟩), hT.at hS hU hW (fun q z => z.elim (fun z => by rw [z]; exact hd.2.2.2.2.2.1) (fun z => Nat.le_trans hS.1 z)), hXb.at hS hU hW (fun q z => z.elim (fun z => by rw [z]; exact hd.2.2.2.2.2.1) (fun z => Nat.le_trans hS.1 z)), va_Nw.warmC hW hN.1, va_Nw.warmC hW hN.2.1, va_Nw.warmC hW hN.2.2.1, va_Nc.moved hW.alike hN.2.2.2⟩⟩ rfl rfl hl.1 rfl (lv_room (Nat.le_of_ble_eq_true rfl)) d_L_law_272 ⟨(by have := hcs.1; show _ ≤ 1038; omega), (by have := hcs.2; show _ ≤ 10775; omega)⟩) hS (fun q _ z => z.elim (fun z => by rw [z]; exact hd.2.2.2.2.2.1) (fun z => Nat.le_trans hS.1 z)) (fun q z => z.elim (fun z => by rw [z]; exact hd.2.2.2.2.2.1) (fun z => Nat.le_trans hS.1 z)) (fun v1 u t H1 locs1 ht1 hvm hw hB hz1 hk1 hS1 => ?_)
  obtain ⟨hw1, hw2⟩ := hw
  rw [hw1]
  rw [hw2] at hB
  rw [ht1] at hB
  have hPo : va_P (dC, dI) cls2 (wO cL oa r_3.2) H1 := hB
  have hPc := lk hPc hk1 (fun k q hq hlt z => z.elim (fun z => hd.2.2.2.2.2.2.2.1 (by rw [← z]; exact (dD (ws' := (wC cA h0 o w_f w_n)) hd.1 rfl).2 k q hq)) (fun z => Nat.not_lt.mpr z hlt))
  have hPm := lk hPm hk1 (fun k q hq hlt z => z.elim (fun z => hd.2.2.2.2.2.2.2.2 (by rw [← z]; exact (dD (ws' := (wM cI h1 rw pt ou w_th mR w_pf w_of w_sz w_bg)) hd.2.1 rfl).2 k q hq)) (fun z => Nat.not_lt.mpr z hlt))
  have hS := hS1
  clear hS1
  generalize H1 = H at hPo hPc hPm hS ⊢
  generalize locs1 = locs at hS ⊢
  refine lv_istore (lv' := [(5, .int (r_3.1)), (0, .ref (b)), (1, .ref (h0)), (2, .ref (h1)), (3, .ref (oa)), (4, .int (i))]) hx hb d_L_law_275 hl (by decide) rfl (fun ls hl => ?_)
  refine lv_aload_n hx hb d_L_law_277 rfl (lv_at hl 3 rfl) ?_
  refine lv_aload_n hx hb d_L_law_278 rfl (lv_at hl 1 rfl) ?_
  refine lv_iload hx hb d_L_law_279 (lv_at hl 5 rfl) ?_
  refine lv_iconst (v := 1) hx hb d_L_law_281 (by decide) ?_
  refine lv_iadd hx hb d_L_law_282 ?_
  obtain ⟨z_5, hf⟩ := ju_gd hf
  refine va_sld hx hb hX hbl hbA hS z_5 d_L_law_283 ?_
  refine lv_aload_n hx hb d_L_law_284 rfl (lv_at hl 1 rfl) ?_
  refine lv_iload hx hb d_L_law_285 (lv_at hl 5 rfl) ?_
  refine lv_iconst (v := 2) hx hb d_L_law_287 (by decide) ?_
  refine lv_iadd hx hb d_L_law_288 ?_
  obtain ⟨z_6, hf⟩ := ju_gd hf
  refine va_sld hx hb hX hbl hbA hS z_6 d_L_law_289 ?_
  obtain ⟨r_7, g_8, hf⟩ := Option.bind_eq_some_iff.mp hf
  refine va_calli (va_runV (As := [.int (xs (i + 1).toNatClampNeg), .int (xs (i + 2).toNatClampNeg)]) (rest := []) ⟨hx, hb, hml, hown, hts⟩ (c_M_part l (ad := ad) (sk := sk) (sv := sv) (tK := tK) dC dI cI h1 rw pt ou w_th w_pf w_of w_sz w_bg (xs (i + 1).toNatClampNeg) (xs (i + 2).toNatClampNeg) r_7 g_8) (cwV 2 hts (aw_VL aw_543 aw_544 aw_545 aw_2 aw_546) rfl rfl rfl (by decide +kernel) ⟨Nat.le_of_ble_eq_true rfl, Nat.le_of_ble_eq_true rfl⟩) ⟨wBlind, va_recv (hK.sub (tys' := [(cI, .int)]) [1] rfl) hPm (ci := 1) (q0 := 0) rfl rfl, fun U hU hW => ⟨rfl, by rw [hU]; exact hPm, va_K.moved hW.alike (hK.sub [1] rfl), dD hd.2.1 rfl, hT.at hS hU hW hd.2.2.2.2.1⟩⟩ rfl rfl hl.1 rfl (lv_room (Nat.le_of_ble_eq_true rfl)) d_L_law_290 ⟨(by have := hcs.1; show _ ≤ 1038; omega), (by have := hcs.2; show _ ≤ 10775; omega)⟩) hS (fun q _ z => hd.2.2.2.2.1 q z) hd.2.2.2.2.1 (fun v1 u t H1 locs1 ht1 hvm hw hB hz1 hk1 hS1 => ?_)
  obtain ⟨hw1, hw2⟩ := hw
  rw [hw1]
  rw [hw2] at hB
  rw [ht1] at hB
  have hPm' : va_P (dC, dI) cls2 (wM cI h1 rw pt ou r_7.2.1 mR r_7.2.2.1 r_7.2.2.2.1 r_7.2.2.2.2.1 r_7.2.2.2.2.2) H1 := hB
  have hPc' := lk hPc hk1 (fun k q hq _ z => hd.2.2.2.2.2.2.1 _ z ((dD (ws' := (wC cA h0 o w_f w_n)) hd.1 rfl).2 k q hq))
  have hPo' := lk hPo hk1 (fun k q hq _ z => hd.2.2.2.2.2.2.2.2 (by rw [← show q.1 = oa from (dD (ws' := (wO cL oa r_3.2)) hd.2.2.1 rfl).2 k q hq]; exact z))
  replace hPc := hPc'
  replace hPm := hPm'
  replace hPo := hPo'
  replace hS := hS1
  clear hPc' hPm' hPo' hS1 hB hk1 hz1
  generalize H1 = H at hPo hPc hPm hS ⊢
  generalize locs1 = locs at hS ⊢
  refine lv_istore (lv' := [(6, .int (r_7.1)), (5, .int (r_3.1)), (0, .ref (b)), (1, .ref (h0)), (2, .ref (h1)), (3, .ref (oa)), (4, .int (i))]) hx hb d_L_law_293 hl (by decide) rfl (fun ls hl => ?_)
  refine lv_aload_n hx hb d_L_law_295 rfl (lv_at hl 4 rfl) ?_
  obtain ⟨r_9, g_10, hf⟩ := Option.bind_eq_some_iff.mp hf
  refine ju_calli (W.runV (As := []) (rest := []) ⟨hx, hb, hml, hown, hts⟩ (c_M_thrown l (ad := ad) (sk := sk) (sv := sv) (tK := tK) dC dI cI h1 rw pt ou r_7.2.1 r_7.2.2.1 r_7.2.2.2.1 r_7.2.2.2.2.1 r_7.2.2.2.2.2  r_9 g_10) (cwV 0 hts (aw_VL aw_459 aw_460 aw_461 aw_2 aw_462) rfl rfl rfl (by decide +kernel) ⟨Nat.le_of_ble_eq_true rfl, Nat.le_of_ble_eq_true rfl⟩) ⟨wBlind, va_recv (hK.sub (tys' := [(cI, .int)]) [1] rfl) hPm (ci := 1) (q0 := 0) rfl rfl, fun U hU hW => ⟨rfl, by rw [hU]; exact hPm, va_K.moved hW.alike (hK.sub [1] rfl), dD hd.2.1 rfl, hT.at hS hU hW hd.2.2.2.2.1⟩⟩ rfl rfl hl.1 rfl (lv_room (Nat.le_of_ble_eq_true rfl)) d_L_law_296 ⟨(by have := hcs.1; show _ ≤ 1038; omega), (by have := hcs.2; show _ ≤ 10775; omega)⟩) ?_
  refine lv_iload hx hb d_L_law_299 (lv_at hl 1 rfl) ?_
  refine lv_icmp_eq (tgt := 306) hx hb d_L_law_301 (by decide) (fun c_11 => ?_) (fun c_11 => ?_)
  · replace hf := (if_pos c_11).symm.trans hf
    refine lv_iload hx hb d_L_law_306 (lv_at hl 1 rfl) ?_
    refine lv_if_ne (tgt := 323) hx hb d_L_law_308 (by decide) (fun c_12 => ?_) (fun c_12 => ?_)
    · replace hf := (if_neg c_12).symm.trans hf
      refine lv_goto (tgt := 776) hx hb d_L_law_323 (by decide) ?_
      obtain rfl := Option.some.inj hf
      refine W.widen (k := cells + 1) (n := slots + 6) (by omega) (by omega) ?_
      exact kk _ _ _ hPc hPm hPo hS (lv_sub hl [2, 3, 4, 5, 6] rfl)
    · replace hf := (if_pos c_12).symm.trans hf
      refine lv_aload_n hx hb d_L_law_311 rfl (lv_at hl 5 rfl) ?_
      refine lv_iconst (v := 0) hx hb d_L_law_312 (by decide) ?_
      obtain ⟨z_13, hf⟩ := ju_gd hf
      refine va_lald hx hb (hK.sub [2] rfl) hPo 0 0 rfl rfl z_13 d_L_law_313 ?_
      refine lv_iload hx hb d_L_law_314 (lv_at hl 0 rfl) ?_
      refine lv_i2l (v := r_7.1.toInt64) hx hb d_L_law_316 rfl ?_
      refine W.lcmp hx hb d_L_law_317 ?_
      refine lv_if_eq (tgt := 323) hx hb d_L_law_318 (by decide) (fun c_14 => ?_) (fun c_14 => ?_)
      · replace hf := (if_pos c_14).symm.trans hf
        refine lv_goto (tgt := 776) hx hb d_L_law_323 (by decide) ?_
        obtain rfl := Option.some.inj hf
        refine W.widen (k := cells + 1) (n := slots + 6) (by omega) (by omega) ?_
        exact kk _ _ _ hPc hPm hPo hS (lv_sub hl [2, 3, 4, 5, 6] rfl)
      · replace hf := (if_neg c_14).symm.trans hf
        cases hf
  · replace hf := (if_neg c_11).symm.trans hf
    cases hf

def f_L_c4 (xs : Nat → Int32) (L : Nat) (i : Int32) (w_f : Nat → Int32) (w_n : Int32) (w_th : Int32) (w_pf : Nat → Int32) (w_of : Nat → Int32) (w_sz : Int32) (w_bg : Int32) (w_g : Nat → Int64) : Option ((Nat → Int32) × Int32 × Int32 × (Nat → Int32) × (Nat → Int32) × Int32 × Int32 × (Nat → Int64)) :=
  if (i + 1) < 0 ∨ L ≤ (i + 1).toNatClampNeg then none else (f_L_longer w_g (xs (i + 1).toNatClampNeg)).bind fun r_2 => if (i + 1) < 0 ∨ L ≤ (i + 1).toNatClampNeg then none else (f_M_longer w_th w_pf w_of w_sz w_bg (xs (i + 1).toNatClampNeg)).bind fun r_5 => (f_M_thrown r_5.2.1 r_5.2.2.1 r_5.2.2.2.1 r_5.2.2.2.2.1 r_5.2.2.2.2.2 ).bind fun r_7 => if r_7 = r_2.1 then (if r_2.1 = 0 then (if (0 : Int32) < 0 ∨ 1 ≤ (0 : Int32).toNatClampNeg then none else if (lg_cmp (r_2.2 (0 : Int32).toNatClampNeg) r_5.1.toInt64) = 0 then (some (w_f, w_n, r_5.2.1, r_5.2.2.1, r_5.2.2.2.1, r_5.2.2.2.2.1, r_5.2.2.2.2.2, r_2.2)) else (none)) else (some (w_f, w_n, r_5.2.1, r_5.2.2.1, r_5.2.2.2.1, r_5.2.2.2.2.1, r_5.2.2.2.2.2, r_2.2))) else (none)
set_option maxHeartbeats 1000000 in
set_option maxRecDepth 100000 in
theorem lc_4 {p : Program} {l : Launch} {e : Env} {s : State} {m : MethodId} {below : List Frame} {meth : Method} {c : Code} {b L : Nat} {xs : Nat → Int32} (hfl : l.stackTraces = false) (C0 : lw_At p s m meth c b L xs) {ad sk sv : Nat → Nat} {tK : Nat} (dC : Nat → ClassId) (dI : Nat → Nat → Nat) {cA cI cL : ClassId} {h0 o h1 rw pt ou oa : Nat} (hT : tb ad sk sv tK (fun q => s.heap.size ≤ q) s s.heap) (hXb : xb (fun q => s.heap.size ≤ q) s s.heap) (hN : xN s) (hK : va_K (dC, dI) cls2 [(cA, .char), (cI, .int), (cL, .long)] s) (hd : lA s cA cI cL h0 o h1 rw pt ou oa) {cells slots : Nat} (hcs : cells + 1 ≤ 1038 ∧ slots + 6 ≤ 10775) (i : Int32) (w_f : Nat → Int32) (w_n : Int32) (w_th : Int32) (w_pf : Nat → Int32) (w_of : Nat → Int32) (w_sz : Int32) (w_bg : Int32) (w_g : Nat → Int64) (r : (Nat → Int32) × Int32 × Int32 × (Nat → Int32) × (Nat → Int32) × Int32 × Int32 × (Nat → Int64)) (hf : f_L_c4 xs L i w_f w_n w_th w_pf w_of w_sz w_bg w_g = some r)
    (kk : ∀ (H : Heap) (locs : List Loc) (ls : Array Slot), va_P (dC, dI) cls2 (wC cA h0 o r.1 r.2.1) H → va_P (dC, dI) cls2 (wM cI h1 rw pt ou r.2.2.1 mR r.2.2.2.1 r.2.2.2.2.1 r.2.2.2.2.2.1 r.2.2.2.2.2.2.1) H → va_P (dC, dI) cls2 (wO cL oa r.2.2.2.2.2.2.2) H → va_S (fun q => s.heap.size ≤ q) s.heap H locs → lv_has ls 7 [(0, .ref (b)), (1, .ref (h0)), (2, .ref (h1)), (3, .ref (oa)), (4, .int (i))] → W p l e room_1 s m #[Value.ref b] below meth c H locs (cells + 1) (slots + 6) (lw_Z below #[Value.ref b] s) (F0 m 776 ls []))
    (H : Heap) (locs : List Loc) (ls : Array Slot) (hPc : va_P (dC, dI) cls2 (wC cA h0 o w_f w_n) H) (hPm : va_P (dC, dI) cls2 (wM cI h1 rw pt ou w_th mR w_pf w_of w_sz w_bg) H) (hPo : va_P (dC, dI) cls2 (wO cL oa w_g) H) (hS : va_S (fun q => s.heap.size ≤ q) s.heap H locs) (hl : lv_has ls 7 [(0, .ref (b)), (1, .ref (h0)), (2, .ref (h1)), (3, .ref (oa)), (4, .int (i))]) : W p l e room_1 s m #[Value.ref b] below meth c H locs cells slots (lw_Z below #[Value.ref b] s) (F0 m 326 ls []) := by
  obtain ⟨hx, hb, hr, hml, hown, hts, hX, hbl, hlocks, hgv⟩ := C0
  have hown : s.vm.findClass "CodeWordsLaw" = some m.cls := hown
  have ht : ∀ {w : Cond}, w ∈ aw → w.before #[Value.ref b] s = true := fun h => hts _ (aw_tbl h)
  have hbA : ¬ (fun q : Nat => s.heap.size ≤ q) b := Nat.not_le.mpr hbl
  rw [f_L_c4] at hf
  refine lv_aload_n hx hb d_L_law_326 rfl (lv_at hl 1 rfl) ?_
  refine lv_aload_n hx hb d_L_law_327 rfl (lv_at hl 0 rfl) ?_
  refine lv_iload hx hb d_L_law_328 (lv_at hl 4 rfl) ?_
  refine lv_iconst (v := 1) hx hb d_L_law_330 (by decide) ?_
  refine lv_iadd hx hb d_L_law_331 ?_
  obtain ⟨z_1, hf⟩ := ju_gd hf
  refine va_sld hx hb hX hbl hbA hS z_1 d_L_law_332 ?_
  refine lv_aload_n hx hb d_L_law_333 rfl (lv_at hl 3 rfl) ?_
  obtain ⟨r_2, g_3, hf⟩ := Option.bind_eq_some_iff.mp hf
  refine va_calli (xl_runS (As := [.ref (h0), .int (xs (i + 1).toNatClampNeg), .ref (oa)]) (rest := []) (n := 3) (hh := [(0, 9, 12, 21)]) ⟨hx, hb, hml, hown, hts⟩ (c_L_longer l hfl (ad := ad) (sk := sk) (sv := sv) (tK := tK) dC dI cL h0 oa H.size w_g (fun q => q = oa ∨ H.size ≤ q) (xs (i + 1).toNatClampNeg) r_2 g_3) rfl rfl ⟨Nat.le_of_ble_eq_true rfl, Nat.le_of_ble_eq_true rfl⟩ (aw_CL aw_371 hts) List.mem_cons_self (ht aw_371) (ht aw_0) (by decide) (fun sig h => ju_len h (by decide +kernel)) (ht aw_369) (ht aw_370) ⟨xPc_blind, fun U hU hW => ⟨rfl, by rw [hU], by rw [hU]; exact hPo, va_K.moved hW.alike (hK.sub [2] rfl), dD (ws := wO cL oa (fun _ => 0)) ⟨hd.2.2.1.1, fun k q hq => Or.inl (hd.2.2.1.2 k q hq)⟩ rfl, fun q z => Or.inr z, (by rw [hU]; obtain ⟨cl9, h91, h92, h93⟩ := va_recv (hK.sub (tys' := [(cA, .char)]) [0] rfl) hPc (ci := 0) (q0 := 0) rfl rfl; exact ⟨cl9, h91, h92, by rw [hW.alike.findClass]; exact h93⟩), hT.at hS hU hW (fun q z => z.elim (fun z => by rw [z]; exact hd.2.2.2.2.2.1) (fun z => Nat.le_trans hS.1 z)), hXb.at hS hU hW (fun q z => z.elim (fun z => by rw [z]; exact hd.2.2.2.2.2.1) (fun z => Nat.le_trans hS.1 z)), va_Nw.warmC hW hN.1, va_Nw.warmC hW hN.2.1, va_Nw.warmC hW hN.2.2.1, va_Nc.moved hW.alike hN.2.2.2⟩⟩ rfl rfl hl.1 rfl (lv_room (Nat.le_of_ble_eq_true rfl)) d_L_law_334 ⟨(by have := hcs.1; show _ ≤ 1038; omega), (by have := hcs.2; show _ ≤ 10775; omega)⟩) hS (fun q _ z => z.elim (fun z => by rw [z]; exact hd.2.2.2.2.2.1) (fun z => Nat.le_trans hS.1 z)) (fun q z => z.elim (fun z => by rw [z]; exact hd.2.2.2.2.2.1) (fun z => Nat.le_trans hS.1 z)) (fun v1 u t H1 locs1 ht1 hvm hw hB hz1 hk1 hS1 => ?_)
  obtain ⟨hw1, hw2⟩ := hw
  rw [hw1]
  rw [hw2] at hB
  rw [ht1] at hB
  have hPo : va_P (dC, dI) cls2 (wO cL oa r_2.2) H1 := hB
  have hPc := lk hPc hk1 (fun k q hq hlt z => z.elim (fun z => hd.2.2.2.2.2.2.2.1 (by rw [← z]; exact (dD (ws' := (wC cA h0 o w_f w_n)) hd.1 rfl).2 k q hq)) (fun z => Nat.not_lt.mpr z hlt))
  have hPm := lk hPm hk1 (fun k q hq hlt z => z.elim (fun z => hd.2.2.2.2.2.2.2.2 (by rw [← z]; exact (dD (ws' := (wM cI h1 rw pt ou w_th mR w_pf w_of w_sz w_bg)) hd.2.1 rfl).2 k q hq)) (fun z => Nat.not_lt.mpr z hlt))
  have hS := hS1
  clear hS1
  generalize H1 = H at hPo hPc hPm hS ⊢
  generalize locs1 = locs at hS ⊢
  refine lv_istore (lv' := [(5, .int (r_2.1)), (0, .ref (b)), (1, .ref (h0)), (2, .ref (h1)), (3, .ref (oa)), (4, .int (i))]) hx hb d_L_law_337 hl (by decide) rfl (fun ls hl => ?_)
  refine lv_aload_n hx hb d_L_law_339 rfl (lv_at hl 3 rfl) ?_
  refine lv_aload_n hx hb d_L_law_340 rfl (lv_at hl 1 rfl) ?_
  refine lv_iload hx hb d_L_law_341 (lv_at hl 5 rfl) ?_
  refine lv_iconst (v := 1) hx hb d_L_law_343 (by decide) ?_
  refine lv_iadd hx hb d_L_law_344 ?_
  obtain ⟨z_4, hf⟩ := ju_gd hf
  refine va_sld hx hb hX hbl hbA hS z_4 d_L_law_345 ?_
  obtain ⟨r_5, g_6, hf⟩ := Option.bind_eq_some_iff.mp hf
  refine va_calli (va_runV (As := [.int (xs (i + 1).toNatClampNeg)]) (rest := []) ⟨hx, hb, hml, hown, hts⟩ (c_M_longer l (ad := ad) (sk := sk) (sv := sv) (tK := tK) dC dI cI h1 rw pt ou w_th w_pf w_of w_sz w_bg (xs (i + 1).toNatClampNeg) r_5 g_6) (cwV 1 hts (aw_VL aw_547 aw_548 aw_549 aw_2 aw_550) rfl rfl rfl (by decide +kernel) ⟨Nat.le_of_ble_eq_true rfl, Nat.le_of_ble_eq_true rfl⟩) ⟨wBlind, va_recv (hK.sub (tys' := [(cI, .int)]) [1] rfl) hPm (ci := 1) (q0 := 0) rfl rfl, fun U hU hW => ⟨rfl, by rw [hU]; exact hPm, va_K.moved hW.alike (hK.sub [1] rfl), dD hd.2.1 rfl, hT.at hS hU hW hd.2.2.2.2.1⟩⟩ rfl rfl hl.1 rfl (lv_room (Nat.le_of_ble_eq_true rfl)) d_L_law_346 ⟨(by have := hcs.1; show _ ≤ 1038; omega), (by have := hcs.2; show _ ≤ 10775; omega)⟩) hS (fun q _ z => hd.2.2.2.2.1 q z) hd.2.2.2.2.1 (fun v1 u t H1 locs1 ht1 hvm hw hB hz1 hk1 hS1 => ?_)
  obtain ⟨hw1, hw2⟩ := hw
  rw [hw1]
  rw [hw2] at hB
  rw [ht1] at hB
  have hPm' : va_P (dC, dI) cls2 (wM cI h1 rw pt ou r_5.2.1 mR r_5.2.2.1 r_5.2.2.2.1 r_5.2.2.2.2.1 r_5.2.2.2.2.2) H1 := hB
  have hPc' := lk hPc hk1 (fun k q hq _ z => hd.2.2.2.2.2.2.1 _ z ((dD (ws' := (wC cA h0 o w_f w_n)) hd.1 rfl).2 k q hq))
  have hPo' := lk hPo hk1 (fun k q hq _ z => hd.2.2.2.2.2.2.2.2 (by rw [← show q.1 = oa from (dD (ws' := (wO cL oa r_2.2)) hd.2.2.1 rfl).2 k q hq]; exact z))
  replace hPc := hPc'
  replace hPm := hPm'
  replace hPo := hPo'
  replace hS := hS1
  clear hPc' hPm' hPo' hS1 hB hk1 hz1
  generalize H1 = H at hPo hPc hPm hS ⊢
  generalize locs1 = locs at hS ⊢
  refine lv_istore (lv' := [(6, .int (r_5.1)), (5, .int (r_2.1)), (0, .ref (b)), (1, .ref (h0)), (2, .ref (h1)), (3, .ref (oa)), (4, .int (i))]) hx hb d_L_law_349 hl (by decide) rfl (fun ls hl => ?_)
  refine lv_aload_n hx hb d_L_law_351 rfl (lv_at hl 4 rfl) ?_
  obtain ⟨r_7, g_8, hf⟩ := Option.bind_eq_some_iff.mp hf
  refine ju_calli (W.runV (As := []) (rest := []) ⟨hx, hb, hml, hown, hts⟩ (c_M_thrown l (ad := ad) (sk := sk) (sv := sv) (tK := tK) dC dI cI h1 rw pt ou r_5.2.1 r_5.2.2.1 r_5.2.2.2.1 r_5.2.2.2.2.1 r_5.2.2.2.2.2  r_7 g_8) (cwV 0 hts (aw_VL aw_459 aw_460 aw_461 aw_2 aw_462) rfl rfl rfl (by decide +kernel) ⟨Nat.le_of_ble_eq_true rfl, Nat.le_of_ble_eq_true rfl⟩) ⟨wBlind, va_recv (hK.sub (tys' := [(cI, .int)]) [1] rfl) hPm (ci := 1) (q0 := 0) rfl rfl, fun U hU hW => ⟨rfl, by rw [hU]; exact hPm, va_K.moved hW.alike (hK.sub [1] rfl), dD hd.2.1 rfl, hT.at hS hU hW hd.2.2.2.2.1⟩⟩ rfl rfl hl.1 rfl (lv_room (Nat.le_of_ble_eq_true rfl)) d_L_law_352 ⟨(by have := hcs.1; show _ ≤ 1038; omega), (by have := hcs.2; show _ ≤ 10775; omega)⟩) ?_
  refine lv_iload hx hb d_L_law_355 (lv_at hl 1 rfl) ?_
  refine lv_icmp_eq (tgt := 362) hx hb d_L_law_357 (by decide) (fun c_9 => ?_) (fun c_9 => ?_)
  · replace hf := (if_pos c_9).symm.trans hf
    refine lv_iload hx hb d_L_law_362 (lv_at hl 1 rfl) ?_
    refine lv_if_ne (tgt := 379) hx hb d_L_law_364 (by decide) (fun c_10 => ?_) (fun c_10 => ?_)
    · replace hf := (if_neg c_10).symm.trans hf
      refine lv_goto (tgt := 776) hx hb d_L_law_379 (by decide) ?_
      obtain rfl := Option.some.inj hf
      refine W.widen (k := cells + 1) (n := slots + 6) (by omega) (by omega) ?_
      exact kk _ _ _ hPc hPm hPo hS (lv_sub hl [2, 3, 4, 5, 6] rfl)
    · replace hf := (if_pos c_10).symm.trans hf
      refine lv_aload_n hx hb d_L_law_367 rfl (lv_at hl 5 rfl) ?_
      refine lv_iconst (v := 0) hx hb d_L_law_368 (by decide) ?_
      obtain ⟨z_11, hf⟩ := ju_gd hf
      refine va_lald hx hb (hK.sub [2] rfl) hPo 0 0 rfl rfl z_11 d_L_law_369 ?_
      refine lv_iload hx hb d_L_law_370 (lv_at hl 0 rfl) ?_
      refine lv_i2l (v := r_5.1.toInt64) hx hb d_L_law_372 rfl ?_
      refine W.lcmp hx hb d_L_law_373 ?_
      refine lv_if_eq (tgt := 379) hx hb d_L_law_374 (by decide) (fun c_12 => ?_) (fun c_12 => ?_)
      · replace hf := (if_pos c_12).symm.trans hf
        refine lv_goto (tgt := 776) hx hb d_L_law_379 (by decide) ?_
        obtain rfl := Option.some.inj hf
        refine W.widen (k := cells + 1) (n := slots + 6) (by omega) (by omega) ?_
        exact kk _ _ _ hPc hPm hPo hS (lv_sub hl [2, 3, 4, 5, 6] rfl)
      · replace hf := (if_neg c_12).symm.trans hf
        cases hf
  · replace hf := (if_neg c_9).symm.trans hf
    cases hf

def f_L_c5 (xs : Nat → Int32) (L : Nat) (i : Int32) (w_f : Nat → Int32) (w_n : Int32) (w_th : Int32) (w_pf : Nat → Int32) (w_of : Nat → Int32) (w_sz : Int32) (w_bg : Int32) (w_g : Nat → Int64) : Option ((Nat → Int32) × Int32 × Int32 × (Nat → Int32) × (Nat → Int32) × Int32 × Int32 × (Nat → Int64)) :=
  if (i + 1) < 0 ∨ L ≤ (i + 1).toNatClampNeg then none else (f_C_shorter (xs (i + 1).toNatClampNeg)).bind fun r_2 => if (i + 1) < 0 ∨ L ≤ (i + 1).toNatClampNeg then none else (f_M_shorter w_th w_pf w_of w_sz w_bg (xs (i + 1).toNatClampNeg)).bind fun r_5 => if r_2 = r_5.1 then (some (w_f, w_n, r_5.2.1, r_5.2.2.1, r_5.2.2.2.1, r_5.2.2.2.2.1, r_5.2.2.2.2.2, w_g)) else (none)
set_option maxHeartbeats 1000000 in
set_option maxRecDepth 100000 in
theorem lc_5 {p : Program} {l : Launch} {e : Env} {s : State} {m : MethodId} {below : List Frame} {meth : Method} {c : Code} {b L : Nat} {xs : Nat → Int32} (hfl : l.stackTraces = false) (C0 : lw_At p s m meth c b L xs) {ad sk sv : Nat → Nat} {tK : Nat} (dC : Nat → ClassId) (dI : Nat → Nat → Nat) {cA cI cL : ClassId} {h0 o h1 rw pt ou oa : Nat} (hT : tb ad sk sv tK (fun q => s.heap.size ≤ q) s s.heap) (hXb : xb (fun q => s.heap.size ≤ q) s s.heap) (hN : xN s) (hK : va_K (dC, dI) cls2 [(cA, .char), (cI, .int), (cL, .long)] s) (hd : lA s cA cI cL h0 o h1 rw pt ou oa) {cells slots : Nat} (hcs : cells + 1 ≤ 1038 ∧ slots + 6 ≤ 10775) (i : Int32) (w_f : Nat → Int32) (w_n : Int32) (w_th : Int32) (w_pf : Nat → Int32) (w_of : Nat → Int32) (w_sz : Int32) (w_bg : Int32) (w_g : Nat → Int64) (r : (Nat → Int32) × Int32 × Int32 × (Nat → Int32) × (Nat → Int32) × Int32 × Int32 × (Nat → Int64)) (hf : f_L_c5 xs L i w_f w_n w_th w_pf w_of w_sz w_bg w_g = some r)
    (kk : ∀ (H : Heap) (locs : List Loc) (ls : Array Slot), va_P (dC, dI) cls2 (wC cA h0 o r.1 r.2.1) H → va_P (dC, dI) cls2 (wM cI h1 rw pt ou r.2.2.1 mR r.2.2.2.1 r.2.2.2.2.1 r.2.2.2.2.2.1 r.2.2.2.2.2.2.1) H → va_P (dC, dI) cls2 (wO cL oa r.2.2.2.2.2.2.2) H → va_S (fun q => s.heap.size ≤ q) s.heap H locs → lv_has ls 7 [(0, .ref (b)), (1, .ref (h0)), (2, .ref (h1)), (3, .ref (oa)), (4, .int (i))] → W p l e room_1 s m #[Value.ref b] below meth c H locs (cells + 1) (slots + 6) (lw_Z below #[Value.ref b] s) (F0 m 776 ls []))
    (H : Heap) (locs : List Loc) (ls : Array Slot) (hPc : va_P (dC, dI) cls2 (wC cA h0 o w_f w_n) H) (hPm : va_P (dC, dI) cls2 (wM cI h1 rw pt ou w_th mR w_pf w_of w_sz w_bg) H) (hPo : va_P (dC, dI) cls2 (wO cL oa w_g) H) (hS : va_S (fun q => s.heap.size ≤ q) s.heap H locs) (hl : lv_has ls 7 [(0, .ref (b)), (1, .ref (h0)), (2, .ref (h1)), (3, .ref (oa)), (4, .int (i))]) : W p l e room_1 s m #[Value.ref b] below meth c H locs cells slots (lw_Z below #[Value.ref b] s) (F0 m 382 ls []) := by
  obtain ⟨hx, hb, hr, hml, hown, hts, hX, hbl, hlocks, hgv⟩ := C0
  have hown : s.vm.findClass "CodeWordsLaw" = some m.cls := hown
  have ht : ∀ {w : Cond}, w ∈ aw → w.before #[Value.ref b] s = true := fun h => hts _ (aw_tbl h)
  have hbA : ¬ (fun q : Nat => s.heap.size ≤ q) b := Nat.not_le.mpr hbl
  rw [f_L_c5] at hf
  refine lv_aload_n hx hb d_L_law_382 rfl (lv_at hl 1 rfl) ?_
  refine lv_aload_n hx hb d_L_law_383 rfl (lv_at hl 0 rfl) ?_
  refine lv_iload hx hb d_L_law_384 (lv_at hl 4 rfl) ?_
  refine lv_iconst (v := 1) hx hb d_L_law_386 (by decide) ?_
  refine lv_iadd hx hb d_L_law_387 ?_
  obtain ⟨z_1, hf⟩ := ju_gd hf
  refine va_sld hx hb hX hbl hbA hS z_1 d_L_law_388 ?_
  obtain ⟨r_2, g_3, hf⟩ := Option.bind_eq_some_iff.mp hf
  refine ju_calli (W.runV (As := [.int (xs (i + 1).toNatClampNeg)]) (rest := []) ⟨hx, hb, hml, hown, hts⟩ (c_C_shorter l (ad := ad) (sk := sk) (sv := sv) (tK := tK) h0 (xs (i + 1).toNatClampNeg) r_2 g_3) (cwV 1 hts (aw_VL aw_143 aw_144 aw_145 aw_1 aw_146) rfl rfl rfl (by decide +kernel) ⟨Nat.le_of_ble_eq_true rfl, Nat.le_of_ble_eq_true rfl⟩) ⟨fun a U g mk q => ⟨q.1, q.2.call⟩, va_recv (hK.sub (tys' := [(cA, .char)]) [0] rfl) hPc (ci := 0) (q0 := 0) rfl rfl, fun U hU hW => ⟨rfl, hT.at hS hU hW (fun _ z => z.elim)⟩⟩ rfl rfl hl.1 rfl (lv_room (Nat.le_of_ble_eq_true rfl)) d_L_law_389 ⟨(by have := hcs.1; show _ ≤ 1038; omega), (by have := hcs.2; show _ ≤ 10775; omega)⟩) ?_
  refine lv_aload_n hx hb d_L_law_392 rfl (lv_at hl 2 rfl) ?_
  refine lv_aload_n hx hb d_L_law_393 rfl (lv_at hl 0 rfl) ?_
  refine lv_iload hx hb d_L_law_394 (lv_at hl 4 rfl) ?_
  refine lv_iconst (v := 1) hx hb d_L_law_396 (by decide) ?_
  refine lv_iadd hx hb d_L_law_397 ?_
  obtain ⟨z_4, hf⟩ := ju_gd hf
  refine va_sld hx hb hX hbl hbA hS z_4 d_L_law_398 ?_
  obtain ⟨r_5, g_6, hf⟩ := Option.bind_eq_some_iff.mp hf
  refine va_calli (va_runV (As := [.int (xs (i + 1).toNatClampNeg)]) (rest := [.int (r_2)]) ⟨hx, hb, hml, hown, hts⟩ (c_M_shorter l (ad := ad) (sk := sk) (sv := sv) (tK := tK) dC dI cI h1 rw pt ou w_th w_pf w_of w_sz w_bg (xs (i + 1).toNatClampNeg) r_5 g_6) (cwV 1 hts (aw_VL aw_558 aw_559 aw_560 aw_2 aw_561) rfl rfl rfl (by decide +kernel) ⟨Nat.le_of_ble_eq_true rfl, Nat.le_of_ble_eq_true rfl⟩) ⟨wBlind, va_recv (hK.sub (tys' := [(cI, .int)]) [1] rfl) hPm (ci := 1) (q0 := 0) rfl rfl, fun U hU hW => ⟨rfl, by rw [hU]; exact hPm, va_K.moved hW.alike (hK.sub [1] rfl), dD hd.2.1 rfl, hT.at hS hU hW hd.2.2.2.2.1⟩⟩ rfl rfl hl.1 rfl (lv_room (Nat.le_of_ble_eq_true rfl)) d_L_law_399 ⟨(by have := hcs.1; show _ ≤ 1038; omega), (by have := hcs.2; show _ ≤ 10775; omega)⟩) hS (fun q _ z => hd.2.2.2.2.1 q z) hd.2.2.2.2.1 (fun v1 u t H1 locs1 ht1 hvm hw hB hz1 hk1 hS1 => ?_)
  obtain ⟨hw1, hw2⟩ := hw
  rw [hw1]
  rw [hw2] at hB
  rw [ht1] at hB
  have hPm' : va_P (dC, dI) cls2 (wM cI h1 rw pt ou r_5.2.1 mR r_5.2.2.1 r_5.2.2.2.1 r_5.2.2.2.2.1 r_5.2.2.2.2.2) H1 := hB
  have hPc' := lk hPc hk1 (fun k q hq _ z => hd.2.2.2.2.2.2.1 _ z ((dD (ws' := (wC cA h0 o w_f w_n)) hd.1 rfl).2 k q hq))
  have hPo' := lk hPo hk1 (fun k q hq _ z => hd.2.2.2.2.2.2.2.2 (by rw [← show q.1 = oa from (dD (ws' := (wO cL oa w_g)) hd.2.2.1 rfl).2 k q hq]; exact z))
  replace hPc := hPc'
  replace hPm := hPm'
  replace hPo := hPo'
  replace hS := hS1
  clear hPc' hPm' hPo' hS1 hB hk1 hz1
  generalize H1 = H at hPo hPc hPm hS ⊢
  generalize locs1 = locs at hS ⊢
  refine lv_icmp_eq (tgt := 776) hx hb d_L_law_402 (by decide) (fun c_7 => ?_) (fun c_7 => ?_)
  · replace hf := (if_pos c_7).symm.trans hf
    obtain rfl := Option.some.inj hf
    refine W.widen (k := cells + 1) (n := slots + 6) (by omega) (by omega) ?_
    exact kk _ _ _ hPc hPm hPo hS (lv_sub hl [0, 1, 2, 3, 4] rfl)
  · replace hf := (if_neg c_7).symm.trans hf
    cases hf

def f_L_c6 (xs : Nat → Int32) (L : Nat) (i : Int32) (w_f : Nat → Int32) (w_n : Int32) (w_th : Int32) (w_pf : Nat → Int32) (w_of : Nat → Int32) (w_sz : Int32) (w_bg : Int32) (w_g : Nat → Int64) : Option ((Nat → Int32) × Int32 × Int32 × (Nat → Int32) × (Nat → Int32) × Int32 × Int32 × (Nat → Int64)) :=
  if (i + 1) < 0 ∨ L ≤ (i + 1).toNatClampNeg then none else if (i + 2) < 0 ∨ L ≤ (i + 2).toNatClampNeg then none else if (i + 3) < 0 ∨ L ≤ (i + 3).toNatClampNeg then none else (f_L_fit w_g (xs (i + 1).toNatClampNeg) ((ju_lshl ((xs (i + 2).toNatClampNeg).toInt64) 32) ||| (((xs (i + 3).toNatClampNeg).toInt64) &&& 4294967295))).bind fun r_4 => if (i + 1) < 0 ∨ L ≤ (i + 1).toNatClampNeg then none else if (i + 2) < 0 ∨ L ≤ (i + 2).toNatClampNeg then none else if (i + 3) < 0 ∨ L ≤ (i + 3).toNatClampNeg then none else (f_M_fit w_th w_pf w_of w_sz w_bg (xs (i + 1).toNatClampNeg) ((ju_lshl ((xs (i + 2).toNatClampNeg).toInt64) 32) ||| (((xs (i + 3).toNatClampNeg).toInt64) &&& 4294967295))).bind fun r_9 => (f_M_thrown r_9.2.1 r_9.2.2.1 r_9.2.2.2.1 r_9.2.2.2.2.1 r_9.2.2.2.2.2 ).bind fun r_11 => if r_11 = r_4.1 then (if r_4.1 = 0 then (if (0 : Int32) < 0 ∨ 1 ≤ (0 : Int32).toNatClampNeg then none else if (lg_cmp (r_4.2 (0 : Int32).toNatClampNeg) r_9.1.toInt64) = 0 then (some (w_f, w_n, r_9.2.1, r_9.2.2.1, r_9.2.2.2.1, r_9.2.2.2.2.1, r_9.2.2.2.2.2, r_4.2)) else (none)) else (some (w_f, w_n, r_9.2.1, r_9.2.2.1, r_9.2.2.2.1, r_9.2.2.2.2.1, r_9.2.2.2.2.2, r_4.2))) else (none)
set_option maxHeartbeats 1000000 in
set_option maxRecDepth 100000 in
theorem lc_6 {p : Program} {l : Launch} {e : Env} {s : State} {m : MethodId} {below : List Frame} {meth : Method} {c : Code} {b L : Nat} {xs : Nat → Int32} (hfl : l.stackTraces = false) (C0 : lw_At p s m meth c b L xs) {ad sk sv : Nat → Nat} {tK : Nat} (dC : Nat → ClassId) (dI : Nat → Nat → Nat) {cA cI cL : ClassId} {h0 o h1 rw pt ou oa : Nat} (hT : tb ad sk sv tK (fun q => s.heap.size ≤ q) s s.heap) (hXb : xb (fun q => s.heap.size ≤ q) s s.heap) (hN : xN s) (hK : va_K (dC, dI) cls2 [(cA, .char), (cI, .int), (cL, .long)] s) (hd : lA s cA cI cL h0 o h1 rw pt ou oa) {cells slots : Nat} (hcs : cells + 1 ≤ 1038 ∧ slots + 6 ≤ 10775) (i : Int32) (w_f : Nat → Int32) (w_n : Int32) (w_th : Int32) (w_pf : Nat → Int32) (w_of : Nat → Int32) (w_sz : Int32) (w_bg : Int32) (w_g : Nat → Int64) (r : (Nat → Int32) × Int32 × Int32 × (Nat → Int32) × (Nat → Int32) × Int32 × Int32 × (Nat → Int64)) (hf : f_L_c6 xs L i w_f w_n w_th w_pf w_of w_sz w_bg w_g = some r)
    (kk : ∀ (H : Heap) (locs : List Loc) (ls : Array Slot), va_P (dC, dI) cls2 (wC cA h0 o r.1 r.2.1) H → va_P (dC, dI) cls2 (wM cI h1 rw pt ou r.2.2.1 mR r.2.2.2.1 r.2.2.2.2.1 r.2.2.2.2.2.1 r.2.2.2.2.2.2.1) H → va_P (dC, dI) cls2 (wO cL oa r.2.2.2.2.2.2.2) H → va_S (fun q => s.heap.size ≤ q) s.heap H locs → lv_has ls 7 [(0, .ref (b)), (1, .ref (h0)), (2, .ref (h1)), (3, .ref (oa)), (4, .int (i))] → W p l e room_1 s m #[Value.ref b] below meth c H locs (cells + 1) (slots + 6) (lw_Z below #[Value.ref b] s) (F0 m 776 ls []))
    (H : Heap) (locs : List Loc) (ls : Array Slot) (hPc : va_P (dC, dI) cls2 (wC cA h0 o w_f w_n) H) (hPm : va_P (dC, dI) cls2 (wM cI h1 rw pt ou w_th mR w_pf w_of w_sz w_bg) H) (hPo : va_P (dC, dI) cls2 (wO cL oa w_g) H) (hS : va_S (fun q => s.heap.size ≤ q) s.heap H locs) (hl : lv_has ls 7 [(0, .ref (b)), (1, .ref (h0)), (2, .ref (h1)), (3, .ref (oa)), (4, .int (i))]) : W p l e room_1 s m #[Value.ref b] below meth c H locs cells slots (lw_Z below #[Value.ref b] s) (F0 m 407 ls []) := by
  obtain ⟨hx, hb, hr, hml, hown, hts, hX, hbl, hlocks, hgv⟩ := C0
  have hown : s.vm.findClass "CodeWordsLaw" = some m.cls := hown
  have ht : ∀ {w : Cond}, w ∈ aw → w.before #[Value.ref b] s = true := fun h => hts _ (aw_tbl h)
  have hbA : ¬ (fun q : Nat => s.heap.size ≤ q) b := Nat.not_le.mpr hbl
  rw [f_L_c6] at hf
  refine lv_aload_n hx hb d_L_law_407 rfl (lv_at hl 1 rfl) ?_
  refine lv_aload_n hx hb d_L_law_408 rfl (lv_at hl 0 rfl) ?_
  refine lv_iload hx hb d_L_law_409 (lv_at hl 4 rfl) ?_
  refine lv_iconst (v := 1) hx hb d_L_law_411 (by decide) ?_
  refine lv_iadd hx hb d_L_law_412 ?_
  obtain ⟨z_1, hf⟩ := ju_gd hf
  refine va_sld hx hb hX hbl hbA hS z_1 d_L_law_413 ?_
  refine lv_aload_n hx hb d_L_law_414 rfl (lv_at hl 0 rfl) ?_
  refine lv_iload hx hb d_L_law_415 (lv_at hl 4 rfl) ?_
  refine lv_iconst (v := 2) hx hb d_L_law_417 (by decide) ?_
  refine lv_iadd hx hb d_L_law_418 ?_
  obtain ⟨z_2, hf⟩ := ju_gd hf
  refine va_sld hx hb hX hbl hbA hS z_2 d_L_law_419 ?_
  refine lv_i2l (v := (xs (i + 2).toNatClampNeg).toInt64) hx hb d_L_law_420 rfl ?_
  refine lv_bipush (v := 32) hx hb d_L_law_421 (by decide) ?_
  refine lv_lshl (v := ju_lshl ((xs (i + 2).toNatClampNeg).toInt64) 32) hx hb d_L_law_423 rfl ?_
  refine lv_aload_n hx hb d_L_law_424 rfl (lv_at hl 0 rfl) ?_
  refine lv_iload hx hb d_L_law_425 (lv_at hl 4 rfl) ?_
  refine lv_iconst (v := 3) hx hb d_L_law_427 (by decide) ?_
  refine lv_iadd hx hb d_L_law_428 ?_
  obtain ⟨z_3, hf⟩ := ju_gd hf
  refine va_sld hx hb hX hbl hbA hS z_3 d_L_law_429 ?_
  refine lv_i2l (v := (xs (i + 3).toNatClampNeg).toInt64) hx hb d_L_law_430 rfl ?_
  refine lv_ldc2 (v := 4294967295) hx hb hown (ht aw_759) d_L_law_431 ?_
  refine lv_land hx hb d_L_law_434 ?_
  refine lv_lor hx hb d_L_law_435 ?_
  refine lv_aload_n hx hb d_L_law_436 rfl (lv_at hl 3 rfl) ?_
  obtain ⟨r_4, g_5, hf⟩ := Option.bind_eq_some_iff.mp hf
  refine va_calli (xl_runS (As := [.ref (h0), .int (xs (i + 1).toNatClampNeg), .long ((ju_lshl ((xs (i + 2).toNatClampNeg).toInt64) 32) ||| (((xs (i + 3).toNatClampNeg).toInt64) &&& 4294967295)), .ref (oa)]) (rest := []) (n := 4) (hh := [(0, 11, 14, 15)]) ⟨hx, hb, hml, hown, hts⟩ (c_L_fit l hfl (ad := ad) (sk := sk) (sv := sv) (tK := tK) dC dI cL h0 oa H.size w_g (fun q => q = oa ∨ H.size ≤ q) (xs (i + 1).toNatClampNeg) ((ju_lshl ((xs (i + 2).toNatClampNeg).toInt64) 32) ||| (((xs (i + 3).toNatClampNeg).toInt64) &&& 4294967295)) r_4 g_5) rfl rfl ⟨Nat.le_of_ble_eq_true rfl, Nat.le_of_ble_eq_true rfl⟩ (aw_CL aw_379 hts) List.mem_cons_self (ht aw_379) (ht aw_0) (by decide) (fun sig h => ju_len h (by decide +kernel)) (ht aw_377) (ht aw_378) ⟨xPc_blind, fun U hU hW => ⟨rfl, by rw [hU], by rw [hU]; exact hPo, va_K.moved hW.alike (hK.sub [2] rfl), dD (ws := wO cL oa (fun _ => 0)) ⟨hd.2.2.1.1, fun k q hq => Or.inl (hd.2.2.1.2 k q hq)⟩ rfl, fun q z => Or.inr z, (by rw [hU]; obtain ⟨cl9, h91, h92, h93⟩ := va_recv (hK.sub (tys' := [(cA, .char)]) [0] rfl) hPc (ci := 0) (q0 := 0) rfl rfl; exact ⟨cl9, h91, h92, by rw [hW.alike.findClass]; exact h93⟩), hT.at hS hU hW (fun q z => z.elim (fun z => by rw [z]; exact hd.2.2.2.2.2.1) (fun z => Nat.le_trans hS.1 z)), hXb.at hS hU hW (fun q z => z.elim (fun z => by rw [z]; exact hd.2.2.2.2.2.1) (fun z => Nat.le_trans hS.1 z)), va_Nw.warmC hW hN.1, va_Nw.warmC hW hN.2.1, va_Nw.warmC hW hN.2.2.1, va_Nc.moved hW.alike hN.2.2.2⟩⟩ rfl rfl hl.1 rfl (lv_room (Nat.le_of_ble_eq_true rfl)) d_L_law_437 ⟨(by have := hcs.1; show _ ≤ 1038; omega), (by have := hcs.2; show _ ≤ 10775; omega)⟩) hS (fun q _ z => z.elim (fun z => by rw [z]; exact hd.2.2.2.2.2.1) (fun z => Nat.le_trans hS.1 z)) (fun q z => z.elim (fun z => by rw [z]; exact hd.2.2.2.2.2.1) (fun z => Nat.le_trans hS.1 z)) (fun v1 u t H1 locs1 ht1 hvm hw hB hz1 hk1 hS1 => ?_)
  obtain ⟨hw1, hw2⟩ := hw
  rw [hw1]
  rw [hw2] at hB
  rw [ht1] at hB
  have hPo : va_P (dC, dI) cls2 (wO cL oa r_4.2) H1 := hB
  have hPc := lk hPc hk1 (fun k q hq hlt z => z.elim (fun z => hd.2.2.2.2.2.2.2.1 (by rw [← z]; exact (dD (ws' := (wC cA h0 o w_f w_n)) hd.1 rfl).2 k q hq)) (fun z => Nat.not_lt.mpr z hlt))
  have hPm := lk hPm hk1 (fun k q hq hlt z => z.elim (fun z => hd.2.2.2.2.2.2.2.2 (by rw [← z]; exact (dD (ws' := (wM cI h1 rw pt ou w_th mR w_pf w_of w_sz w_bg)) hd.2.1 rfl).2 k q hq)) (fun z => Nat.not_lt.mpr z hlt))
  have hS := hS1
  clear hS1
  generalize H1 = H at hPo hPc hPm hS ⊢
  generalize locs1 = locs at hS ⊢
  refine lv_istore (lv' := [(5, .int (r_4.1)), (0, .ref (b)), (1, .ref (h0)), (2, .ref (h1)), (3, .ref (oa)), (4, .int (i))]) hx hb d_L_law_440 hl (by decide) rfl (fun ls hl => ?_)
  refine lv_aload_n hx hb d_L_law_442 rfl (lv_at hl 3 rfl) ?_
  refine lv_aload_n hx hb d_L_law_443 rfl (lv_at hl 1 rfl) ?_
  refine lv_iload hx hb d_L_law_444 (lv_at hl 5 rfl) ?_
  refine lv_iconst (v := 1) hx hb d_L_law_446 (by decide) ?_
  refine lv_iadd hx hb d_L_law_447 ?_
  obtain ⟨z_6, hf⟩ := ju_gd hf
  refine va_sld hx hb hX hbl hbA hS z_6 d_L_law_448 ?_
  refine lv_aload_n hx hb d_L_law_449 rfl (lv_at hl 1 rfl) ?_
  refine lv_iload hx hb d_L_law_450 (lv_at hl 5 rfl) ?_
  refine lv_iconst (v := 2) hx hb d_L_law_452 (by decide) ?_
  refine lv_iadd hx hb d_L_law_453 ?_
  obtain ⟨z_7, hf⟩ := ju_gd hf
  refine va_sld hx hb hX hbl hbA hS z_7 d_L_law_454 ?_
  refine lv_i2l (v := (xs (i + 2).toNatClampNeg).toInt64) hx hb d_L_law_455 rfl ?_
  refine lv_bipush (v := 32) hx hb d_L_law_456 (by decide) ?_
  refine lv_lshl (v := ju_lshl ((xs (i + 2).toNatClampNeg).toInt64) 32) hx hb d_L_law_458 rfl ?_
  refine lv_aload_n hx hb d_L_law_459 rfl (lv_at hl 1 rfl) ?_
  refine lv_iload hx hb d_L_law_460 (lv_at hl 5 rfl) ?_
  refine lv_iconst (v := 3) hx hb d_L_law_462 (by decide) ?_
  refine lv_iadd hx hb d_L_law_463 ?_
  obtain ⟨z_8, hf⟩ := ju_gd hf
  refine va_sld hx hb hX hbl hbA hS z_8 d_L_law_464 ?_
  refine lv_i2l (v := (xs (i + 3).toNatClampNeg).toInt64) hx hb d_L_law_465 rfl ?_
  refine lv_ldc2 (v := 4294967295) hx hb hown (ht aw_759) d_L_law_466 ?_
  refine lv_land hx hb d_L_law_469 ?_
  refine lv_lor hx hb d_L_law_470 ?_
  obtain ⟨r_9, g_10, hf⟩ := Option.bind_eq_some_iff.mp hf
  refine va_calli (va_runV (As := [.int (xs (i + 1).toNatClampNeg), .long ((ju_lshl ((xs (i + 2).toNatClampNeg).toInt64) 32) ||| (((xs (i + 3).toNatClampNeg).toInt64) &&& 4294967295))]) (rest := []) ⟨hx, hb, hml, hown, hts⟩ (c_M_fit l (ad := ad) (sk := sk) (sv := sv) (tK := tK) dC dI cI h1 rw pt ou w_th w_pf w_of w_sz w_bg (xs (i + 1).toNatClampNeg) ((ju_lshl ((xs (i + 2).toNatClampNeg).toInt64) 32) ||| (((xs (i + 3).toNatClampNeg).toInt64) &&& 4294967295)) r_9 g_10) (cwV 2 hts (aw_VL aw_570 aw_571 aw_572 aw_2 aw_573) rfl rfl rfl (by decide +kernel) ⟨Nat.le_of_ble_eq_true rfl, Nat.le_of_ble_eq_true rfl⟩) ⟨wBlind, va_recv (hK.sub (tys' := [(cI, .int)]) [1] rfl) hPm (ci := 1) (q0 := 0) rfl rfl, fun U hU hW => ⟨rfl, by rw [hU]; exact hPm, va_K.moved hW.alike (hK.sub [1] rfl), dD hd.2.1 rfl, hT.at hS hU hW hd.2.2.2.2.1⟩⟩ rfl rfl hl.1 rfl (lv_room (Nat.le_of_ble_eq_true rfl)) d_L_law_471 ⟨(by have := hcs.1; show _ ≤ 1038; omega), (by have := hcs.2; show _ ≤ 10775; omega)⟩) hS (fun q _ z => hd.2.2.2.2.1 q z) hd.2.2.2.2.1 (fun v1 u t H1 locs1 ht1 hvm hw hB hz1 hk1 hS1 => ?_)
  obtain ⟨hw1, hw2⟩ := hw
  rw [hw1]
  rw [hw2] at hB
  rw [ht1] at hB
  have hPm' : va_P (dC, dI) cls2 (wM cI h1 rw pt ou r_9.2.1 mR r_9.2.2.1 r_9.2.2.2.1 r_9.2.2.2.2.1 r_9.2.2.2.2.2) H1 := hB
  have hPc' := lk hPc hk1 (fun k q hq _ z => hd.2.2.2.2.2.2.1 _ z ((dD (ws' := (wC cA h0 o w_f w_n)) hd.1 rfl).2 k q hq))
  have hPo' := lk hPo hk1 (fun k q hq _ z => hd.2.2.2.2.2.2.2.2 (by rw [← show q.1 = oa from (dD (ws' := (wO cL oa r_4.2)) hd.2.2.1 rfl).2 k q hq]; exact z))
  replace hPc := hPc'
  replace hPm := hPm'
  replace hPo := hPo'
  replace hS := hS1
  clear hPc' hPm' hPo' hS1 hB hk1 hz1
  generalize H1 = H at hPo hPc hPm hS ⊢
  generalize locs1 = locs at hS ⊢
  refine lv_istore (lv' := [(6, .int (r_9.1)), (5, .int (r_4.1)), (0, .ref (b)), (1, .ref (h0)), (2, .ref (h1)), (3, .ref (oa)), (4, .int (i))]) hx hb d_L_law_474 hl (by decide) rfl (fun ls hl => ?_)
  refine lv_aload_n hx hb d_L_law_476 rfl (lv_at hl 4 rfl) ?_
  obtain ⟨r_11, g_12, hf⟩ := Option.bind_eq_some_iff.mp hf
  refine ju_calli (W.runV (As := []) (rest := []) ⟨hx, hb, hml, hown, hts⟩ (c_M_thrown l (ad := ad) (sk := sk) (sv := sv) (tK := tK) dC dI cI h1 rw pt ou r_9.2.1 r_9.2.2.1 r_9.2.2.2.1 r_9.2.2.2.2.1 r_9.2.2.2.2.2  r_11 g_12) (cwV 0 hts (aw_VL aw_459 aw_460 aw_461 aw_2 aw_462) rfl rfl rfl (by decide +kernel) ⟨Nat.le_of_ble_eq_true rfl, Nat.le_of_ble_eq_true rfl⟩) ⟨wBlind, va_recv (hK.sub (tys' := [(cI, .int)]) [1] rfl) hPm (ci := 1) (q0 := 0) rfl rfl, fun U hU hW => ⟨rfl, by rw [hU]; exact hPm, va_K.moved hW.alike (hK.sub [1] rfl), dD hd.2.1 rfl, hT.at hS hU hW hd.2.2.2.2.1⟩⟩ rfl rfl hl.1 rfl (lv_room (Nat.le_of_ble_eq_true rfl)) d_L_law_477 ⟨(by have := hcs.1; show _ ≤ 1038; omega), (by have := hcs.2; show _ ≤ 10775; omega)⟩) ?_
  refine lv_iload hx hb d_L_law_480 (lv_at hl 1 rfl) ?_
  refine lv_icmp_eq (tgt := 487) hx hb d_L_law_482 (by decide) (fun c_13 => ?_) (fun c_13 => ?_)
  · replace hf := (if_pos c_13).symm.trans hf
    refine lv_iload hx hb d_L_law_487 (lv_at hl 1 rfl) ?_
    refine lv_if_ne (tgt := 504) hx hb d_L_law_489 (by decide) (fun c_14 => ?_) (fun c_14 => ?_)
    · replace hf := (if_neg c_14).symm.trans hf
      refine lv_goto (tgt := 776) hx hb d_L_law_504 (by decide) ?_
      obtain rfl := Option.some.inj hf
      refine W.widen (k := cells + 1) (n := slots + 6) (by omega) (by omega) ?_
      exact kk _ _ _ hPc hPm hPo hS (lv_sub hl [2, 3, 4, 5, 6] rfl)
    · replace hf := (if_pos c_14).symm.trans hf
      refine lv_aload_n hx hb d_L_law_492 rfl (lv_at hl 5 rfl) ?_
      refine lv_iconst (v := 0) hx hb d_L_law_493 (by decide) ?_
      obtain ⟨z_15, hf⟩ := ju_gd hf
      refine va_lald hx hb (hK.sub [2] rfl) hPo 0 0 rfl rfl z_15 d_L_law_494 ?_
      refine lv_iload hx hb d_L_law_495 (lv_at hl 0 rfl) ?_
      refine lv_i2l (v := r_9.1.toInt64) hx hb d_L_law_497 rfl ?_
      refine W.lcmp hx hb d_L_law_498 ?_
      refine lv_if_eq (tgt := 504) hx hb d_L_law_499 (by decide) (fun c_16 => ?_) (fun c_16 => ?_)
      · replace hf := (if_pos c_16).symm.trans hf
        refine lv_goto (tgt := 776) hx hb d_L_law_504 (by decide) ?_
        obtain rfl := Option.some.inj hf
        refine W.widen (k := cells + 1) (n := slots + 6) (by omega) (by omega) ?_
        exact kk _ _ _ hPc hPm hPo hS (lv_sub hl [2, 3, 4, 5, 6] rfl)
      · replace hf := (if_neg c_16).symm.trans hf
        cases hf
  · replace hf := (if_neg c_13).symm.trans hf
    cases hf

def f_L_c7 (xs : Nat → Int32) (L : Nat) (i : Int32) (w_f : Nat → Int32) (w_n : Int32) (w_th : Int32) (w_pf : Nat → Int32) (w_of : Nat → Int32) (w_sz : Int32) (w_bg : Int32) (w_g : Nat → Int64) : Option ((Nat → Int32) × Int32 × Int32 × (Nat → Int32) × (Nat → Int32) × Int32 × Int32 × (Nat → Int64)) :=
  if (i + 1) < 0 ∨ L ≤ (i + 1).toNatClampNeg then none else if (i + 2) < 0 ∨ L ≤ (i + 2).toNatClampNeg then none else if (i + 3) < 0 ∨ L ≤ (i + 3).toNatClampNeg then none else (f_C_may (xs (i + 1).toNatClampNeg) ((ju_lshl ((xs (i + 2).toNatClampNeg).toInt64) 32) ||| (((xs (i + 3).toNatClampNeg).toInt64) &&& 4294967295))).bind fun r_4 => if (i + 1) < 0 ∨ L ≤ (i + 1).toNatClampNeg then none else if (i + 2) < 0 ∨ L ≤ (i + 2).toNatClampNeg then none else if (i + 3) < 0 ∨ L ≤ (i + 3).toNatClampNeg then none else (f_M_may w_th w_pf w_of w_sz w_bg (xs (i + 1).toNatClampNeg) ((ju_lshl ((xs (i + 2).toNatClampNeg).toInt64) 32) ||| (((xs (i + 3).toNatClampNeg).toInt64) &&& 4294967295))).bind fun r_9 => if (bI r_4) = (bI r_9.1) then (some (w_f, w_n, r_9.2.1, r_9.2.2.1, r_9.2.2.2.1, r_9.2.2.2.2.1, r_9.2.2.2.2.2, w_g)) else (none)
set_option maxHeartbeats 1000000 in
set_option maxRecDepth 100000 in
theorem lc_7 {p : Program} {l : Launch} {e : Env} {s : State} {m : MethodId} {below : List Frame} {meth : Method} {c : Code} {b L : Nat} {xs : Nat → Int32} (hfl : l.stackTraces = false) (C0 : lw_At p s m meth c b L xs) {ad sk sv : Nat → Nat} {tK : Nat} (dC : Nat → ClassId) (dI : Nat → Nat → Nat) {cA cI cL : ClassId} {h0 o h1 rw pt ou oa : Nat} (hT : tb ad sk sv tK (fun q => s.heap.size ≤ q) s s.heap) (hXb : xb (fun q => s.heap.size ≤ q) s s.heap) (hN : xN s) (hK : va_K (dC, dI) cls2 [(cA, .char), (cI, .int), (cL, .long)] s) (hd : lA s cA cI cL h0 o h1 rw pt ou oa) {cells slots : Nat} (hcs : cells + 1 ≤ 1038 ∧ slots + 6 ≤ 10775) (i : Int32) (w_f : Nat → Int32) (w_n : Int32) (w_th : Int32) (w_pf : Nat → Int32) (w_of : Nat → Int32) (w_sz : Int32) (w_bg : Int32) (w_g : Nat → Int64) (r : (Nat → Int32) × Int32 × Int32 × (Nat → Int32) × (Nat → Int32) × Int32 × Int32 × (Nat → Int64)) (hf : f_L_c7 xs L i w_f w_n w_th w_pf w_of w_sz w_bg w_g = some r)
    (kk : ∀ (H : Heap) (locs : List Loc) (ls : Array Slot), va_P (dC, dI) cls2 (wC cA h0 o r.1 r.2.1) H → va_P (dC, dI) cls2 (wM cI h1 rw pt ou r.2.2.1 mR r.2.2.2.1 r.2.2.2.2.1 r.2.2.2.2.2.1 r.2.2.2.2.2.2.1) H → va_P (dC, dI) cls2 (wO cL oa r.2.2.2.2.2.2.2) H → va_S (fun q => s.heap.size ≤ q) s.heap H locs → lv_has ls 7 [(0, .ref (b)), (1, .ref (h0)), (2, .ref (h1)), (3, .ref (oa)), (4, .int (i))] → W p l e room_1 s m #[Value.ref b] below meth c H locs (cells + 1) (slots + 6) (lw_Z below #[Value.ref b] s) (F0 m 776 ls []))
    (H : Heap) (locs : List Loc) (ls : Array Slot) (hPc : va_P (dC, dI) cls2 (wC cA h0 o w_f w_n) H) (hPm : va_P (dC, dI) cls2 (wM cI h1 rw pt ou w_th mR w_pf w_of w_sz w_bg) H) (hPo : va_P (dC, dI) cls2 (wO cL oa w_g) H) (hS : va_S (fun q => s.heap.size ≤ q) s.heap H locs) (hl : lv_has ls 7 [(0, .ref (b)), (1, .ref (h0)), (2, .ref (h1)), (3, .ref (oa)), (4, .int (i))]) : W p l e room_1 s m #[Value.ref b] below meth c H locs cells slots (lw_Z below #[Value.ref b] s) (F0 m 507 ls []) := by
  obtain ⟨hx, hb, hr, hml, hown, hts, hX, hbl, hlocks, hgv⟩ := C0
  have hown : s.vm.findClass "CodeWordsLaw" = some m.cls := hown
  have ht : ∀ {w : Cond}, w ∈ aw → w.before #[Value.ref b] s = true := fun h => hts _ (aw_tbl h)
  have hbA : ¬ (fun q : Nat => s.heap.size ≤ q) b := Nat.not_le.mpr hbl
  rw [f_L_c7] at hf
  refine lv_aload_n hx hb d_L_law_507 rfl (lv_at hl 1 rfl) ?_
  refine lv_aload_n hx hb d_L_law_508 rfl (lv_at hl 0 rfl) ?_
  refine lv_iload hx hb d_L_law_509 (lv_at hl 4 rfl) ?_
  refine lv_iconst (v := 1) hx hb d_L_law_511 (by decide) ?_
  refine lv_iadd hx hb d_L_law_512 ?_
  obtain ⟨z_1, hf⟩ := ju_gd hf
  refine va_sld hx hb hX hbl hbA hS z_1 d_L_law_513 ?_
  refine lv_aload_n hx hb d_L_law_514 rfl (lv_at hl 0 rfl) ?_
  refine lv_iload hx hb d_L_law_515 (lv_at hl 4 rfl) ?_
  refine lv_iconst (v := 2) hx hb d_L_law_517 (by decide) ?_
  refine lv_iadd hx hb d_L_law_518 ?_
  obtain ⟨z_2, hf⟩ := ju_gd hf
  refine va_sld hx hb hX hbl hbA hS z_2 d_L_law_519 ?_
  refine lv_i2l (v := (xs (i + 2).toNatClampNeg).toInt64) hx hb d_L_law_520 rfl ?_
  refine lv_bipush (v := 32) hx hb d_L_law_521 (by decide) ?_
  refine lv_lshl (v := ju_lshl ((xs (i + 2).toNatClampNeg).toInt64) 32) hx hb d_L_law_523 rfl ?_
  refine lv_aload_n hx hb d_L_law_524 rfl (lv_at hl 0 rfl) ?_
  refine lv_iload hx hb d_L_law_525 (lv_at hl 4 rfl) ?_
  refine lv_iconst (v := 3) hx hb d_L_law_527 (by decide) ?_
  refine lv_iadd hx hb d_L_law_528 ?_
  obtain ⟨z_3, hf⟩ := ju_gd hf
  refine va_sld hx hb hX hbl hbA hS z_3 d_L_law_529 ?_
  refine lv_i2l (v := (xs (i + 3).toNatClampNeg).toInt64) hx hb d_L_law_530 rfl ?_
  refine lv_ldc2 (v := 4294967295) hx hb hown (ht aw_759) d_L_law_531 ?_
  refine lv_land hx hb d_L_law_534 ?_
  refine lv_lor hx hb d_L_law_535 ?_
  obtain ⟨r_4, g_5, hf⟩ := Option.bind_eq_some_iff.mp hf
  refine ju_calli (W.runV (As := [.int (xs (i + 1).toNatClampNeg), .long ((ju_lshl ((xs (i + 2).toNatClampNeg).toInt64) 32) ||| (((xs (i + 3).toNatClampNeg).toInt64) &&& 4294967295))]) (rest := []) ⟨hx, hb, hml, hown, hts⟩ (c_C_may l (ad := ad) (sk := sk) (sv := sv) (tK := tK) h0 (xs (i + 1).toNatClampNeg) ((ju_lshl ((xs (i + 2).toNatClampNeg).toInt64) 32) ||| (((xs (i + 3).toNatClampNeg).toInt64) &&& 4294967295)) r_4 g_5) (cwV 2 hts (aw_VL aw_180 aw_181 aw_182 aw_1 aw_183) rfl rfl rfl (by decide +kernel) ⟨Nat.le_of_ble_eq_true rfl, Nat.le_of_ble_eq_true rfl⟩) ⟨fun a U g mk q => ⟨q.1, q.2.call⟩, va_recv (hK.sub (tys' := [(cA, .char)]) [0] rfl) hPc (ci := 0) (q0 := 0) rfl rfl, fun U hU hW => ⟨rfl, hT.at hS hU hW (fun _ z => z.elim)⟩⟩ rfl rfl hl.1 rfl (lv_room (Nat.le_of_ble_eq_true rfl)) d_L_law_536 ⟨(by have := hcs.1; show _ ≤ 1038; omega), (by have := hcs.2; show _ ≤ 10775; omega)⟩) ?_
  refine lv_aload_n hx hb d_L_law_539 rfl (lv_at hl 2 rfl) ?_
  refine lv_aload_n hx hb d_L_law_540 rfl (lv_at hl 0 rfl) ?_
  refine lv_iload hx hb d_L_law_541 (lv_at hl 4 rfl) ?_
  refine lv_iconst (v := 1) hx hb d_L_law_543 (by decide) ?_
  refine lv_iadd hx hb d_L_law_544 ?_
  obtain ⟨z_6, hf⟩ := ju_gd hf
  refine va_sld hx hb hX hbl hbA hS z_6 d_L_law_545 ?_
  refine lv_aload_n hx hb d_L_law_546 rfl (lv_at hl 0 rfl) ?_
  refine lv_iload hx hb d_L_law_547 (lv_at hl 4 rfl) ?_
  refine lv_iconst (v := 2) hx hb d_L_law_549 (by decide) ?_
  refine lv_iadd hx hb d_L_law_550 ?_
  obtain ⟨z_7, hf⟩ := ju_gd hf
  refine va_sld hx hb hX hbl hbA hS z_7 d_L_law_551 ?_
  refine lv_i2l (v := (xs (i + 2).toNatClampNeg).toInt64) hx hb d_L_law_552 rfl ?_
  refine lv_bipush (v := 32) hx hb d_L_law_553 (by decide) ?_
  refine lv_lshl (v := ju_lshl ((xs (i + 2).toNatClampNeg).toInt64) 32) hx hb d_L_law_555 rfl ?_
  refine lv_aload_n hx hb d_L_law_556 rfl (lv_at hl 0 rfl) ?_
  refine lv_iload hx hb d_L_law_557 (lv_at hl 4 rfl) ?_
  refine lv_iconst (v := 3) hx hb d_L_law_559 (by decide) ?_
  refine lv_iadd hx hb d_L_law_560 ?_
  obtain ⟨z_8, hf⟩ := ju_gd hf
  refine va_sld hx hb hX hbl hbA hS z_8 d_L_law_561 ?_
  refine lv_i2l (v := (xs (i + 3).toNatClampNeg).toInt64) hx hb d_L_law_562 rfl ?_
  refine lv_ldc2 (v := 4294967295) hx hb hown (ht aw_759) d_L_law_563 ?_
  refine lv_land hx hb d_L_law_566 ?_
  refine lv_lor hx hb d_L_law_567 ?_
  obtain ⟨r_9, g_10, hf⟩ := Option.bind_eq_some_iff.mp hf
  refine va_calli (va_runV (As := [.int (xs (i + 1).toNatClampNeg), .long ((ju_lshl ((xs (i + 2).toNatClampNeg).toInt64) 32) ||| (((xs (i + 3).toNatClampNeg).toInt64) &&& 4294967295))]) (rest := [.int (bI r_4)]) ⟨hx, hb, hml, hown, hts⟩ (c_M_may l (ad := ad) (sk := sk) (sv := sv) (tK := tK) dC dI cI h1 rw pt ou w_th w_pf w_of w_sz w_bg (xs (i + 1).toNatClampNeg) ((ju_lshl ((xs (i + 2).toNatClampNeg).toInt64) 32) ||| (((xs (i + 3).toNatClampNeg).toInt64) &&& 4294967295)) r_9 g_10) (cwV 2 hts (aw_VL aw_566 aw_567 aw_568 aw_2 aw_569) rfl rfl rfl (by decide +kernel) ⟨Nat.le_of_ble_eq_true rfl, Nat.le_of_ble_eq_true rfl⟩) ⟨wBlind, va_recv (hK.sub (tys' := [(cI, .int)]) [1] rfl) hPm (ci := 1) (q0 := 0) rfl rfl, fun U hU hW => ⟨rfl, by rw [hU]; exact hPm, va_K.moved hW.alike (hK.sub [1] rfl), dD hd.2.1 rfl, hT.at hS hU hW hd.2.2.2.2.1⟩⟩ rfl rfl hl.1 rfl (lv_room (Nat.le_of_ble_eq_true rfl)) d_L_law_568 ⟨(by have := hcs.1; show _ ≤ 1038; omega), (by have := hcs.2; show _ ≤ 10775; omega)⟩) hS (fun q _ z => hd.2.2.2.2.1 q z) hd.2.2.2.2.1 (fun v1 u t H1 locs1 ht1 hvm hw hB hz1 hk1 hS1 => ?_)
  obtain ⟨hw1, hw2⟩ := hw
  rw [hw1]
  rw [hw2] at hB
  rw [ht1] at hB
  have hPm' : va_P (dC, dI) cls2 (wM cI h1 rw pt ou r_9.2.1 mR r_9.2.2.1 r_9.2.2.2.1 r_9.2.2.2.2.1 r_9.2.2.2.2.2) H1 := hB
  have hPc' := lk hPc hk1 (fun k q hq _ z => hd.2.2.2.2.2.2.1 _ z ((dD (ws' := (wC cA h0 o w_f w_n)) hd.1 rfl).2 k q hq))
  have hPo' := lk hPo hk1 (fun k q hq _ z => hd.2.2.2.2.2.2.2.2 (by rw [← show q.1 = oa from (dD (ws' := (wO cL oa w_g)) hd.2.2.1 rfl).2 k q hq]; exact z))
  replace hPc := hPc'
  replace hPm := hPm'
  replace hPo := hPo'
  replace hS := hS1
  clear hPc' hPm' hPo' hS1 hB hk1 hz1
  generalize H1 = H at hPo hPc hPm hS ⊢
  generalize locs1 = locs at hS ⊢
  refine lv_icmp_eq (tgt := 776) hx hb d_L_law_571 (by decide) (fun c_11 => ?_) (fun c_11 => ?_)
  · replace hf := (if_pos c_11).symm.trans hf
    obtain rfl := Option.some.inj hf
    refine W.widen (k := cells + 1) (n := slots + 6) (by omega) (by omega) ?_
    exact kk _ _ _ hPc hPm hPo hS (lv_sub hl [0, 1, 2, 3, 4] rfl)
  · replace hf := (if_neg c_11).symm.trans hf
    cases hf

def f_L_c8 (xs : Nat → Int32) (L : Nat) (i : Int32) (w_f : Nat → Int32) (w_n : Int32) (w_th : Int32) (w_pf : Nat → Int32) (w_of : Nat → Int32) (w_sz : Int32) (w_bg : Int32) (w_g : Nat → Int64) : Option ((Nat → Int32) × Int32 × Int32 × (Nat → Int32) × (Nat → Int32) × Int32 × Int32 × (Nat → Int64)) :=
  if (i + 1) < 0 ∨ L ≤ (i + 1).toNatClampNeg then none else if (i + 2) < 0 ∨ L ≤ (i + 2).toNatClampNeg then none else (f_C_tell w_f w_n (xs (i + 1).toNatClampNeg) (xs (i + 2).toNatClampNeg)).bind fun r_3 => if (i + 1) < 0 ∨ L ≤ (i + 1).toNatClampNeg then none else if (i + 2) < 0 ∨ L ≤ (i + 2).toNatClampNeg then none else (f_M_tell w_th w_pf w_of w_sz w_bg (xs (i + 1).toNatClampNeg) (xs (i + 2).toNatClampNeg)).bind fun r_7 => if r_3.1 = r_7.1 then (some (r_3.2.1, r_3.2.2, r_7.2.1, r_7.2.2.1, r_7.2.2.2.1, r_7.2.2.2.2.1, r_7.2.2.2.2.2, w_g)) else (none)
set_option maxHeartbeats 1000000 in
set_option maxRecDepth 100000 in
theorem lc_8 {p : Program} {l : Launch} {e : Env} {s : State} {m : MethodId} {below : List Frame} {meth : Method} {c : Code} {b L : Nat} {xs : Nat → Int32} (hfl : l.stackTraces = false) (C0 : lw_At p s m meth c b L xs) {ad sk sv : Nat → Nat} {tK : Nat} (dC : Nat → ClassId) (dI : Nat → Nat → Nat) {cA cI cL : ClassId} {h0 o h1 rw pt ou oa : Nat} (hT : tb ad sk sv tK (fun q => s.heap.size ≤ q) s s.heap) (hXb : xb (fun q => s.heap.size ≤ q) s s.heap) (hN : xN s) (hK : va_K (dC, dI) cls2 [(cA, .char), (cI, .int), (cL, .long)] s) (hd : lA s cA cI cL h0 o h1 rw pt ou oa) {cells slots : Nat} (hcs : cells + 1 ≤ 1038 ∧ slots + 6 ≤ 10775) (i : Int32) (w_f : Nat → Int32) (w_n : Int32) (w_th : Int32) (w_pf : Nat → Int32) (w_of : Nat → Int32) (w_sz : Int32) (w_bg : Int32) (w_g : Nat → Int64) (r : (Nat → Int32) × Int32 × Int32 × (Nat → Int32) × (Nat → Int32) × Int32 × Int32 × (Nat → Int64)) (hf : f_L_c8 xs L i w_f w_n w_th w_pf w_of w_sz w_bg w_g = some r)
    (kk : ∀ (H : Heap) (locs : List Loc) (ls : Array Slot), va_P (dC, dI) cls2 (wC cA h0 o r.1 r.2.1) H → va_P (dC, dI) cls2 (wM cI h1 rw pt ou r.2.2.1 mR r.2.2.2.1 r.2.2.2.2.1 r.2.2.2.2.2.1 r.2.2.2.2.2.2.1) H → va_P (dC, dI) cls2 (wO cL oa r.2.2.2.2.2.2.2) H → va_S (fun q => s.heap.size ≤ q) s.heap H locs → lv_has ls 7 [(0, .ref (b)), (1, .ref (h0)), (2, .ref (h1)), (3, .ref (oa)), (4, .int (i))] → W p l e room_1 s m #[Value.ref b] below meth c H locs (cells + 1) (slots + 6) (lw_Z below #[Value.ref b] s) (F0 m 776 ls []))
    (H : Heap) (locs : List Loc) (ls : Array Slot) (hPc : va_P (dC, dI) cls2 (wC cA h0 o w_f w_n) H) (hPm : va_P (dC, dI) cls2 (wM cI h1 rw pt ou w_th mR w_pf w_of w_sz w_bg) H) (hPo : va_P (dC, dI) cls2 (wO cL oa w_g) H) (hS : va_S (fun q => s.heap.size ≤ q) s.heap H locs) (hl : lv_has ls 7 [(0, .ref (b)), (1, .ref (h0)), (2, .ref (h1)), (3, .ref (oa)), (4, .int (i))]) : W p l e room_1 s m #[Value.ref b] below meth c H locs cells slots (lw_Z below #[Value.ref b] s) (F0 m 576 ls []) := by
  obtain ⟨hx, hb, hr, hml, hown, hts, hX, hbl, hlocks, hgv⟩ := C0
  have hown : s.vm.findClass "CodeWordsLaw" = some m.cls := hown
  have ht : ∀ {w : Cond}, w ∈ aw → w.before #[Value.ref b] s = true := fun h => hts _ (aw_tbl h)
  have hbA : ¬ (fun q : Nat => s.heap.size ≤ q) b := Nat.not_le.mpr hbl
  rw [f_L_c8] at hf
  refine lv_aload_n hx hb d_L_law_576 rfl (lv_at hl 1 rfl) ?_
  refine lv_aload_n hx hb d_L_law_577 rfl (lv_at hl 0 rfl) ?_
  refine lv_iload hx hb d_L_law_578 (lv_at hl 4 rfl) ?_
  refine lv_iconst (v := 1) hx hb d_L_law_580 (by decide) ?_
  refine lv_iadd hx hb d_L_law_581 ?_
  obtain ⟨z_1, hf⟩ := ju_gd hf
  refine va_sld hx hb hX hbl hbA hS z_1 d_L_law_582 ?_
  refine lv_aload_n hx hb d_L_law_583 rfl (lv_at hl 0 rfl) ?_
  refine lv_iload hx hb d_L_law_584 (lv_at hl 4 rfl) ?_
  refine lv_iconst (v := 2) hx hb d_L_law_586 (by decide) ?_
  refine lv_iadd hx hb d_L_law_587 ?_
  obtain ⟨z_2, hf⟩ := ju_gd hf
  refine va_sld hx hb hX hbl hbA hS z_2 d_L_law_588 ?_
  obtain ⟨r_3, g_4, hf⟩ := Option.bind_eq_some_iff.mp hf
  refine va_calli (va_runV (As := [.int (xs (i + 1).toNatClampNeg), .int (xs (i + 2).toNatClampNeg)]) (rest := []) ⟨hx, hb, hml, hown, hts⟩ (c_C_tell l (ad := ad) (sk := sk) (sv := sv) (tK := tK) dC dI cA h0 o w_f w_n (xs (i + 1).toNatClampNeg) (xs (i + 2).toNatClampNeg) r_3 g_4) (cwV 2 hts (aw_VL aw_185 aw_186 aw_187 aw_1 aw_188) rfl rfl rfl (by decide +kernel) ⟨Nat.le_of_ble_eq_true rfl, Nat.le_of_ble_eq_true rfl⟩) ⟨wBlind, va_recv (hK.sub (tys' := [(cA, .char)]) [0] rfl) hPc (ci := 0) (q0 := 0) rfl rfl, fun U hU hW => ⟨rfl, by rw [hU]; exact hPc, va_K.moved hW.alike (hK.sub [0] rfl), dD hd.1 rfl, hT.at hS hU hW hd.2.2.2.1⟩⟩ rfl rfl hl.1 rfl (lv_room (Nat.le_of_ble_eq_true rfl)) d_L_law_589 ⟨(by have := hcs.1; show _ ≤ 1038; omega), (by have := hcs.2; show _ ≤ 10775; omega)⟩) hS (fun q _ z => hd.2.2.2.1 q z) hd.2.2.2.1 (fun v1 u t H1 locs1 ht1 hvm hw hB hz1 hk1 hS1 => ?_)
  obtain ⟨hw1, hw2⟩ := hw
  rw [hw1]
  rw [hw2] at hB
  rw [ht1] at hB
  have hPc' : va_P (dC, dI) cls2 (wC cA h0 o r_3.2.1 r_3.2.2) H1 := hB
  have hPm' := lk hPm hk1 (fun k q hq _ z => hd.2.2.2.2.2.2.1 _ ((dD (ws' := (wM cI h1 rw pt ou w_th mR w_pf w_of w_sz w_bg)) hd.2.1 rfl).2 k q hq) z)
  have hPo' := lk hPo hk1 (fun k q hq _ z => hd.2.2.2.2.2.2.2.1 (by rw [← show q.1 = oa from (dD (ws' := (wO cL oa w_g)) hd.2.2.1 rfl).2 k q hq]; exact z))
  replace hPc := hPc'
  replace hPm := hPm'
  replace hPo := hPo'
  replace hS := hS1
  clear hPc' hPm' hPo' hS1 hB hk1 hz1
  generalize H1 = H at hPo hPc hPm hS ⊢
  generalize locs1 = locs at hS ⊢
  refine lv_aload_n hx hb d_L_law_592 rfl (lv_at hl 2 rfl) ?_
  refine lv_aload_n hx hb d_L_law_593 rfl (lv_at hl 0 rfl) ?_
  refine lv_iload hx hb d_L_law_594 (lv_at hl 4 rfl) ?_
  refine lv_iconst (v := 1) hx hb d_L_law_596 (by decide) ?_
  refine lv_iadd hx hb d_L_law_597 ?_
  obtain ⟨z_5, hf⟩ := ju_gd hf
  refine va_sld hx hb hX hbl hbA hS z_5 d_L_law_598 ?_
  refine lv_aload_n hx hb d_L_law_599 rfl (lv_at hl 0 rfl) ?_
  refine lv_iload hx hb d_L_law_600 (lv_at hl 4 rfl) ?_
  refine lv_iconst (v := 2) hx hb d_L_law_602 (by decide) ?_
  refine lv_iadd hx hb d_L_law_603 ?_
  obtain ⟨z_6, hf⟩ := ju_gd hf
  refine va_sld hx hb hX hbl hbA hS z_6 d_L_law_604 ?_
  obtain ⟨r_7, g_8, hf⟩ := Option.bind_eq_some_iff.mp hf
  refine va_calli (va_runV (As := [.int (xs (i + 1).toNatClampNeg), .int (xs (i + 2).toNatClampNeg)]) (rest := [.int (r_3.1)]) ⟨hx, hb, hml, hown, hts⟩ (c_M_tell l (ad := ad) (sk := sk) (sv := sv) (tK := tK) dC dI cI h1 rw pt ou w_th w_pf w_of w_sz w_bg (xs (i + 1).toNatClampNeg) (xs (i + 2).toNatClampNeg) r_7 g_8) (cwV 2 hts (aw_VL aw_574 aw_575 aw_576 aw_2 aw_577) rfl rfl rfl (by decide +kernel) ⟨Nat.le_of_ble_eq_true rfl, Nat.le_of_ble_eq_true rfl⟩) ⟨wBlind, va_recv (hK.sub (tys' := [(cI, .int)]) [1] rfl) hPm (ci := 1) (q0 := 0) rfl rfl, fun U hU hW => ⟨rfl, by rw [hU]; exact hPm, va_K.moved hW.alike (hK.sub [1] rfl), dD hd.2.1 rfl, hT.at hS hU hW hd.2.2.2.2.1⟩⟩ rfl rfl hl.1 rfl (lv_room (Nat.le_of_ble_eq_true rfl)) d_L_law_605 ⟨(by have := hcs.1; show _ ≤ 1038; omega), (by have := hcs.2; show _ ≤ 10775; omega)⟩) hS (fun q _ z => hd.2.2.2.2.1 q z) hd.2.2.2.2.1 (fun v1 u t H1 locs1 ht1 hvm hw hB hz1 hk1 hS1 => ?_)
  obtain ⟨hw1, hw2⟩ := hw
  rw [hw1]
  rw [hw2] at hB
  rw [ht1] at hB
  have hPm' : va_P (dC, dI) cls2 (wM cI h1 rw pt ou r_7.2.1 mR r_7.2.2.1 r_7.2.2.2.1 r_7.2.2.2.2.1 r_7.2.2.2.2.2) H1 := hB
  have hPc' := lk hPc hk1 (fun k q hq _ z => hd.2.2.2.2.2.2.1 _ z ((dD (ws' := (wC cA h0 o r_3.2.1 r_3.2.2)) hd.1 rfl).2 k q hq))
  have hPo' := lk hPo hk1 (fun k q hq _ z => hd.2.2.2.2.2.2.2.2 (by rw [← show q.1 = oa from (dD (ws' := (wO cL oa w_g)) hd.2.2.1 rfl).2 k q hq]; exact z))
  replace hPc := hPc'
  replace hPm := hPm'
  replace hPo := hPo'
  replace hS := hS1
  clear hPc' hPm' hPo' hS1 hB hk1 hz1
  generalize H1 = H at hPo hPc hPm hS ⊢
  generalize locs1 = locs at hS ⊢
  refine lv_icmp_eq (tgt := 776) hx hb d_L_law_608 (by decide) (fun c_9 => ?_) (fun c_9 => ?_)
  · replace hf := (if_pos c_9).symm.trans hf
    obtain rfl := Option.some.inj hf
    refine W.widen (k := cells + 1) (n := slots + 6) (by omega) (by omega) ?_
    exact kk _ _ _ hPc hPm hPo hS (lv_sub hl [0, 1, 2, 3, 4] rfl)
  · replace hf := (if_neg c_9).symm.trans hf
    cases hf

def f_L_c9 (xs : Nat → Int32) (L : Nat) (i : Int32) (w_f : Nat → Int32) (w_n : Int32) (w_th : Int32) (w_pf : Nat → Int32) (w_of : Nat → Int32) (w_sz : Int32) (w_bg : Int32) (w_g : Nat → Int64) : Option ((Nat → Int32) × Int32 × Int32 × (Nat → Int32) × (Nat → Int32) × Int32 × Int32 × (Nat → Int64)) :=
  if (i + 1) < 0 ∨ L ≤ (i + 1).toNatClampNeg then none else (f_C_letter w_f w_n (xs (i + 1).toNatClampNeg)).bind fun r_2 => if (i + 1) < 0 ∨ L ≤ (i + 1).toNatClampNeg then none else (f_M_letter w_th w_pf w_of w_sz w_bg (xs (i + 1).toNatClampNeg)).bind fun r_5 => if r_2 = r_5.1 then (some (w_f, w_n, r_5.2.1, r_5.2.2.1, r_5.2.2.2.1, r_5.2.2.2.2.1, r_5.2.2.2.2.2, w_g)) else (none)
set_option maxHeartbeats 1000000 in
set_option maxRecDepth 100000 in
theorem lc_9 {p : Program} {l : Launch} {e : Env} {s : State} {m : MethodId} {below : List Frame} {meth : Method} {c : Code} {b L : Nat} {xs : Nat → Int32} (hfl : l.stackTraces = false) (C0 : lw_At p s m meth c b L xs) {ad sk sv : Nat → Nat} {tK : Nat} (dC : Nat → ClassId) (dI : Nat → Nat → Nat) {cA cI cL : ClassId} {h0 o h1 rw pt ou oa : Nat} (hT : tb ad sk sv tK (fun q => s.heap.size ≤ q) s s.heap) (hXb : xb (fun q => s.heap.size ≤ q) s s.heap) (hN : xN s) (hK : va_K (dC, dI) cls2 [(cA, .char), (cI, .int), (cL, .long)] s) (hd : lA s cA cI cL h0 o h1 rw pt ou oa) {cells slots : Nat} (hcs : cells + 1 ≤ 1038 ∧ slots + 6 ≤ 10775) (i : Int32) (w_f : Nat → Int32) (w_n : Int32) (w_th : Int32) (w_pf : Nat → Int32) (w_of : Nat → Int32) (w_sz : Int32) (w_bg : Int32) (w_g : Nat → Int64) (r : (Nat → Int32) × Int32 × Int32 × (Nat → Int32) × (Nat → Int32) × Int32 × Int32 × (Nat → Int64)) (hf : f_L_c9 xs L i w_f w_n w_th w_pf w_of w_sz w_bg w_g = some r)
    (kk : ∀ (H : Heap) (locs : List Loc) (ls : Array Slot), va_P (dC, dI) cls2 (wC cA h0 o r.1 r.2.1) H → va_P (dC, dI) cls2 (wM cI h1 rw pt ou r.2.2.1 mR r.2.2.2.1 r.2.2.2.2.1 r.2.2.2.2.2.1 r.2.2.2.2.2.2.1) H → va_P (dC, dI) cls2 (wO cL oa r.2.2.2.2.2.2.2) H → va_S (fun q => s.heap.size ≤ q) s.heap H locs → lv_has ls 7 [(0, .ref (b)), (1, .ref (h0)), (2, .ref (h1)), (3, .ref (oa)), (4, .int (i))] → W p l e room_1 s m #[Value.ref b] below meth c H locs (cells + 1) (slots + 6) (lw_Z below #[Value.ref b] s) (F0 m 776 ls []))
    (H : Heap) (locs : List Loc) (ls : Array Slot) (hPc : va_P (dC, dI) cls2 (wC cA h0 o w_f w_n) H) (hPm : va_P (dC, dI) cls2 (wM cI h1 rw pt ou w_th mR w_pf w_of w_sz w_bg) H) (hPo : va_P (dC, dI) cls2 (wO cL oa w_g) H) (hS : va_S (fun q => s.heap.size ≤ q) s.heap H locs) (hl : lv_has ls 7 [(0, .ref (b)), (1, .ref (h0)), (2, .ref (h1)), (3, .ref (oa)), (4, .int (i))]) : W p l e room_1 s m #[Value.ref b] below meth c H locs cells slots (lw_Z below #[Value.ref b] s) (F0 m 613 ls []) := by
  obtain ⟨hx, hb, hr, hml, hown, hts, hX, hbl, hlocks, hgv⟩ := C0
  have hown : s.vm.findClass "CodeWordsLaw" = some m.cls := hown
  have ht : ∀ {w : Cond}, w ∈ aw → w.before #[Value.ref b] s = true := fun h => hts _ (aw_tbl h)
  have hbA : ¬ (fun q : Nat => s.heap.size ≤ q) b := Nat.not_le.mpr hbl
  rw [f_L_c9] at hf
  refine lv_aload_n hx hb d_L_law_613 rfl (lv_at hl 1 rfl) ?_
  refine lv_aload_n hx hb d_L_law_614 rfl (lv_at hl 0 rfl) ?_
  refine lv_iload hx hb d_L_law_615 (lv_at hl 4 rfl) ?_
  refine lv_iconst (v := 1) hx hb d_L_law_617 (by decide) ?_
  refine lv_iadd hx hb d_L_law_618 ?_
  obtain ⟨z_1, hf⟩ := ju_gd hf
  refine va_sld hx hb hX hbl hbA hS z_1 d_L_law_619 ?_
  obtain ⟨r_2, g_3, hf⟩ := Option.bind_eq_some_iff.mp hf
  refine ju_calli (W.runV (As := [.int (xs (i + 1).toNatClampNeg)]) (rest := []) ⟨hx, hb, hml, hown, hts⟩ (c_C_letter l (ad := ad) (sk := sk) (sv := sv) (tK := tK) dC dI cA h0 o w_f w_n (xs (i + 1).toNatClampNeg) r_2 g_3) (cwV 1 hts (aw_VL aw_237 aw_238 aw_239 aw_1 aw_240) rfl rfl rfl (by decide +kernel) ⟨Nat.le_of_ble_eq_true rfl, Nat.le_of_ble_eq_true rfl⟩) ⟨wBlind, va_recv (hK.sub (tys' := [(cA, .char)]) [0] rfl) hPc (ci := 0) (q0 := 0) rfl rfl, fun U hU hW => ⟨rfl, by rw [hU]; exact hPc, va_K.moved hW.alike (hK.sub [0] rfl), dD hd.1 rfl, hT.at hS hU hW hd.2.2.2.1⟩⟩ rfl rfl hl.1 rfl (lv_room (Nat.le_of_ble_eq_true rfl)) d_L_law_620 ⟨(by have := hcs.1; show _ ≤ 1038; omega), (by have := hcs.2; show _ ≤ 10775; omega)⟩) ?_
  refine lv_aload_n hx hb d_L_law_623 rfl (lv_at hl 2 rfl) ?_
  refine lv_aload_n hx hb d_L_law_624 rfl (lv_at hl 0 rfl) ?_
  refine lv_iload hx hb d_L_law_625 (lv_at hl 4 rfl) ?_
  refine lv_iconst (v := 1) hx hb d_L_law_627 (by decide) ?_
  refine lv_iadd hx hb d_L_law_628 ?_
  obtain ⟨z_4, hf⟩ := ju_gd hf
  refine va_sld hx hb hX hbl hbA hS z_4 d_L_law_629 ?_
  obtain ⟨r_5, g_6, hf⟩ := Option.bind_eq_some_iff.mp hf
  refine va_calli (va_runV (As := [.int (xs (i + 1).toNatClampNeg)]) (rest := [.int (r_2)]) ⟨hx, hb, hml, hown, hts⟩ (c_M_letter l (ad := ad) (sk := sk) (sv := sv) (tK := tK) dC dI cI h1 rw pt ou w_th w_pf w_of w_sz w_bg (xs (i + 1).toNatClampNeg) r_5 g_6) (cwV 1 hts (aw_VL aw_743 aw_744 aw_745 aw_2 aw_746) rfl rfl rfl (by decide +kernel) ⟨Nat.le_of_ble_eq_true rfl, Nat.le_of_ble_eq_true rfl⟩) ⟨wBlind, va_recv (hK.sub (tys' := [(cI, .int)]) [1] rfl) hPm (ci := 1) (q0 := 0) rfl rfl, fun U hU hW => ⟨rfl, by rw [hU]; exact hPm, va_K.moved hW.alike (hK.sub [1] rfl), dD hd.2.1 rfl, hT.at hS hU hW hd.2.2.2.2.1⟩⟩ rfl rfl hl.1 rfl (lv_room (Nat.le_of_ble_eq_true rfl)) d_L_law_630 ⟨(by have := hcs.1; show _ ≤ 1038; omega), (by have := hcs.2; show _ ≤ 10775; omega)⟩) hS (fun q _ z => hd.2.2.2.2.1 q z) hd.2.2.2.2.1 (fun v1 u t H1 locs1 ht1 hvm hw hB hz1 hk1 hS1 => ?_)
  obtain ⟨hw1, hw2⟩ := hw
  rw [hw1]
  rw [hw2] at hB
  rw [ht1] at hB
  have hPm' : va_P (dC, dI) cls2 (wM cI h1 rw pt ou r_5.2.1 mR r_5.2.2.1 r_5.2.2.2.1 r_5.2.2.2.2.1 r_5.2.2.2.2.2) H1 := hB
  have hPc' := lk hPc hk1 (fun k q hq _ z => hd.2.2.2.2.2.2.1 _ z ((dD (ws' := (wC cA h0 o w_f w_n)) hd.1 rfl).2 k q hq))
  have hPo' := lk hPo hk1 (fun k q hq _ z => hd.2.2.2.2.2.2.2.2 (by rw [← show q.1 = oa from (dD (ws' := (wO cL oa w_g)) hd.2.2.1 rfl).2 k q hq]; exact z))
  replace hPc := hPc'
  replace hPm := hPm'
  replace hPo := hPo'
  replace hS := hS1
  clear hPc' hPm' hPo' hS1 hB hk1 hz1
  generalize H1 = H at hPo hPc hPm hS ⊢
  generalize locs1 = locs at hS ⊢
  refine lv_icmp_eq (tgt := 776) hx hb d_L_law_633 (by decide) (fun c_7 => ?_) (fun c_7 => ?_)
  · replace hf := (if_pos c_7).symm.trans hf
    obtain rfl := Option.some.inj hf
    refine W.widen (k := cells + 1) (n := slots + 6) (by omega) (by omega) ?_
    exact kk _ _ _ hPc hPm hPo hS (lv_sub hl [0, 1, 2, 3, 4] rfl)
  · replace hf := (if_neg c_7).symm.trans hf
    cases hf

def f_L_c10 (xs : Nat → Int32) (L : Nat) (i : Int32) (w_f : Nat → Int32) (w_n : Int32) (w_th : Int32) (w_pf : Nat → Int32) (w_of : Nat → Int32) (w_sz : Int32) (w_bg : Int32) (w_g : Nat → Int64) : Option ((Nat → Int32) × Int32 × Int32 × (Nat → Int32) × (Nat → Int32) × Int32 × Int32 × (Nat → Int64)) :=
  if (i + 1) < 0 ∨ L ≤ (i + 1).toNatClampNeg then none else if (i + 2) < 0 ∨ L ≤ (i + 2).toNatClampNeg then none else if (i + 3) < 0 ∨ L ≤ (i + 3).toNatClampNeg then none else if (i + 4) < 0 ∨ L ≤ (i + 4).toNatClampNeg then none else (f_C_named ((ju_lshl ((xs (i + 1).toNatClampNeg).toInt64) 32) ||| (((xs (i + 2).toNatClampNeg).toInt64) &&& 4294967295)) ((ju_lshl ((xs (i + 3).toNatClampNeg).toInt64) 32) ||| (((xs (i + 4).toNatClampNeg).toInt64) &&& 4294967295))).bind fun r_5 => if (i + 1) < 0 ∨ L ≤ (i + 1).toNatClampNeg then none else if (i + 2) < 0 ∨ L ≤ (i + 2).toNatClampNeg then none else if (i + 3) < 0 ∨ L ≤ (i + 3).toNatClampNeg then none else if (i + 4) < 0 ∨ L ≤ (i + 4).toNatClampNeg then none else (f_M_named w_th w_pf w_of w_sz w_bg ((ju_lshl ((xs (i + 1).toNatClampNeg).toInt64) 32) ||| (((xs (i + 2).toNatClampNeg).toInt64) &&& 4294967295)) ((ju_lshl ((xs (i + 3).toNatClampNeg).toInt64) 32) ||| (((xs (i + 4).toNatClampNeg).toInt64) &&& 4294967295))).bind fun r_11 => if r_5 = r_11.1 then (some (w_f, w_n, r_11.2.1, r_11.2.2.1, r_11.2.2.2.1, r_11.2.2.2.2.1, r_11.2.2.2.2.2, w_g)) else (none)
set_option maxHeartbeats 1000000 in
set_option maxRecDepth 100000 in
theorem lc_10 {p : Program} {l : Launch} {e : Env} {s : State} {m : MethodId} {below : List Frame} {meth : Method} {c : Code} {b L : Nat} {xs : Nat → Int32} (hfl : l.stackTraces = false) (C0 : lw_At p s m meth c b L xs) {ad sk sv : Nat → Nat} {tK : Nat} (dC : Nat → ClassId) (dI : Nat → Nat → Nat) {cA cI cL : ClassId} {h0 o h1 rw pt ou oa : Nat} (hT : tb ad sk sv tK (fun q => s.heap.size ≤ q) s s.heap) (hXb : xb (fun q => s.heap.size ≤ q) s s.heap) (hN : xN s) (hK : va_K (dC, dI) cls2 [(cA, .char), (cI, .int), (cL, .long)] s) (hd : lA s cA cI cL h0 o h1 rw pt ou oa) {cells slots : Nat} (hcs : cells + 1 ≤ 1038 ∧ slots + 6 ≤ 10775) (i : Int32) (w_f : Nat → Int32) (w_n : Int32) (w_th : Int32) (w_pf : Nat → Int32) (w_of : Nat → Int32) (w_sz : Int32) (w_bg : Int32) (w_g : Nat → Int64) (r : (Nat → Int32) × Int32 × Int32 × (Nat → Int32) × (Nat → Int32) × Int32 × Int32 × (Nat → Int64)) (hf : f_L_c10 xs L i w_f w_n w_th w_pf w_of w_sz w_bg w_g = some r)
    (kk : ∀ (H : Heap) (locs : List Loc) (ls : Array Slot), va_P (dC, dI) cls2 (wC cA h0 o r.1 r.2.1) H → va_P (dC, dI) cls2 (wM cI h1 rw pt ou r.2.2.1 mR r.2.2.2.1 r.2.2.2.2.1 r.2.2.2.2.2.1 r.2.2.2.2.2.2.1) H → va_P (dC, dI) cls2 (wO cL oa r.2.2.2.2.2.2.2) H → va_S (fun q => s.heap.size ≤ q) s.heap H locs → lv_has ls 7 [(0, .ref (b)), (1, .ref (h0)), (2, .ref (h1)), (3, .ref (oa)), (4, .int (i))] → W p l e room_1 s m #[Value.ref b] below meth c H locs (cells + 1) (slots + 6) (lw_Z below #[Value.ref b] s) (F0 m 776 ls []))
    (H : Heap) (locs : List Loc) (ls : Array Slot) (hPc : va_P (dC, dI) cls2 (wC cA h0 o w_f w_n) H) (hPm : va_P (dC, dI) cls2 (wM cI h1 rw pt ou w_th mR w_pf w_of w_sz w_bg) H) (hPo : va_P (dC, dI) cls2 (wO cL oa w_g) H) (hS : va_S (fun q => s.heap.size ≤ q) s.heap H locs) (hl : lv_has ls 7 [(0, .ref (b)), (1, .ref (h0)), (2, .ref (h1)), (3, .ref (oa)), (4, .int (i))]) : W p l e room_1 s m #[Value.ref b] below meth c H locs cells slots (lw_Z below #[Value.ref b] s) (F0 m 638 ls []) := by
  obtain ⟨hx, hb, hr, hml, hown, hts, hX, hbl, hlocks, hgv⟩ := C0
  have hown : s.vm.findClass "CodeWordsLaw" = some m.cls := hown
  have ht : ∀ {w : Cond}, w ∈ aw → w.before #[Value.ref b] s = true := fun h => hts _ (aw_tbl h)
  have hbA : ¬ (fun q : Nat => s.heap.size ≤ q) b := Nat.not_le.mpr hbl
  rw [f_L_c10] at hf
  refine lv_aload_n hx hb d_L_law_638 rfl (lv_at hl 1 rfl) ?_
  refine lv_aload_n hx hb d_L_law_639 rfl (lv_at hl 0 rfl) ?_
  refine lv_iload hx hb d_L_law_640 (lv_at hl 4 rfl) ?_
  refine lv_iconst (v := 1) hx hb d_L_law_642 (by decide) ?_
  refine lv_iadd hx hb d_L_law_643 ?_
  obtain ⟨z_1, hf⟩ := ju_gd hf
  refine va_sld hx hb hX hbl hbA hS z_1 d_L_law_644 ?_
  refine lv_i2l (v := (xs (i + 1).toNatClampNeg).toInt64) hx hb d_L_law_645 rfl ?_
  refine lv_bipush (v := 32) hx hb d_L_law_646 (by decide) ?_
  refine lv_lshl (v := ju_lshl ((xs (i + 1).toNatClampNeg).toInt64) 32) hx hb d_L_law_648 rfl ?_
  refine lv_aload_n hx hb d_L_law_649 rfl (lv_at hl 0 rfl) ?_
  refine lv_iload hx hb d_L_law_650 (lv_at hl 4 rfl) ?_
  refine lv_iconst (v := 2) hx hb d_L_law_652 (by decide) ?_
  refine lv_iadd hx hb d_L_law_653 ?_
  obtain ⟨z_2, hf⟩ := ju_gd hf
  refine va_sld hx hb hX hbl hbA hS z_2 d_L_law_654 ?_
  refine lv_i2l (v := (xs (i + 2).toNatClampNeg).toInt64) hx hb d_L_law_655 rfl ?_
  refine lv_ldc2 (v := 4294967295) hx hb hown (ht aw_759) d_L_law_656 ?_
  refine lv_land hx hb d_L_law_659 ?_
  refine lv_lor hx hb d_L_law_660 ?_
  refine lv_aload_n hx hb d_L_law_661 rfl (lv_at hl 0 rfl) ?_
  refine lv_iload hx hb d_L_law_662 (lv_at hl 4 rfl) ?_
  refine lv_iconst (v := 3) hx hb d_L_law_664 (by decide) ?_
  refine lv_iadd hx hb d_L_law_665 ?_
  obtain ⟨z_3, hf⟩ := ju_gd hf
  refine va_sld hx hb hX hbl hbA hS z_3 d_L_law_666 ?_
  refine lv_i2l (v := (xs (i + 3).toNatClampNeg).toInt64) hx hb d_L_law_667 rfl ?_
  refine lv_bipush (v := 32) hx hb d_L_law_668 (by decide) ?_
  refine lv_lshl (v := ju_lshl ((xs (i + 3).toNatClampNeg).toInt64) 32) hx hb d_L_law_670 rfl ?_
  refine lv_aload_n hx hb d_L_law_671 rfl (lv_at hl 0 rfl) ?_
  refine lv_iload hx hb d_L_law_672 (lv_at hl 4 rfl) ?_
  refine lv_iconst (v := 4) hx hb d_L_law_674 (by decide) ?_
  refine lv_iadd hx hb d_L_law_675 ?_
  obtain ⟨z_4, hf⟩ := ju_gd hf
  refine va_sld hx hb hX hbl hbA hS z_4 d_L_law_676 ?_
  refine lv_i2l (v := (xs (i + 4).toNatClampNeg).toInt64) hx hb d_L_law_677 rfl ?_
  refine lv_ldc2 (v := 4294967295) hx hb hown (ht aw_759) d_L_law_678 ?_
  refine lv_land hx hb d_L_law_681 ?_
  refine lv_lor hx hb d_L_law_682 ?_
  obtain ⟨r_5, g_6, hf⟩ := Option.bind_eq_some_iff.mp hf
  refine ju_calli (W.runV (As := [.long ((ju_lshl ((xs (i + 1).toNatClampNeg).toInt64) 32) ||| (((xs (i + 2).toNatClampNeg).toInt64) &&& 4294967295)), .long ((ju_lshl ((xs (i + 3).toNatClampNeg).toInt64) 32) ||| (((xs (i + 4).toNatClampNeg).toInt64) &&& 4294967295))]) (rest := []) ⟨hx, hb, hml, hown, hts⟩ (c_C_named l (ad := ad) (sk := sk) (sv := sv) (tK := tK) h0 ((ju_lshl ((xs (i + 1).toNatClampNeg).toInt64) 32) ||| (((xs (i + 2).toNatClampNeg).toInt64) &&& 4294967295)) ((ju_lshl ((xs (i + 3).toNatClampNeg).toInt64) 32) ||| (((xs (i + 4).toNatClampNeg).toInt64) &&& 4294967295)) r_5 g_6) (cwV 2 hts (aw_VL aw_241 aw_242 aw_243 aw_1 aw_244) rfl rfl rfl (by decide +kernel) ⟨Nat.le_of_ble_eq_true rfl, Nat.le_of_ble_eq_true rfl⟩) ⟨fun a U g mk q => ⟨q.1, q.2.call⟩, va_recv (hK.sub (tys' := [(cA, .char)]) [0] rfl) hPc (ci := 0) (q0 := 0) rfl rfl, fun U hU hW => ⟨rfl, hT.at hS hU hW (fun _ z => z.elim)⟩⟩ rfl rfl hl.1 rfl (lv_room (Nat.le_of_ble_eq_true rfl)) d_L_law_683 ⟨(by have := hcs.1; show _ ≤ 1038; omega), (by have := hcs.2; show _ ≤ 10775; omega)⟩) ?_
  refine lv_aload_n hx hb d_L_law_686 rfl (lv_at hl 2 rfl) ?_
  refine lv_aload_n hx hb d_L_law_687 rfl (lv_at hl 0 rfl) ?_
  refine lv_iload hx hb d_L_law_688 (lv_at hl 4 rfl) ?_
  refine lv_iconst (v := 1) hx hb d_L_law_690 (by decide) ?_
  refine lv_iadd hx hb d_L_law_691 ?_
  obtain ⟨z_7, hf⟩ := ju_gd hf
  refine va_sld hx hb hX hbl hbA hS z_7 d_L_law_692 ?_
  refine lv_i2l (v := (xs (i + 1).toNatClampNeg).toInt64) hx hb d_L_law_693 rfl ?_
  refine lv_bipush (v := 32) hx hb d_L_law_694 (by decide) ?_
  refine lv_lshl (v := ju_lshl ((xs (i + 1).toNatClampNeg).toInt64) 32) hx hb d_L_law_696 rfl ?_
  refine lv_aload_n hx hb d_L_law_697 rfl (lv_at hl 0 rfl) ?_
  refine lv_iload hx hb d_L_law_698 (lv_at hl 4 rfl) ?_
  refine lv_iconst (v := 2) hx hb d_L_law_700 (by decide) ?_
  refine lv_iadd hx hb d_L_law_701 ?_
  obtain ⟨z_8, hf⟩ := ju_gd hf
  refine va_sld hx hb hX hbl hbA hS z_8 d_L_law_702 ?_
  refine lv_i2l (v := (xs (i + 2).toNatClampNeg).toInt64) hx hb d_L_law_703 rfl ?_
  refine lv_ldc2 (v := 4294967295) hx hb hown (ht aw_759) d_L_law_704 ?_
  refine lv_land hx hb d_L_law_707 ?_
  refine lv_lor hx hb d_L_law_708 ?_
  refine lv_aload_n hx hb d_L_law_709 rfl (lv_at hl 0 rfl) ?_
  refine lv_iload hx hb d_L_law_710 (lv_at hl 4 rfl) ?_
  refine lv_iconst (v := 3) hx hb d_L_law_712 (by decide) ?_
  refine lv_iadd hx hb d_L_law_713 ?_
  obtain ⟨z_9, hf⟩ := ju_gd hf
  refine va_sld hx hb hX hbl hbA hS z_9 d_L_law_714 ?_
  refine lv_i2l (v := (xs (i + 3).toNatClampNeg).toInt64) hx hb d_L_law_715 rfl ?_
  refine lv_bipush (v := 32) hx hb d_L_law_716 (by decide) ?_
  refine lv_lshl (v := ju_lshl ((xs (i + 3).toNatClampNeg).toInt64) 32) hx hb d_L_law_718 rfl ?_
  refine lv_aload_n hx hb d_L_law_719 rfl (lv_at hl 0 rfl) ?_
  refine lv_iload hx hb d_L_law_720 (lv_at hl 4 rfl) ?_
  refine lv_iconst (v := 4) hx hb d_L_law_722 (by decide) ?_
  refine lv_iadd hx hb d_L_law_723 ?_
  obtain ⟨z_10, hf⟩ := ju_gd hf
  refine va_sld hx hb hX hbl hbA hS z_10 d_L_law_724 ?_
  refine lv_i2l (v := (xs (i + 4).toNatClampNeg).toInt64) hx hb d_L_law_725 rfl ?_
  refine lv_ldc2 (v := 4294967295) hx hb hown (ht aw_759) d_L_law_726 ?_
  refine lv_land hx hb d_L_law_729 ?_
  refine lv_lor hx hb d_L_law_730 ?_
  obtain ⟨r_11, g_12, hf⟩ := Option.bind_eq_some_iff.mp hf
  refine va_calli (va_runV (As := [.long ((ju_lshl ((xs (i + 1).toNatClampNeg).toInt64) 32) ||| (((xs (i + 2).toNatClampNeg).toInt64) &&& 4294967295)), .long ((ju_lshl ((xs (i + 3).toNatClampNeg).toInt64) 32) ||| (((xs (i + 4).toNatClampNeg).toInt64) &&& 4294967295))]) (rest := [.int (r_5)]) ⟨hx, hb, hml, hown, hts⟩ (c_M_named l (ad := ad) (sk := sk) (sv := sv) (tK := tK) dC dI cI h1 rw pt ou w_th w_pf w_of w_sz w_bg ((ju_lshl ((xs (i + 1).toNatClampNeg).toInt64) 32) ||| (((xs (i + 2).toNatClampNeg).toInt64) &&& 4294967295)) ((ju_lshl ((xs (i + 3).toNatClampNeg).toInt64) 32) ||| (((xs (i + 4).toNatClampNeg).toInt64) &&& 4294967295)) r_11 g_12) (cwV 2 hts (aw_VL aw_747 aw_748 aw_749 aw_2 aw_750) rfl rfl rfl (by decide +kernel) ⟨Nat.le_of_ble_eq_true rfl, Nat.le_of_ble_eq_true rfl⟩) ⟨wBlind, va_recv (hK.sub (tys' := [(cI, .int)]) [1] rfl) hPm (ci := 1) (q0 := 0) rfl rfl, fun U hU hW => ⟨rfl, by rw [hU]; exact hPm, va_K.moved hW.alike (hK.sub [1] rfl), dD hd.2.1 rfl, hT.at hS hU hW hd.2.2.2.2.1⟩⟩ rfl rfl hl.1 rfl (lv_room (Nat.le_of_ble_eq_true rfl)) d_L_law_731 ⟨(by have := hcs.1; show _ ≤ 1038; omega), (by have := hcs.2; show _ ≤ 10775; omega)⟩) hS (fun q _ z => hd.2.2.2.2.1 q z) hd.2.2.2.2.1 (fun v1 u t H1 locs1 ht1 hvm hw hB hz1 hk1 hS1 => ?_)
  obtain ⟨hw1, hw2⟩ := hw
  rw [hw1]
  rw [hw2] at hB
  rw [ht1] at hB
  have hPm' : va_P (dC, dI) cls2 (wM cI h1 rw pt ou r_11.2.1 mR r_11.2.2.1 r_11.2.2.2.1 r_11.2.2.2.2.1 r_11.2.2.2.2.2) H1 := hB
  have hPc' := lk hPc hk1 (fun k q hq _ z => hd.2.2.2.2.2.2.1 _ z ((dD (ws' := (wC cA h0 o w_f w_n)) hd.1 rfl).2 k q hq))
  have hPo' := lk hPo hk1 (fun k q hq _ z => hd.2.2.2.2.2.2.2.2 (by rw [← show q.1 = oa from (dD (ws' := (wO cL oa w_g)) hd.2.2.1 rfl).2 k q hq]; exact z))
  replace hPc := hPc'
  replace hPm := hPm'
  replace hPo := hPo'
  replace hS := hS1
  clear hPc' hPm' hPo' hS1 hB hk1 hz1
  generalize H1 = H at hPo hPc hPm hS ⊢
  generalize locs1 = locs at hS ⊢
  refine lv_icmp_eq (tgt := 776) hx hb d_L_law_734 (by decide) (fun c_13 => ?_) (fun c_13 => ?_)
  · replace hf := (if_pos c_13).symm.trans hf
    obtain rfl := Option.some.inj hf
    refine W.widen (k := cells + 1) (n := slots + 6) (by omega) (by omega) ?_
    exact kk _ _ _ hPc hPm hPo hS (lv_sub hl [0, 1, 2, 3, 4] rfl)
  · replace hf := (if_neg c_13).symm.trans hf
    cases hf

def f_L_c11 (xs : Nat → Int32) (L : Nat) (i : Int32) (w_f : Nat → Int32) (w_n : Int32) (w_th : Int32) (w_pf : Nat → Int32) (w_of : Nat → Int32) (w_sz : Int32) (w_bg : Int32) (w_g : Nat → Int64) : Option ((Nat → Int32) × Int32 × Int32 × (Nat → Int32) × (Nat → Int32) × Int32 × Int32 × (Nat → Int64)) :=
  if (i + 1) < 0 ∨ L ≤ (i + 1).toNatClampNeg then none else if (i + 2) < 0 ∨ L ≤ (i + 2).toNatClampNeg then none else (f_C_about (xs (i + 1).toNatClampNeg) (xs (i + 2).toNatClampNeg)).bind fun r_3 => if (i + 1) < 0 ∨ L ≤ (i + 1).toNatClampNeg then none else if (i + 2) < 0 ∨ L ≤ (i + 2).toNatClampNeg then none else (f_M_about w_th w_pf w_of w_sz w_bg (xs (i + 1).toNatClampNeg) (xs (i + 2).toNatClampNeg)).bind fun r_7 => if r_3 = r_7.1 then (some (w_f, w_n, r_7.2.1, r_7.2.2.1, r_7.2.2.2.1, r_7.2.2.2.2.1, r_7.2.2.2.2.2, w_g)) else (none)
set_option maxHeartbeats 1000000 in
set_option maxRecDepth 100000 in
theorem lc_11 {p : Program} {l : Launch} {e : Env} {s : State} {m : MethodId} {below : List Frame} {meth : Method} {c : Code} {b L : Nat} {xs : Nat → Int32} (hfl : l.stackTraces = false) (C0 : lw_At p s m meth c b L xs) {ad sk sv : Nat → Nat} {tK : Nat} (dC : Nat → ClassId) (dI : Nat → Nat → Nat) {cA cI cL : ClassId} {h0 o h1 rw pt ou oa : Nat} (hT : tb ad sk sv tK (fun q => s.heap.size ≤ q) s s.heap) (hXb : xb (fun q => s.heap.size ≤ q) s s.heap) (hN : xN s) (hK : va_K (dC, dI) cls2 [(cA, .char), (cI, .int), (cL, .long)] s) (hd : lA s cA cI cL h0 o h1 rw pt ou oa) {cells slots : Nat} (hcs : cells + 1 ≤ 1038 ∧ slots + 6 ≤ 10775) (i : Int32) (w_f : Nat → Int32) (w_n : Int32) (w_th : Int32) (w_pf : Nat → Int32) (w_of : Nat → Int32) (w_sz : Int32) (w_bg : Int32) (w_g : Nat → Int64) (r : (Nat → Int32) × Int32 × Int32 × (Nat → Int32) × (Nat → Int32) × Int32 × Int32 × (Nat → Int64)) (hf : f_L_c11 xs L i w_f w_n w_th w_pf w_of w_sz w_bg w_g = some r)
    (kk : ∀ (H : Heap) (locs : List Loc) (ls : Array Slot), va_P (dC, dI) cls2 (wC cA h0 o r.1 r.2.1) H → va_P (dC, dI) cls2 (wM cI h1 rw pt ou r.2.2.1 mR r.2.2.2.1 r.2.2.2.2.1 r.2.2.2.2.2.1 r.2.2.2.2.2.2.1) H → va_P (dC, dI) cls2 (wO cL oa r.2.2.2.2.2.2.2) H → va_S (fun q => s.heap.size ≤ q) s.heap H locs → lv_has ls 7 [(0, .ref (b)), (1, .ref (h0)), (2, .ref (h1)), (3, .ref (oa)), (4, .int (i))] → W p l e room_1 s m #[Value.ref b] below meth c H locs (cells + 1) (slots + 6) (lw_Z below #[Value.ref b] s) (F0 m 776 ls []))
    (H : Heap) (locs : List Loc) (ls : Array Slot) (hPc : va_P (dC, dI) cls2 (wC cA h0 o w_f w_n) H) (hPm : va_P (dC, dI) cls2 (wM cI h1 rw pt ou w_th mR w_pf w_of w_sz w_bg) H) (hPo : va_P (dC, dI) cls2 (wO cL oa w_g) H) (hS : va_S (fun q => s.heap.size ≤ q) s.heap H locs) (hl : lv_has ls 7 [(0, .ref (b)), (1, .ref (h0)), (2, .ref (h1)), (3, .ref (oa)), (4, .int (i))]) : W p l e room_1 s m #[Value.ref b] below meth c H locs cells slots (lw_Z below #[Value.ref b] s) (F0 m 739 ls []) := by
  obtain ⟨hx, hb, hr, hml, hown, hts, hX, hbl, hlocks, hgv⟩ := C0
  have hown : s.vm.findClass "CodeWordsLaw" = some m.cls := hown
  have ht : ∀ {w : Cond}, w ∈ aw → w.before #[Value.ref b] s = true := fun h => hts _ (aw_tbl h)
  have hbA : ¬ (fun q : Nat => s.heap.size ≤ q) b := Nat.not_le.mpr hbl
  rw [f_L_c11] at hf
  refine lv_aload_n hx hb d_L_law_739 rfl (lv_at hl 1 rfl) ?_
  refine lv_aload_n hx hb d_L_law_740 rfl (lv_at hl 0 rfl) ?_
  refine lv_iload hx hb d_L_law_741 (lv_at hl 4 rfl) ?_
  refine lv_iconst (v := 1) hx hb d_L_law_743 (by decide) ?_
  refine lv_iadd hx hb d_L_law_744 ?_
  obtain ⟨z_1, hf⟩ := ju_gd hf
  refine va_sld hx hb hX hbl hbA hS z_1 d_L_law_745 ?_
  refine lv_aload_n hx hb d_L_law_746 rfl (lv_at hl 0 rfl) ?_
  refine lv_iload hx hb d_L_law_747 (lv_at hl 4 rfl) ?_
  refine lv_iconst (v := 2) hx hb d_L_law_749 (by decide) ?_
  refine lv_iadd hx hb d_L_law_750 ?_
  obtain ⟨z_2, hf⟩ := ju_gd hf
  refine va_sld hx hb hX hbl hbA hS z_2 d_L_law_751 ?_
  obtain ⟨r_3, g_4, hf⟩ := Option.bind_eq_some_iff.mp hf
  refine ju_calli (W.runV (As := [.int (xs (i + 1).toNatClampNeg), .int (xs (i + 2).toNatClampNeg)]) (rest := []) ⟨hx, hb, hml, hown, hts⟩ (c_C_about l (ad := ad) (sk := sk) (sv := sv) (tK := tK) h0 (xs (i + 1).toNatClampNeg) (xs (i + 2).toNatClampNeg) r_3 g_4) (cwV 2 hts (aw_VL aw_248 aw_249 aw_250 aw_1 aw_251) rfl rfl rfl (by decide +kernel) ⟨Nat.le_of_ble_eq_true rfl, Nat.le_of_ble_eq_true rfl⟩) ⟨fun a U g mk q => ⟨q.1, q.2.call⟩, va_recv (hK.sub (tys' := [(cA, .char)]) [0] rfl) hPc (ci := 0) (q0 := 0) rfl rfl, fun U hU hW => ⟨rfl, hT.at hS hU hW (fun _ z => z.elim)⟩⟩ rfl rfl hl.1 rfl (lv_room (Nat.le_of_ble_eq_true rfl)) d_L_law_752 ⟨(by have := hcs.1; show _ ≤ 1038; omega), (by have := hcs.2; show _ ≤ 10775; omega)⟩) ?_
  refine lv_aload_n hx hb d_L_law_755 rfl (lv_at hl 2 rfl) ?_
  refine lv_aload_n hx hb d_L_law_756 rfl (lv_at hl 0 rfl) ?_
  refine lv_iload hx hb d_L_law_757 (lv_at hl 4 rfl) ?_
  refine lv_iconst (v := 1) hx hb d_L_law_759 (by decide) ?_
  refine lv_iadd hx hb d_L_law_760 ?_
  obtain ⟨z_5, hf⟩ := ju_gd hf
  refine va_sld hx hb hX hbl hbA hS z_5 d_L_law_761 ?_
  refine lv_aload_n hx hb d_L_law_762 rfl (lv_at hl 0 rfl) ?_
  refine lv_iload hx hb d_L_law_763 (lv_at hl 4 rfl) ?_
  refine lv_iconst (v := 2) hx hb d_L_law_765 (by decide) ?_
  refine lv_iadd hx hb d_L_law_766 ?_
  obtain ⟨z_6, hf⟩ := ju_gd hf
  refine va_sld hx hb hX hbl hbA hS z_6 d_L_law_767 ?_
  obtain ⟨r_7, g_8, hf⟩ := Option.bind_eq_some_iff.mp hf
  refine va_calli (va_runV (As := [.int (xs (i + 1).toNatClampNeg), .int (xs (i + 2).toNatClampNeg)]) (rest := [.int (r_3)]) ⟨hx, hb, hml, hown, hts⟩ (c_M_about l (ad := ad) (sk := sk) (sv := sv) (tK := tK) dC dI cI h1 rw pt ou w_th w_pf w_of w_sz w_bg (xs (i + 1).toNatClampNeg) (xs (i + 2).toNatClampNeg) r_7 g_8) (cwV 2 hts (aw_VL aw_755 aw_756 aw_757 aw_2 aw_758) rfl rfl rfl (by decide +kernel) ⟨Nat.le_of_ble_eq_true rfl, Nat.le_of_ble_eq_true rfl⟩) ⟨wBlind, va_recv (hK.sub (tys' := [(cI, .int)]) [1] rfl) hPm (ci := 1) (q0 := 0) rfl rfl, fun U hU hW => ⟨rfl, by rw [hU]; exact hPm, va_K.moved hW.alike (hK.sub [1] rfl), dD hd.2.1 rfl, hT.at hS hU hW hd.2.2.2.2.1⟩⟩ rfl rfl hl.1 rfl (lv_room (Nat.le_of_ble_eq_true rfl)) d_L_law_768 ⟨(by have := hcs.1; show _ ≤ 1038; omega), (by have := hcs.2; show _ ≤ 10775; omega)⟩) hS (fun q _ z => hd.2.2.2.2.1 q z) hd.2.2.2.2.1 (fun v1 u t H1 locs1 ht1 hvm hw hB hz1 hk1 hS1 => ?_)
  obtain ⟨hw1, hw2⟩ := hw
  rw [hw1]
  rw [hw2] at hB
  rw [ht1] at hB
  have hPm' : va_P (dC, dI) cls2 (wM cI h1 rw pt ou r_7.2.1 mR r_7.2.2.1 r_7.2.2.2.1 r_7.2.2.2.2.1 r_7.2.2.2.2.2) H1 := hB
  have hPc' := lk hPc hk1 (fun k q hq _ z => hd.2.2.2.2.2.2.1 _ z ((dD (ws' := (wC cA h0 o w_f w_n)) hd.1 rfl).2 k q hq))
  have hPo' := lk hPo hk1 (fun k q hq _ z => hd.2.2.2.2.2.2.2.2 (by rw [← show q.1 = oa from (dD (ws' := (wO cL oa w_g)) hd.2.2.1 rfl).2 k q hq]; exact z))
  replace hPc := hPc'
  replace hPm := hPm'
  replace hPo := hPo'
  replace hS := hS1
  clear hPc' hPm' hPo' hS1 hB hk1 hz1
  generalize H1 = H at hPo hPc hPm hS ⊢
  generalize locs1 = locs at hS ⊢
  refine lv_icmp_eq (tgt := 776) hx hb d_L_law_771 (by decide) (fun c_9 => ?_) (fun c_9 => ?_)
  · replace hf := (if_pos c_9).symm.trans hf
    obtain rfl := Option.some.inj hf
    refine W.widen (k := cells + 1) (n := slots + 6) (by omega) (by omega) ?_
    exact kk _ _ _ hPc hPm hPo hS (lv_sub hl [0, 1, 2, 3, 4] rfl)
  · replace hf := (if_neg c_9).symm.trans hf
    cases hf
