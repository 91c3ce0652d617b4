abbrev lST : Type := (Nat → Int32) × Int32 × Int32 × (Nat → Int32) × (Nat → Int32) × Int32 × Int32 × (Nat → Int64)
/-- what the pure side owes: from every state with I a step of the law goes on, and I stays -/
def lStep (xs : Nat → Int32) (L : Nat) (I : lST → Prop) : Prop := ∀ (k : Nat) (st : lST), 6 * k + 6 ≤ L → I st → (xs (6 * k) &&& 15 = 0 → ∃ st' : lST, f_L_c0 xs L (nI (6 * k)) st.1 st.2.1 st.2.2.1 st.2.2.2.1 st.2.2.2.2.1 st.2.2.2.2.2.1 st.2.2.2.2.2.2.1 st.2.2.2.2.2.2.2 = some st' ∧ I st') ∧ (xs (6 * k) &&& 15 = 1 → ∃ st' : lST, f_L_c1 xs L (nI (6 * k)) st.1 st.2.1 st.2.2.1 st.2.2.2.1 st.2.2.2.2.1 st.2.2.2.2.2.1 st.2.2.2.2.2.2.1 st.2.2.2.2.2.2.2 = some st' ∧ I st') ∧ (xs (6 * k) &&& 15 = 2 → ∃ st' : lST, f_L_c2 xs L (nI (6 * k)) st.1 st.2.1 st.2.2.1 st.2.2.2.1 st.2.2.2.2.1 st.2.2.2.2.2.1 st.2.2.2.2.2.2.1 st.2.2.2.2.2.2.2 = some st' ∧ I st') ∧ (xs (6 * k) &&& 15 = 3 → ∃ st' : lST, f_L_c3 xs L (nI (6 * k)) st.1 st.2.1 st.2.2.1 st.2.2.2.1 st.2.2.2.2.1 st.2.2.2.2.2.1 st.2.2.2.2.2.2.1 st.2.2.2.2.2.2.2 = some st' ∧ I st') ∧ (xs (6 * k) &&& 15 = 4 → ∃ st' : lST, f_L_c4 xs L (nI (6 * k)) st.1 st.2.1 st.2.2.1 st.2.2.2.1 st.2.2.2.2.1 st.2.2.2.2.2.1 st.2.2.2.2.2.2.1 st.2.2.2.2.2.2.2 = some st' ∧ I st') ∧ (xs (6 * k) &&& 15 = 5 → ∃ st' : lST, f_L_c5 xs L (nI (6 * k)) st.1 st.2.1 st.2.2.1 st.2.2.2.1 st.2.2.2.2.1 st.2.2.2.2.2.1 st.2.2.2.2.2.2.1 st.2.2.2.2.2.2.2 = some st' ∧ I st') ∧ (xs (6 * k) &&& 15 = 6 → ∃ st' : lST, f_L_c6 xs L (nI (6 * k)) st.1 st.2.1 st.2.2.1 st.2.2.2.1 st.2.2.2.2.1 st.2.2.2.2.2.1 st.2.2.2.2.2.2.1 st.2.2.2.2.2.2.2 = some st' ∧ I st') ∧ (xs (6 * k) &&& 15 = 7 → ∃ st' : lST, f_L_c7 xs L (nI (6 * k)) st.1 st.2.1 st.2.2.1 st.2.2.2.1 st.2.2.2.2.1 st.2.2.2.2.2.1 st.2.2.2.2.2.2.1 st.2.2.2.2.2.2.2 = some st' ∧ I st') ∧ (xs (6 * k) &&& 15 = 8 → ∃ st' : lST, f_L_c8 xs L (nI (6 * k)) st.1 st.2.1 st.2.2.1 st.2.2.2.1 st.2.2.2.2.1 st.2.2.2.2.2.1 st.2.2.2.2.2.2.1 st.2.2.2.2.2.2.2 = some st' ∧ I st') ∧ (xs (6 * k) &&& 15 = 9 → ∃ st' : lST, f_L_c9 xs L (nI (6 * k)) st.1 st.2.1 st.2.2.1 st.2.2.2.1 st.2.2.2.2.1 st.2.2.2.2.2.1 st.2.2.2.2.2.2.1 st.2.2.2.2.2.2.2 = some st' ∧ I st') ∧ (xs (6 * k) &&& 15 = 10 → ∃ st' : lST, f_L_c10 xs L (nI (6 * k)) st.1 st.2.1 st.2.2.1 st.2.2.2.1 st.2.2.2.2.1 st.2.2.2.2.2.1 st.2.2.2.2.2.2.1 st.2.2.2.2.2.2.2 = some st' ∧ I st') ∧ (xs (6 * k) &&& 15 = 11 → ∃ st' : lST, f_L_c11 xs L (nI (6 * k)) st.1 st.2.1 st.2.2.1 st.2.2.2.1 st.2.2.2.2.1 st.2.2.2.2.2.1 st.2.2.2.2.2.2.1 st.2.2.2.2.2.2.2 = some st' ∧ I st')
set_option maxHeartbeats 4000000 in
set_option maxRecDepth 100000 in
theorem law_loop {p : Program} {l : Launch} {e : Env} {s : State} {m : MethodId} {below : List Frame} {meth : Method} {c : Code} {b L : Nat} {xs : Nat → Int32} (hL : L ≤ 3072) (hfl : l.stackTraces = false) (C0 : lw_At p s m meth c b L xs) {ad sk sv : Nat → Nat} {tK : Nat} (dC : Nat → ClassId) (dI : Nat → Nat → Nat) {cA cI cL : ClassId} {h0 o h1 rw pt ou oa : Nat} (hT : tb ad sk sv tK (fun q => s.heap.size ≤ q) s s.heap) (hXb : xb (fun q => s.heap.size ≤ q) s s.heap) (hN : xN s) (hK : va_K (dC, dI) cls2 [(cA, .char), (cI, .int), (cL, .long)] s) (hd : lA s cA cI cL h0 o h1 rw pt ou oa) {I : lST → Prop} (hq : lStep xs L I) :
    ∀ (n k : Nat) (st : lST), 6 * k ≤ L → L < 6 * (k + n) → I st → ∀ (H : Heap) (locs : List Loc) (ls : Array Slot), va_P (dC, dI) cls2 (wC cA h0 o st.1 st.2.1) H → va_P (dC, dI) cls2 (wM cI h1 rw pt ou st.2.2.1 mR st.2.2.2.1 st.2.2.2.2.1 st.2.2.2.2.2.1 st.2.2.2.2.2.2.1) H → va_P (dC, dI) cls2 (wO cL oa st.2.2.2.2.2.2.2) H → va_S (fun q => s.heap.size ≤ q) s.heap H locs → lv_has ls 7 [(0, .ref (b)), (1, .ref (h0)), (2, .ref (h1)), (3, .ref (oa)), (4, .int (nI (6 * k)))] → W p l e room_1 s m #[Value.ref b] below meth c H locs (7 + k) (2541 + 6 * k) (lw_Z below #[Value.ref b] s) (F0 m 23 ls []) := by
  have C1 := C0
  obtain ⟨hx, hb, hr, hml, hown, hts, hX, hbl, hlocks, hgv⟩ := C0
  have hbA : ¬ (fun q : Nat => s.heap.size ≤ q) b := Nat.not_le.mpr hbl
  intro n
  induction n with
  | zero =>
    intro k st h1 h2
    exact absurd h2 (by omega)
  | succ n ih =>
    intro k st hk hkn hI H locs ls hPc hPm hPo hS hl
    refine lv_iload hx hb d_L_law_23 (lv_at hl 4 rfl) ?_
    refine lv_aload_n hx hb d_L_law_25 rfl (lv_at hl 0 rfl) ?_
    refine va_slen hx hb hX hbl hbA hS d_L_law_26 ?_
    refine lv_bipush (v := 6) hx hb d_L_law_27 (by decide) ?_
    refine lv_isub hx hb d_L_law_29 ?_
    have e6 : (nI L - 6 : Int32).toInt = (L : Int) - 6 := pk_sub_toInt (a := L) (b := 6) (by omega) (by decide)
    have ek : (nI (6 * k)).toInt = ((6 * k : Nat) : Int) := nI_toInt (by omega)
    refine lv_icmp_gt (tgt := 782) hx hb d_L_law_30 (by decide) (fun c_1 => ?_) (fun c_1 => ?_)
    · refine lv_iconst (v := 1) hx hb d_L_law_782 (by decide) ?_
      refine va_forget (fun q hq => hS.2.2 q hq) ?_
      refine W.widen (k := 1038) (n := 10775) (by omega) (by omega) ?_
      exact lw_ret hx hb hr hlocks d_L_law_783
    · have hk6 : 6 * k + 6 ≤ L := by
        have h9 : ¬ ((L : Int) - 6 < ((6 * k : Nat) : Int)) := fun z => c_1 (Int32.lt_iff_toInt_lt.mpr (by rw [ek]; (rw [show (Int32.ofNat L - 6).toInt = (L : Int) - 6 from e6]; exact z)))
        omega
      have hin : vp_in (nI (6 * k)) L := vp_in_nI (by omega) (by omega)
      have ecl : (nI (6 * k)).toNatClampNeg = 6 * k := nI_clamp (by omega)
      refine lv_aload_n hx hb d_L_law_33 rfl (lv_at hl 0 rfl) ?_
      refine lv_iload hx hb d_L_law_34 (lv_at hl 4 rfl) ?_
      refine va_sld hx hb hX hbl hbA hS hin d_L_law_36 ?_
      refine lv_bipush (v := 15) hx hb d_L_law_37 (by decide) ?_
      refine lv_iand hx hb d_L_law_39 ?_
      rw [ecl]
      have hcs : 7 + k + 1 ≤ 1038 ∧ 2541 + 6 * k + 6 ≤ 10775 := by omega
      have kk : ∀ st' : lST, I st' → ∀ (H : Heap) (locs : List Loc) (ls : Array Slot), va_P (dC, dI) cls2 (wC cA h0 o st'.1 st'.2.1) H → va_P (dC, dI) cls2 (wM cI h1 rw pt ou st'.2.2.1 mR st'.2.2.2.1 st'.2.2.2.2.1 st'.2.2.2.2.2.1 st'.2.2.2.2.2.2.1) H → va_P (dC, dI) cls2 (wO cL oa st'.2.2.2.2.2.2.2) H → va_S (fun q => s.heap.size ≤ q) s.heap H locs → lv_has ls 7 [(0, .ref (b)), (1, .ref (h0)), (2, .ref (h1)), (3, .ref (oa)), (4, .int (nI (6 * k)))] → W p l e room_1 s m #[Value.ref b] below meth c H locs (7 + k + 1) (2541 + 6 * k + 6) (lw_Z below #[Value.ref b] s) (F0 m 776 ls []) := by
        intro st' hI' H locs ls hPc hPm hPo hS hl
        refine lv_iinc (v := nI (6 * (k + 1))) (lv' := [(4, .int (nI (6 * (k + 1)))), (0, .ref (b)), (1, .ref (h0)), (2, .ref (h1)), (3, .ref (oa))]) hx hb d_L_law_776 hl (k := 4) rfl (nI_add (6 * k) 6) (by decide) rfl (fun ls hl => ?_)
        refine lv_goto (tgt := 23) hx hb d_L_law_779 (by decide) ?_
        exact ih (k + 1) st' (by omega) (by omega) hI' H locs ls hPc hPm hPo hS (lv_sub hl [1, 2, 3, 4, 0] rfl)
      have hst := hq k st hk6 hI
      by_cases e_0 : xs (6 * k) &&& 15 = 0
      · obtain ⟨st', hf, hI'⟩ := hst.1 e_0
        refine lv_tableIn (tgt := 104) hx hb d_L_law_40 (by rw [e_0]; decide) (by rw [e_0]; decide) (by rw [e_0]; rfl) (by decide) ?_
        exact lc_0 hfl C1 dC dI hT hXb hN hK hd hcs (nI (6 * k)) st.1 st.2.1 st.2.2.1 st.2.2.2.1 st.2.2.2.2.1 st.2.2.2.2.2.1 st.2.2.2.2.2.2.1 st.2.2.2.2.2.2.2 st' hf (kk st' hI') H locs ls hPc hPm hPo hS hl
      · skip
        by_cases e_1 : xs (6 * k) &&& 15 = 1
        · obtain ⟨st', hf, hI'⟩ := hst.2.1 e_1
          refine lv_tableIn (tgt := 208) hx hb d_L_law_40 (by rw [e_1]; decide) (by rw [e_1]; decide) (by rw [e_1]; rfl) (by decide) ?_
          exact lc_1 hfl C1 dC dI hT hXb hN hK hd hcs (nI (6 * k)) st.1 st.2.1 st.2.2.1 st.2.2.2.1 st.2.2.2.2.1 st.2.2.2.2.2.1 st.2.2.2.2.2.2.1 st.2.2.2.2.2.2.2 st' hf (kk st' hI') H locs ls hPc hPm hPo hS hl
        · skip
          by_cases e_2 : xs (6 * k) &&& 15 = 2
          · obtain ⟨st', hf, hI'⟩ := hst.2.2.1 e_2
            refine lv_tableIn (tgt := 233) hx hb d_L_law_40 (by rw [e_2]; decide) (by rw [e_2]; decide) (by rw [e_2]; rfl) (by decide) ?_
            exact lc_2 hfl C1 dC dI hT hXb hN hK hd hcs (nI (6 * k)) st.1 st.2.1 st.2.2.1 st.2.2.2.1 st.2.2.2.2.1 st.2.2.2.2.2.1 st.2.2.2.2.2.2.1 st.2.2.2.2.2.2.2 st' hf (kk st' hI') H locs ls hPc hPm hPo hS hl
          · skip
            by_cases e_3 : xs (6 * k) &&& 15 = 3
            · obtain ⟨st', hf, hI'⟩ := hst.2.2.2.1 e_3
              refine lv_tableIn (tgt := 258) hx hb d_L_law_40 (by rw [e_3]; decide) (by rw [e_3]; decide) (by rw [e_3]; rfl) (by decide) ?_
              exact lc_3 hfl C1 dC dI hT hXb hN hK hd hcs (nI (6 * k)) st.1 st.2.1 st.2.2.1 st.2.2.2.1 st.2.2.2.2.1 st.2.2.2.2.2.1 st.2.2.2.2.2.2.1 st.2.2.2.2.2.2.2 st' hf (kk st' hI') H locs ls hPc hPm hPo hS hl
            · skip
              by_cases e_4 : xs (6 * k) &&& 15 = 4
              · obtain ⟨st', hf, hI'⟩ := hst.2.2.2.2.1 e_4
                refine lv_tableIn (tgt := 326) hx hb d_L_law_40 (by rw [e_4]; decide) (by rw [e_4]; decide) (by rw [e_4]; rfl) (by decide) ?_
                exact lc_4 hfl C1 dC dI hT hXb hN hK hd hcs (nI (6 * k)) st.1 st.2.1 st.2.2.1 st.2.2.2.1 st.2.2.2.2.1 st.2.2.2.2.2.1 st.2.2.2.2.2.2.1 st.2.2.2.2.2.2.2 st' hf (kk st' hI') H locs ls hPc hPm hPo hS hl
              · skip
                by_cases e_5 : xs (6 * k) &&& 15 = 5
                · obtain ⟨st', hf, hI'⟩ := hst.2.2.2.2.2.1 e_5
                  refine lv_tableIn (tgt := 382) hx hb d_L_law_40 (by rw [e_5]; decide) (by rw [e_5]; decide) (by rw [e_5]; rfl) (by decide) ?_
                  exact lc_5 hfl C1 dC dI hT hXb hN hK hd hcs (nI (6 * k)) st.1 st.2.1 st.2.2.1 st.2.2.2.1 st.2.2.2.2.1 st.2.2.2.2.2.1 st.2.2.2.2.2.2.1 st.2.2.2.2.2.2.2 st' hf (kk st' hI') H locs ls hPc hPm hPo hS hl
                · skip
                  by_cases e_6 : xs (6 * k) &&& 15 = 6
                  · obtain ⟨st', hf, hI'⟩ := hst.2.2.2.2.2.2.1 e_6
                    refine lv_tableIn (tgt := 407) hx hb d_L_law_40 (by rw [e_6]; decide) (by rw [e_6]; decide) (by rw [e_6]; rfl) (by decide) ?_
                    exact lc_6 hfl C1 dC dI hT hXb hN hK hd hcs (nI (6 * k)) st.1 st.2.1 st.2.2.1 st.2.2.2.1 st.2.2.2.2.1 st.2.2.2.2.2.1 st.2.2.2.2.2.2.1 st.2.2.2.2.2.2.2 st' hf (kk st' hI') H locs ls hPc hPm hPo hS hl
                  · skip
                    by_cases e_7 : xs (6 * k) &&& 15 = 7
                    · obtain ⟨st', hf, hI'⟩ := hst.2.2.2.2.2.2.2.1 e_7
                      refine lv_tableIn (tgt := 507) hx hb d_L_law_40 (by rw [e_7]; decide) (by rw [e_7]; decide) (by rw [e_7]; rfl) (by decide) ?_
                      exact lc_7 hfl C1 dC dI hT hXb hN hK hd hcs (nI (6 * k)) st.1 st.2.1 st.2.2.1 st.2.2.2.1 st.2.2.2.2.1 st.2.2.2.2.2.1 st.2.2.2.2.2.2.1 st.2.2.2.2.2.2.2 st' hf (kk st' hI') H locs ls hPc hPm hPo hS hl
                    · skip
                      by_cases e_8 : xs (6 * k) &&& 15 = 8
                      · obtain ⟨st', hf, hI'⟩ := hst.2.2.2.2.2.2.2.2.1 e_8
                        refine lv_tableIn (tgt := 576) hx hb d_L_law_40 (by rw [e_8]; decide) (by rw [e_8]; decide) (by rw [e_8]; rfl) (by decide) ?_
                        exact lc_8 hfl C1 dC dI hT hXb hN hK hd hcs (nI (6 * k)) st.1 st.2.1 st.2.2.1 st.2.2.2.1 st.2.2.2.2.1 st.2.2.2.2.2.1 st.2.2.2.2.2.2.1 st.2.2.2.2.2.2.2 st' hf (kk st' hI') H locs ls hPc hPm hPo hS hl
                      · skip
                        by_cases e_9 : xs (6 * k) &&& 15 = 9
                        · obtain ⟨st', hf, hI'⟩ := hst.2.2.2.2.2.2.2.2.2.1 e_9
                          refine lv_tableIn (tgt := 613) hx hb d_L_law_40 (by rw [e_9]; decide) (by rw [e_9]; decide) (by rw [e_9]; rfl) (by decide) ?_
                          exact lc_9 hfl C1 dC dI hT hXb hN hK hd hcs (nI (6 * k)) st.1 st.2.1 st.2.2.1 st.2.2.2.1 st.2.2.2.2.1 st.2.2.2.2.2.1 st.2.2.2.2.2.2.1 st.2.2.2.2.2.2.2 st' hf (kk st' hI') H locs ls hPc hPm hPo hS hl
                        · skip
                          by_cases e_10 : xs (6 * k) &&& 15 = 10
                          · obtain ⟨st', hf, hI'⟩ := hst.2.2.2.2.2.2.2.2.2.2.1 e_10
                            refine lv_tableIn (tgt := 638) hx hb d_L_law_40 (by rw [e_10]; decide) (by rw [e_10]; decide) (by rw [e_10]; rfl) (by decide) ?_
                            exact lc_10 hfl C1 dC dI hT hXb hN hK hd hcs (nI (6 * k)) st.1 st.2.1 st.2.2.1 st.2.2.2.1 st.2.2.2.2.1 st.2.2.2.2.2.1 st.2.2.2.2.2.2.1 st.2.2.2.2.2.2.2 st' hf (kk st' hI') H locs ls hPc hPm hPo hS hl
                          · skip
                            by_cases e_11 : xs (6 * k) &&& 15 = 11
                            · obtain ⟨st', hf, hI'⟩ := hst.2.2.2.2.2.2.2.2.2.2.2 e_11
                              refine lv_tableIn (tgt := 739) hx hb d_L_law_40 (by rw [e_11]; decide) (by rw [e_11]; decide) (by rw [e_11]; rfl) (by decide) ?_
                              exact lc_11 hfl C1 dC dI hT hXb hN hK hd hcs (nI (6 * k)) st.1 st.2.1 st.2.2.1 st.2.2.2.1 st.2.2.2.2.1 st.2.2.2.2.2.1 st.2.2.2.2.2.2.1 st.2.2.2.2.2.2.2 st' hf (kk st' hI') H locs ls hPc hPm hPo hS hl
                            · skip
                              refine lv_tableOut (tgt := 776) hx hb d_L_law_40 (by have q0 := lv_neT e_0 (k := 0) (a := 0) rfl; have q1 := lv_neT e_1 (k := 1) (a := 1) rfl; have q2 := lv_neT e_2 (k := 2) (a := 2) rfl; have q3 := lv_neT e_3 (k := 3) (a := 3) rfl; have q4 := lv_neT e_4 (k := 4) (a := 4) rfl; have q5 := lv_neT e_5 (k := 5) (a := 5) rfl; have q6 := lv_neT e_6 (k := 6) (a := 6) rfl; have q7 := lv_neT e_7 (k := 7) (a := 7) rfl; have q8 := lv_neT e_8 (k := 8) (a := 8) rfl; have q9 := lv_neT e_9 (k := 9) (a := 9) rfl; have q10 := lv_neT e_10 (k := 10) (a := 10) rfl; have q11 := lv_neT e_11 (k := 11) (a := 11) rfl; omega) (by decide) ?_
                              refine W.widen (k := 7 + k + 1) (n := 2541 + 6 * k + 6) (by omega) (by omega) ?_
                              exact kk st hI H locs ls hPc hPm hPo hS hl
