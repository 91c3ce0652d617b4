/-! long answers, and the reference's world -/
def QcReadL (r : Int64) : Array Value → State → Outcome → State → Prop := fun _ st o t => o = .returned (some (.long r)) ∧ t.heap = st.heap
theorem ju_calll {p : Program} {l : Launch} {e : Env} {R : Room} {s : State} {m : MethodId} {args : Array Value} {below : List Frame} {meth : Method} {c : Code} {H : Heap} {locs : List Loc} {cells slots : Nat} {Q : State → Prop} {pc : Nat} {ls : Array Slot} {rest st0 : List Value} {a : Array Value} {r : Int64} (hr : CallRun p l e R s m args below meth c H locs cells slots 0 0 (F0 m pc ls st0) rest (QcReadL r a) (fun _ => False))
    (kk : W p l e R s m args below meth c H locs cells slots Q (F0 m (pc + 3) ls (.long r :: rest))) : W p l e R s m args below meth c H locs cells slots Q (F0 m pc ls st0) := by
  intro T hT X
  obtain ⟨v, st₀, t, T', L, h0, X', hL, e1, ⟨hv, hh⟩, st⟩ := hr T hT X
  cases hv
  obtain ⟨t2, a1, b1⟩ := kk T' (by rw [e1, hh, h0]) (Stand.forget X' (fun q h => (hL q h).elim))
  exact ⟨t2, st t2 a1, b1⟩
theorem ju_out : ∀ (n : Nat) {x : Int32}, (∀ j, j < n → ¬ x = nI j) → n < 2 ^ 31 → x.toInt < 0 ∨ (n : Int) ≤ x.toInt := by
  intro n x h hn
  by_cases h0 : x < 0
  · exact Or.inl (by simpa using Int32.lt_iff_toInt_lt.mp h0)
  · obtain ⟨j, hj, rfl⟩ := nI_of h0
    right
    rw [nI_toInt hj]
    rcases Nat.lt_or_ge j n with q | q
    · exact absurd rfl (h j q)
    · omega
abbrev aM (h0 rw pt ou : Nat) : Nat → Prop := fun q => q = h0 ∨ q = rw ∨ q = pt ∨ q = ou
abbrev wM (cI : ClassId) (h0 rw pt ou : Nat) (th : Int32) (rf pf of : Nat → Int32) (sz bg : Int32) : va_W := [(h0, .inr (1, [.int th, .ref rw, .ref pt, .ref ou, .int sz, .int bg])), (rw, .inl (cI, 2400, .inl rf)), (pt, .inl (cI, 4, .inl pf)), (ou, .inl (cI, 80, .inl of))]
/-- the reference's rows: 75 of 32 places -/
def gg (M : List (List Int32)) (j : Nat) : Int32 := (M.getD (j / 32) []).getD (j % 32) 0
def gs (M : List (List Int32)) (j : Nat) (v : Int32) : List (List Int32) := M.set (j / 32) ((M.getD (j / 32) []).set (j % 32) v)
def gw (M : List (List Int32)) : Prop := M.length = 75 ∧ ∀ k, k < 75 → (M.getD k []).length = 32
theorem gw_gs {M : List (List Int32)} (h : gw M) {j : Int32} (hj : ¬ (j < 0 ∨ 2400 ≤ j.toNatClampNeg)) {v : Int32} : gw (gs M j.toNatClampNeg v) := by
  have hlt : j.toNatClampNeg < 2400 := by omega
  refine ⟨by rw [gs, List.length_set]; exact h.1, fun k hk => ?_⟩
  rw [gs]
  by_cases e : j.toNatClampNeg / 32 = k
  · subst e
    rw [List.getD_eq_getElem?_getD, List.getElem?_set_self (by rw [h.1]; omega), Option.getD_some, List.length_set]
    exact h.2 _ hk
  · rw [List.getD_eq_getElem?_getD, List.getElem?_set_ne e, ← List.getD_eq_getElem?_getD]
    exact h.2 k hk
theorem gs_upd {M : List (List Int32)} (h : gw M) {j : Int32} (hj : ¬ (j < 0 ∨ 2400 ≤ j.toNatClampNeg)) {v : Int32} : gg (gs M j.toNatClampNeg v) = upd (gg M) j.toNatClampNeg v := by
  have hlt : j.toNatClampNeg < 2400 := by omega
  generalize j.toNatClampNeg = n at hlt
  funext k
  have h32 := h.2 (n / 32) (by omega)
  have hl : n / 32 < M.length := by rw [h.1]; omega
  by_cases e : k = n
  · subst e
    rw [upd, if_pos rfl, gg, gs, List.getD_eq_getElem?_getD (l := M.set _ _), List.getElem?_set_self hl, Option.getD_some, List.getD_eq_getElem?_getD, List.getElem?_set_self (by rw [h32]; omega), Option.getD_some]
  · rw [upd, if_neg e, gg, gg, gs]
    by_cases e2 : n / 32 = k / 32
    · rw [← e2, List.getD_eq_getElem?_getD (l := M.set _ _), List.getElem?_set_self hl, Option.getD_some]
      have e3 : n % 32 ≠ k % 32 := fun q => e (by omega)
      rw [List.getD_eq_getElem?_getD, List.getElem?_set_ne e3, ← List.getD_eq_getElem?_getD]
    · rw [List.getD_eq_getElem?_getD (l := M.set _ _), List.getElem?_set_ne e2, ← List.getD_eq_getElem?_getD]
