def mT : List (List Int32) := [[1, 1, 1, 0, 1, 1, 0, 100, 101, 102, 103, 104, 400, 401, 402, 403, 404, 405, 406, 407, 408, 409, 410, 411, 412, 413, 414, 415, 416, 417, 418, 419], [1, 1, 1, 0, 1, 0, 0, 100, 101, 102, 103, 104, 400, 401, 402, 403, 404, 405, 406, 407, 408, 409, 410, 411, 412, 413, 414, 415, 416, 417, 418, 419], [1, 1, 1, 1, 0, 1, 1, 100, 101, 102, 103, 104, 412, 413, 414, 415, 416, 417, 418, 419, 411, 401, 402, 403, 404, 405, 406, 407, 408, 409, 410, 420], [1, 1, 1, 0, 0, 1, 1, 100, 101, 102, 103, 104, 0, 0, 0, 200, 201, 202, 203, 204, 400, 401, 402, 403, 404, 405, 406, 407, 408, 409, 410, 411], [1, 1, 0, 0, 0, 1, 1, 411, 401, 402, 403, 404, 0, 0, 0, 200, 201, 202, 203, 204, 300, 301, 302, 303, 304, 405, 406, 407, 408, 409, 410, 412], [1, 1, 0, 0, 0, 1, 1, 411, 401, 402, 403, 404, 1, 0, 0, 200, 201, 202, 203, 204, 300, 301, 302, 303, 304, 405, 406, 407, 408, 409, 410, 412], [1, 1, 0, 0, 0, 1, 1, 411, 401, 402, 403, 404, 0, 0, 1, 200, 201, 202, 203, 204, 300, 301, 302, 303, 304, 405, 406, 407, 408, 409, 410, 412], [1, 1, 0, 0, 0, 1, 1, 411, 401, 402, 403, 404, 1, 0, 1, 200, 201, 202, 203, 204, 300, 301, 302, 303, 304, 405, 406, 407, 408, 409, 410, 412], [1, 1, 0, 0, 0, 1, 1, 411, 401, 402, 403, 404, 0, 1, 1, 200, 201, 202, 203, 204, 300, 301, 302, 303, 304, 405, 406, 407, 408, 409, 410, 412], [1, 1, 0, 0, 0, 1, 1, 411, 401, 402, 403, 404, 1, 1, 1, 200, 201, 202, 203, 204, 300, 301, 302, 303, 304, 405, 406, 407, 408, 409, 410, 412], [1, 1, 0, 0, 0, 0, 0, 100, 101, 102, 103, 104, 0, 0, 0, 200, 201, 202, 203, 204, 400, 401, 402, 403, 404, 405, 406, 407, 408, 409, 410, 411], [1, 1, 0, 0, 0, 0, 0, 100, 101, 102, 103, 104, 1, 0, 0, 200, 201, 202, 203, 204, 400, 401, 402, 403, 404, 405, 406, 407, 408, 409, 410, 411], [1, 1, 0, 0, 0, 0, 0, 100, 101, 102, 103, 104, 0, 1, 0, 200, 201, 202, 203, 204, 400, 401, 402, 403, 404, 405, 406, 407, 408, 409, 410, 411], [1, 1, 0, 0, 0, 0, 0, 100, 101, 102, 103, 104, 0, 0, 1, 200, 201, 202, 203, 204, 400, 401, 402, 403, 404, 405, 406, 407, 408, 409, 410, 411], [1, 1, 0, 0, 0, 0, 0, 100, 101, 102, 103, 104, 1, 0, 1, 200, 201, 202, 203, 204, 400, 401, 402, 403, 404, 405, 406, 407, 408, 409, 410, 411], [1, 1, 0, 0, 0, 1, 0, 400, 401, 402, 403, 404, 0, 0, 0, 200, 201, 202, 203, 204, 300, 301, 302, 303, 304, 405, 406, 407, 408, 409, 410, 411], [1, 1, 0, 0, 0, 1, 0, 400, 401, 402, 403, 404, 1, 0, 0, 200, 201, 202, 203, 204, 300, 301, 302, 303, 304, 405, 406, 407, 408, 409, 410, 411], [1, 1, 0, 0, 0, 1, 0, 400, 401, 402, 403, 404, 0, 1, 0, 200, 201, 202, 203, 204, 300, 301, 302, 303, 304, 405, 406, 407, 408, 409, 410, 411], [1, 1, 0, 0, 1, 0, 0, 100, 101, 102, 103, 104, 0, 0, 0, 200, 201, 202, 203, 204, 400, 401, 402, 403, 404, 405, 406, 407, 408, 409, 410, 411], [1, 1, 0, 0, 1, 0, 0, 100, 101, 102, 103, 104, 0, 1, 0, 200, 201, 202, 203, 204, 400, 401, 402, 403, 404, 405, 406, 407, 408, 409, 410, 411], [1, 1, 0, 0, 1, 0, 0, 100, 101, 102, 103, 104, 1, 1, 0, 200, 201, 202, 203, 204, 400, 401, 402, 403, 404, 405, 406, 407, 408, 409, 410, 411], [1, 1, 0, 0, 1, 0, 0, 100, 101, 102, 103, 104, 0, 0, 1, 200, 201, 202, 203, 204, 400, 401, 402, 403, 404, 405, 406, 407, 408, 409, 410, 411], [1, 1, 0, 0, 1, 0, 0, 100, 101, 102, 103, 104, 0, 1, 1, 200, 201, 202, 203, 204, 400, 401, 402, 403, 404, 405, 406, 407, 408, 409, 410, 411], [1, 1, 0, 0, 1, 0, 0, 100, 101, 102, 103, 104, 1, 1, 1, 200, 201, 202, 203, 204, 400, 401, 402, 403, 404, 405, 406, 407, 408, 409, 410, 411], [1, 1, 0, 0, 1, 0, 0, 100, 101, 102, 103, 104, 1, 0, 0, 200, 201, 202, 203, 204, 400, 401, 402, 403, 404, 0, 0, 0, 0, 0, 0, 0], [1, 1, 0, 0, 1, 0, 0, 100, 101, 102, 103, 104, 1, 0, 1, 200, 201, 202, 203, 204, 400, 401, 402, 403, 404, 0, 0, 0, 0, 0, 0, 0], [1, 1, 0, 0, 1, 0, 0, 100, 101, 102, 103, 104, 1, 0, 1, 200, 201, 202, 203, 204, 400, 401, 402, 403, 404, 0, 0, 0, 0, 0, 1, 0], [1, 1, 0, 0, 1, 1, 0, 100, 101, 102, 103, 104, 0, 0, 0, 200, 201, 202, 203, 204, 300, 301, 302, 303, 304, 0, 0, 0, 0, 0, 0, 0], [1, 1, 0, 0, 1, 1, 0, 100, 101, 102, 103, 104, 0, 0, 0, 200, 201, 202, 203, 204, 300, 301, 302, 303, 304, 0, 0, 0, 0, 0, 1, 0], [1, 1, 0, 0, 1, 1, 0, 100, 101, 102, 103, 104, 1, 0, 0, 200, 201, 202, 203, 204, 300, 301, 302, 303, 304, 0, 0, 0, 0, 0, 0, 0], [1, 1, 0, 0, 1, 1, 0, 100, 101, 102, 103, 104, 0, 1, 0, 200, 201, 202, 203, 204, 300, 301, 302, 303, 304, 0, 0, 0, 0, 0, 0, 0], [1, 1, 0, 0, 1, 1, 0, 100, 101, 102, 103, 104, 1, 1, 0, 200, 201, 202, 203, 204, 300, 301, 302, 303, 304, 0, 0, 0, 0, 0, 0, 0], [1, 1, 0, 0, 1, 1, 0, 100, 101, 102, 103, 104, 0, 0, 1, 200, 201, 202, 203, 204, 300, 301, 302, 303, 304, 0, 0, 0, 0, 0, 0, 0], [1, 1, 0, 0, 1, 1, 0, 100, 101, 102, 103, 104, 1, 0, 1, 200, 201, 202, 203, 204, 300, 301, 302, 303, 304, 0, 0, 0, 0, 0, 0, 0], [1, 1, 0, 0, 1, 1, 0, 100, 101, 102, 103, 104, 1, 0, 1, 200, 201, 202, 203, 204, 300, 301, 302, 303, 304, 0, 0, 0, 0, 0, 1, 0], [1, 1, 0, 0, 1, 1, 0, 100, 101, 102, 103, 104, 0, 1, 1, 200, 201, 202, 203, 204, 300, 301, 302, 303, 304, 0, 0, 0, 0, 0, 0, 0], [1, 1, 0, 0, 1, 1, 0, 100, 101, 102, 103, 104, 1, 1, 1, 200, 201, 202, 203, 204, 300, 301, 302, 303, 304, 0, 0, 0, 0, 0, 0, 0], [1, 1, 0, 0, 1, 1, 0, 100, 101, 102, 103, 104, 0, 0, 0, 200, 201, 202, 203, 204, 300, 301, 302, 303, 304, 1, 0, 0, 0, 0, 0, 0], [1, 1, 0, 0, 1, 1, 0, 100, 101, 102, 103, 104, 1, 0, 0, 200, 201, 202, 203, 204, 300, 301, 302, 303, 304, 1, 0, 0, 0, 0, 0, 0], [1, 1, 0, 0, 1, 1, 0, 100, 101, 102, 103, 104, 0, 1, 0, 200, 201, 202, 203, 204, 300, 301, 302, 303, 304, 1, 0, 0, 0, 0, 0, 0], [1, 1, 0, 0, 1, 1, 0, 100, 101, 102, 103, 104, 1, 1, 0, 200, 201, 202, 203, 204, 300, 301, 302, 303, 304, 1, 0, 0, 0, 0, 0, 0], [1, 1, 0, 0, 1, 1, 0, 100, 101, 102, 103, 104, 0, 0, 1, 200, 201, 202, 203, 204, 300, 301, 302, 303, 304, 1, 0, 0, 0, 0, 0, 0], [1, 1, 0, 0, 1, 1, 0, 100, 101, 102, 103, 104, 1, 0, 1, 200, 201, 202, 203, 204, 300, 301, 302, 303, 304, 1, 0, 0, 0, 0, 0, 0], [1, 1, 0, 0, 1, 1, 0, 100, 101, 102, 103, 104, 0, 1, 1, 200, 201, 202, 203, 204, 300, 301, 302, 303, 304, 1, 0, 0, 0, 0, 0, 0], [1, 1, 0, 0, 1, 1, 0, 100, 101, 102, 103, 104, 1, 1, 1, 200, 201, 202, 203, 204, 300, 301, 302, 303, 304, 1, 0, 0, 0, 0, 0, 0], [1, 1, 1, 1, 0, 0, 0, 0, 0, 0, 0, 0, 0, 0, 0, 0, 0, 0, 0, 0, 1, 1, 1, 1, 1, 1, 1, 1, 0, 0, 0, 0], [1, 1, 0, 0, 1, 1, 1, 0, 0, 0, 0, 0, 0, 0, 0, 0, 0, 0, 0, 0, 0, 0, 0, 0, 0, 0, 0, 0, 0, 0, 0, 0], [1, 1, 0, 0, 1, 1, 1, 0, 0, 0, 0, 0, 0, 0, 0, 0, 0, 0, 0, 0, 1, 0, 0, 0, 0, 0, 0, 0, 0, 0, 0, 0], [0, 0, 500, 501, 502, 403, 402, 406, 407, 408, 409, 404, 405, 0, 0, 0, 0, 0, 0, 0, 0, 0, 0, 0, 0, 0, 0, 0, 0, 0, 0, 0], [0, 0, 500, 501, 502, 406, 402, 600, 601, 602, 403, 404, 405, 0, 1, 0, 0, 0, 0, 0, 0, 0, 0, 0, 0, 0, 0, 0, 0, 0, 0, 0], [0, 0, 700, 701, 702, 406, 402, 600, 601, 602, 403, 404, 405, 0, 1, 1, 0, 0, 0, 0, 0, 0, 0, 0, 0, 0, 0, 0, 0, 0, 0, 0], [1, 0, 0, 0, 0, 0, 0, 0, 0, 0, 0, 0, 0, 0, 0, 0, 0, 0, 0, 0, 0, 0, 0, 0, 0, 0, 0, 0, 0, 0, 0, 0], [1, 0, 400, 401, 402, 403, 404, 100, 101, 102, 103, 104, 405, 0, 0, 0, 0, 0, 0, 0, 0, 0, 0, 0, 0, 0, 0, 0, 0, 0, 0, 0], [1, 0, 405, 401, 402, 403, 407, 406, 410, 408, 409, 404, 411, 1, 0, 0, 0, 0, 0, 0, 0, 0, 0, 0, 0, 0, 0, 0, 0, 0, 0, 0], [1, 0, 400, 401, 402, 403, 404, 100, 101, 102, 103, 104, 405, 0, 1, 0, 0, 0, 0, 0, 0, 0, 0, 0, 0, 0, 0, 0, 0, 0, 0, 0], [1, 0, 405, 407, 408, 406, 404, 0, 1, 0, 0, 0, 409, 1, 1, 0, 0, 0, 0, 0, 0, 0, 0, 0, 0, 0, 0, 0, 0, 0, 0, 0], [1, 0, 400, 401, 402, 403, 404, 100, 101, 102, 103, 104, 405, 1, 1, 0, 0, 0, 0, 0, 0, 0, 0, 0, 0, 0, 0, 0, 0, 0, 0, 0], [1, 0, 400, 401, 402, 403, 404, 500, 501, 502, 0, 0, 0, 0, 0, 1, 0, 0, 0, 0, 0, 0, 0, 0, 0, 0, 0, 0, 0, 0, 0, 0], [1, 0, 400, 401, 402, 403, 404, 500, 501, 502, 1, 0, 0, 0, 0, 1, 0, 0, 0, 0, 0, 0, 0, 0, 0, 0, 0, 0, 0, 0, 0, 0], [1, 0, 400, 401, 402, 403, 404, 500, 501, 502, 0, 1, 405, 0, 0, 1, 0, 0, 0, 0, 0, 0, 0, 0, 0, 0, 0, 0, 0, 0, 0, 0], [1, 0, 700, 701, 702, 0, 0, 500, 501, 502, 1, 1, 0, 0, 0, 1, 0, 0, 0, 0, 0, 0, 0, 0, 0, 0, 0, 0, 0, 0, 0, 0], [1, 0, 700, 701, 702, 1, 0, 500, 501, 502, 1, 1, 0, 0, 0, 1, 0, 0, 0, 0, 0, 0, 0, 0, 0, 0, 0, 0, 0, 0, 0, 0], [1, 0, 700, 701, 702, 0, 1, 500, 501, 502, 1, 1, 0, 0, 0, 1, 0, 0, 0, 0, 0, 0, 0, 0, 0, 0, 0, 0, 0, 0, 0, 0], [1, 0, 700, 701, 702, 1, 1, 500, 501, 502, 1, 1, 0, 0, 0, 1, 0, 0, 0, 0, 0, 0, 0, 0, 0, 0, 0, 0, 0, 0, 0, 0], [1, 0, 405, 401, 402, 403, 407, 406, 410, 408, 409, 404, 411, 1, 0, 1, 0, 0, 0, 0, 0, 0, 0, 0, 0, 0, 0, 0, 0, 0, 0, 0], [1, 0, 405, 401, 402, 406, 407, 600, 601, 602, 403, 404, 408, 0, 1, 1, 0, 0, 0, 0, 0, 0, 0, 0, 0, 0, 0, 0, 0, 0, 0, 0], [1, 0, 405, 401, 402, 406, 407, 600, 601, 602, 403, 404, 408, 1, 1, 1, 0, 0, 0, 0, 0, 0, 0, 0, 0, 0, 0, 0, 0, 0, 0, 0], [0, 1, 400, 401, 402, 403, 404, 100, 101, 102, 103, 104, 0, 0, 0, 0, 0, 0, 0, 0, 0, 0, 0, 0, 0, 0, 0, 0, 0, 0, 0, 0], [0, 1, 406, 407, 402, 403, 404, 100, 101, 102, 103, 104, 405, 0, 1, 0, 0, 0, 0, 0, 0, 0, 0, 0, 0, 0, 0, 0, 0, 0, 0, 0], [0, 1, 0, 0, 0, 0, 0, 200, 201, 202, 203, 204, 0, 0, 0, 1, 0, 0, 0, 0, 0, 0, 0, 0, 0, 0, 0, 0, 0, 0, 0, 0], [0, 1, 300, 301, 302, 303, 304, 100, 101, 102, 103, 104, 0, 0, 0, 1, 0, 0, 0, 0, 0, 0, 0, 0, 0, 0, 0, 0, 0, 0, 0, 0], [0, 1, 0, 0, 0, 0, 0, 0, 0, 0, 0, 0, 1, 0, 0, 1, 0, 0, 0, 0, 0, 0, 0, 0, 0, 0, 0, 0, 0, 0, 0, 0], [0, 1, 0, 0, 0, 0, 0, 200, 201, 202, 203, 204, 1, 0, 0, 1, 0, 0, 0, 0, 0, 0, 0, 0, 0, 0, 0, 0, 0, 0, 0, 0], [0, 1, 300, 301, 302, 303, 304, 100, 101, 102, 103, 104, 1, 0, 0, 1, 0, 0, 0, 0, 0, 0, 0, 0, 0, 0, 0, 0, 0, 0, 0, 0], [0, 1, 300, 301, 302, 303, 304, 406, 407, 402, 403, 404, 405, 0, 1, 1, 0, 0, 0, 0, 0, 0, 0, 0, 0, 0, 0, 0, 0, 0, 0, 0]]
def mR : Nat → Int32 := gg mT
def f_M_thrown (w_th : Int32) (w_pf : Nat → Int32) (w_of : Nat → Int32) (w_sz : Int32) (w_bg : Int32) : Option (Int32) :=
  some (w_th)
set_option maxHeartbeats 1000000 in
set_option maxRecDepth 100000 in
theorem c_M_thrown (l : Launch) {ad sk sv : Nat → Nat} {tK : Nat} (dC : Nat → ClassId) (dI : Nat → Nat → Nat) (cI : ClassId) (h0 rw pt ou : Nat) (w_th : Int32) (w_pf : Nat → Int32) (w_of : Nat → Int32) (w_sz : Int32) (w_bg : Int32)   (r : Int32) (hf : f_M_thrown w_th w_pf w_of w_sz w_bg = some r) : Met l y_M_thrown (Cond.code y_M_thrown b_M_thrown 1 (Option.some FieldType.int) :: aw) ({ frames := 0, cells := 0, slots := 0, locals := 0 } : Room) (va_Pc [.ref (h0)] (fun U => va_P (dC, dI) cls2 (wM cI h0 rw pt ou w_th mR w_pf w_of w_sz w_bg) U.heap ∧ va_K (dC, dI) cls2 [(cI, .int)] U ∧ va_D (aM h0 rw pt ou) (wM cI h0 rw pt ou w_th mR w_pf w_of w_sz w_bg) ∧ tb ad sk sv tK (aM h0 rw pt ou) U U.heap)) (QcRead r) 0 0 (fun _ => False) := by
  refine Met.ofW (cc := b_M_thrown) (maxL := 1) (ret := (Option.some FieldType.int)) (by decide) rfl ?_
  intro p e s m args below meth c s₁ B hml hv
  obtain ⟨rfl, hP, hK, hD, hT⟩ := hv
  have hD0 := hD
  have hx := B.exec
  have hb := B.bytes
  have hr := B.returns
  have hts := atoms_spec (ws := (Cond.code y_M_thrown b_M_thrown 1 (Option.some FieldType.int) :: aw)) B.pre
  have ht : ∀ {w : Cond}, w ∈ aw → w.before ([.ref (h0)] : List Value).toArray s = true := fun h => hts _ (List.mem_cons_of_mem _ h)
  have hown : s.vm.findClass "CodeWordsModel" = some m.cls := findClass_of_methodNamed B.named
  have hlocks := B.notSynchronized
  have hS : va_S (aM h0 rw pt ou) s.heap s.heap [] := va_S.rf
  have hl := lv_entry ([.ref (h0)]) (n := 1) (Nat.le_of_ble_eq_true rfl)
  rw [lg_entry_eq]
  generalize (lg_sl ([.ref (h0)]) ++ List.replicate (1 - (lg_sl ([.ref (h0)])).length) Slot.unset).toArray = ls at hl ⊢
  have hl : lv_has ls 1 [(0, .ref (h0))] := hl
  rw [f_M_thrown] at hf
  refine lv_aload_n hx hb d_M_thrown_0 rfl (lv_at hl 0 rfl) ?_
  refine va_get (D := (dC, dI)) (ci := 1) (v := .int (w_th)) (C := "CodeWordsModel") (T := F_M) (N := 6) hx hb hts (in_M _) hown hK hP 0 rfl rfl 0 (by decide) (ht aw_439) (fun _ h9 => h9) rfl d_M_thrown_1 ?_
  exact W.iret (v := w_th) hx hb hr (fun t ht hW => ⟨congrArg (fun z => Outcome.returned (some (Value.int z))) (Option.some.inj hf), ht⟩) (fun q h => nomatch h) d_M_thrown_4

def f_M_has_L56 (w_th : Int32) (w_pf : Nat → Int32) (w_of : Nat → Int32) (w_sz : Int32) (w_bg : Int32) (a0 : Int32) (a1 : Int32) (k5 : Int32 → Option (Bool)) (x3 : Int32) (x4 : Int32) (t0 : Int32) : Option (Bool) :=
  if t0 = a1 then (some true) else (k5 (x3 + 1))
def f_M_has_L5 (w_th : Int32) (w_pf : Nat → Int32) (w_of : Nat → Int32) (w_sz : Int32) (w_bg : Int32) (a0 : Int32) (a1 : Int32)  : Nat → Int32 → Option (Bool)
  | 0, _ => none
  | n + 1, x3 =>
    (f_M_bitsOf a0).bind fun r_1 => if ((32 * a0) + r_1) ≤ x3 then (some false) else (if x3 < 0 ∨ 2400 ≤ x3.toNatClampNeg then none else if x3 < 0 ∨ 2400 ≤ x3.toNatClampNeg then none else if (mR x3.toNatClampNeg) ≤ 1 then (f_M_has_L5 w_th w_pf w_of w_sz w_bg a0 a1  n (x3 + 1)) else (if (((mR x3.toNatClampNeg) / 100) - 1) ≤ 3 then (f_M_has_L56 w_th w_pf w_of w_sz w_bg a0 a1 (fun y0 => f_M_has_L5 w_th w_pf w_of w_sz w_bg a0 a1  n y0) x3 (((mR x3.toNatClampNeg) / 100) - 1) (((mR x3.toNatClampNeg) / 100) - 1)) else (f_M_has_L56 w_th w_pf w_of w_sz w_bg a0 a1 (fun y0 => f_M_has_L5 w_th w_pf w_of w_sz w_bg a0 a1  n y0) x3 (((mR x3.toNatClampNeg) / 100) - 1) ((((mR x3.toNatClampNeg) / 100) - 1) - 4))))
def f_M_has (w_th : Int32) (w_pf : Nat → Int32) (w_of : Nat → Int32) (w_sz : Int32) (w_bg : Int32) (a0 : Int32) (a1 : Int32) : Option (Bool) :=
  f_M_has_L5 w_th w_pf w_of w_sz w_bg a0 a1  80 (32 * a0)
set_option maxHeartbeats 1000000 in
set_option maxRecDepth 100000 in
theorem c_M_has (l : Launch) {ad sk sv : Nat → Nat} {tK : Nat} (dC : Nat → ClassId) (dI : Nat → Nat → Nat) (cI : ClassId) (h0 rw pt ou : Nat) (w_th : Int32) (w_pf : Nat → Int32) (w_of : Nat → Int32) (w_sz : Int32) (w_bg : Int32) (a0 : Int32) (a1 : Int32)  (r : Bool) (hf : f_M_has w_th w_pf w_of w_sz w_bg a0 a1 = some r) : Met l y_M_has (Cond.code y_M_has b_M_has 5 (Option.some FieldType.boolean) :: aw) ({ frames := 1, cells := 0, slots := 0, locals := 20 } : Room) (va_Pc [.ref (h0), .int (a0), .int (a1)] (fun U => va_P (dC, dI) cls2 (wM cI h0 rw pt ou w_th mR w_pf w_of w_sz w_bg) U.heap ∧ va_K (dC, dI) cls2 [(cI, .int)] U ∧ va_D (aM h0 rw pt ou) (wM cI h0 rw pt ou w_th mR w_pf w_of w_sz w_bg) ∧ tb ad sk sv tK (aM h0 rw pt ou) U U.heap)) (QcRead (bI r)) 0 0 (fun _ => False) := by
  refine Met.ofW (cc := b_M_has) (maxL := 5) (ret := (Option.some FieldType.boolean)) (by decide) rfl ?_
  intro p e s m args below meth c s₁ B hml hv
  obtain ⟨rfl, hP, hK, hD, hT⟩ := hv
  have hD0 := hD
  have hx := B.exec
  have hb := B.bytes
  have hr := B.returns
  have hts := atoms_spec (ws := (Cond.code y_M_has b_M_has 5 (Option.some FieldType.boolean) :: aw)) B.pre
  have ht : ∀ {w : Cond}, w ∈ aw → w.before ([.ref (h0), .int (a0), .int (a1)] : List Value).toArray s = true := fun h => hts _ (List.mem_cons_of_mem _ h)
  have hown : s.vm.findClass "CodeWordsModel" = some m.cls := findClass_of_methodNamed B.named
  have hlocks := B.notSynchronized
  have hS : va_S (aM h0 rw pt ou) s.heap s.heap [] := va_S.rf
  have hl := lv_entry ([.ref (h0), .int (a0), .int (a1)]) (n := 5) (Nat.le_of_ble_eq_true rfl)
  rw [lg_entry_eq]
  generalize (lg_sl ([.ref (h0), .int (a0), .int (a1)]) ++ List.replicate (5 - (lg_sl ([.ref (h0), .int (a0), .int (a1)])).length) Slot.unset).toArray = ls at hl ⊢
  have hl : lv_has ls 5 [(0, .ref (h0)), (1, .int (a0)), (2, .int (a1))] := hl
  have J5 : ∀ (n : Nat) (x3 : Int32) (ls : Array Slot), lv_has ls 5 [(0, .ref (h0)), (1, .int (a0)), (2, .int (a1)), (3, .int (x3))] → f_M_has_L5 w_th w_pf w_of w_sz w_bg a0 a1  n x3 = some r → W p l e (headSpec (Cond.code y_M_has b_M_has 5 (Option.some FieldType.boolean) :: aw) ({ frames := 1, cells := 0, slots := 0, locals := 20 } : Room)).room s m ([.ref (h0), .int (a0), .int (a1)] : List Value).toArray below meth c s.heap [] 0 0 (MQ below (QcRead (bI r)) ([.ref (h0), .int (a0), .int (a1)] : List Value).toArray s 0 0 (fun _ => False)) (F0 m 5 ls []) := by
    intro n
    induction n with
    | zero =>
      intro x3  ls  hl hf
      rw [f_M_has_L5] at hf
      cases hf
    | succ n ih =>
      intro x3  ls  hl hf
      rw [f_M_has_L5] at hf
      have J56 : ∀ (x3 : Int32) (x4 : Int32) (t0 : Int32) (ls : Array Slot), lv_has ls 5 [(0, .ref (h0)), (1, .int (a0)), (2, .int (a1)), (3, .int (x3)), (4, .int (x4))] → f_M_has_L56 w_th w_pf w_of w_sz w_bg a0 a1 (fun y0 => f_M_has_L5 w_th w_pf w_of w_sz w_bg a0 a1  n y0) x3 x4 t0 = some r → W p l e (headSpec (Cond.code y_M_has b_M_has 5 (Option.some FieldType.boolean) :: aw) ({ frames := 1, cells := 0, slots := 0, locals := 20 } : Room)).room s m ([.ref (h0), .int (a0), .int (a1)] : List Value).toArray below meth c s.heap [] 0 0 (MQ below (QcRead (bI r)) ([.ref (h0), .int (a0), .int (a1)] : List Value).toArray s 0 0 (fun _ => False)) (F0 m 56 ls [.int (t0)]) := by
        intro x3 x4 t0  ls  hl hf
        rw [f_M_has_L56] at hf
        refine lv_iload_n hx hb d_M_has_56 rfl (lv_at hl 2 rfl) ?_
        refine lv_icmp_ne (tgt := 62) hx hb d_M_has_57 (by decide) (fun c_8 => ?_) (fun c_8 => ?_)
        · replace hf := (if_neg c_8).symm.trans hf
          refine lv_iinc (v := x3 + 1) (lv' := [(3, .int (x3 + 1)), (0, .ref (h0)), (1, .int (a0)), (2, .int (a1)), (4, .int (x4))]) hx hb d_M_has_62 hl (k := 3) rfl rfl (by decide) rfl (fun ls hl => ?_)
          refine lv_goto (tgt := 5) hx hb d_M_has_65 (by decide) ?_
          exact ih (x3 + 1)  _  (lv_sub hl [1, 2, 3, 0] rfl) hf
        · replace hf := (if_pos c_8).symm.trans hf
          refine lv_iconst (v := 1) hx hb d_M_has_60 (by decide) ?_
          exact W.zret (v := 1) hx hb hr (ju_nz true) (fun t ht hW => ⟨congrArg (fun z => Outcome.returned (some (Value.int (bI z)))) (Option.some.inj hf), ht⟩) (fun q h => nomatch h) d_M_has_61
      refine lv_iload_n hx hb d_M_has_5 rfl (lv_at hl 3 rfl) ?_
      refine lv_bipush (v := 32) hx hb d_M_has_6 (by decide) ?_
      refine lv_iload_n hx hb d_M_has_8 rfl (lv_at hl 1 rfl) ?_
      refine lv_imul hx hb d_M_has_9 ?_
      refine lv_iload_n hx hb d_M_has_10 rfl (lv_at hl 1 rfl) ?_
      obtain ⟨r_1, g_2, hf⟩ := Option.bind_eq_some_iff.mp hf
      refine ju_calli (W.runS (As := [.int (a0)]) (rest := [.int (32 * a0), .int (x3)]) ⟨hx, hb, hml, hown, hts⟩ (c_M_bitsOf l (ad := ad) (sk := sk) (sv := sv) (tK := tK)  a0  r_1 g_2) (va_cwS 1 hts (aw_S aw_478 aw_479 aw_2 aw_480) rfl rfl rfl (by decide +kernel) ⟨Nat.le_of_ble_eq_true rfl, Nat.le_of_ble_eq_true rfl⟩) ⟨fun a U g mk q => ⟨q.1, q.2.call⟩, fun U hU hW => ⟨rfl, hT.at hS hU hW (fun _ z => z.elim)⟩⟩ rfl rfl hl.1 rfl (lv_room (Nat.le_of_ble_eq_true rfl)) d_M_has_11 ⟨Nat.le_refl _, Nat.le_refl _⟩) ?_
      refine lv_iadd hx hb d_M_has_14 ?_
      refine lv_icmp_ge (tgt := 68) hx hb d_M_has_15 (by decide) (fun c_3 => ?_) (fun c_3 => ?_)
      · replace hf := (if_pos c_3).symm.trans hf
        refine lv_iconst (v := 0) hx hb d_M_has_68 (by decide) ?_
        exact W.zret (v := 0) hx hb hr (ju_nz false) (fun t ht hW => ⟨congrArg (fun z => Outcome.returned (some (Value.int (bI z)))) (Option.some.inj hf), ht⟩) (fun q h => nomatch h) d_M_has_69
      · replace hf := (if_neg c_3).symm.trans hf
        refine lv_aload_n hx hb d_M_has_18 rfl (lv_at hl 0 rfl) ?_
        refine va_get (D := (dC, dI)) (ci := 1) (v := .ref (rw)) (C := "CodeWordsModel") (T := F_M) (N := 6) hx hb hts (in_M _) hown hK hP 0 rfl rfl 1 (by decide) (ht aw_440) (fun _ h9 => h9) rfl d_M_has_19 ?_
        refine lv_iload_n hx hb d_M_has_22 rfl (lv_at hl 3 rfl) ?_
        obtain ⟨z_4, hf⟩ := ju_gd hf
        refine va_iald hx hb hK hP 1 0 rfl rfl z_4 d_M_has_23 ?_
        refine lv_bipush (v := 100) hx hb d_M_has_24 (by decide) ?_
        refine lv_idiv hx hb d_M_has_26 (by decide) ?_
        refine lv_iconst (v := 1) hx hb d_M_has_27 (by decide) ?_
        refine lv_isub hx hb d_M_has_28 ?_
        refine lv_istore (lv' := [(4, .int (((mR x3.toNatClampNeg) / 100) - 1)), (0, .ref (h0)), (1, .int (a0)), (2, .int (a1)), (3, .int (x3))]) hx hb d_M_has_29 hl (by decide) rfl (fun ls hl => ?_)
        refine lv_aload_n hx hb d_M_has_31 rfl (lv_at hl 1 rfl) ?_
        refine va_get (D := (dC, dI)) (ci := 1) (v := .ref (rw)) (C := "CodeWordsModel") (T := F_M) (N := 6) hx hb hts (in_M _) hown hK hP 0 rfl rfl 1 (by decide) (ht aw_440) (fun _ h9 => h9) rfl d_M_has_32 ?_
        refine lv_iload_n hx hb d_M_has_35 rfl (lv_at hl 4 rfl) ?_
        obtain ⟨z_5, hf⟩ := ju_gd hf
        refine va_iald hx hb hK hP 1 0 rfl rfl z_5 d_M_has_36 ?_
        refine lv_iconst (v := 1) hx hb d_M_has_37 (by decide) ?_
        refine lv_icmp_le (tgt := 62) hx hb d_M_has_38 (by decide) (fun c_6 => ?_) (fun c_6 => ?_)
        · replace hf := (if_pos c_6).symm.trans hf
          refine lv_iinc (v := x3 + 1) (lv' := [(3, .int (x3 + 1)), (4, .int (((mR x3.toNatClampNeg) / 100) - 1)), (0, .ref (h0)), (1, .int (a0)), (2, .int (a1))]) hx hb d_M_has_62 hl (k := 4) rfl rfl (by decide) rfl (fun ls hl => ?_)
          refine lv_goto (tgt := 5) hx hb d_M_has_65 (by decide) ?_
          exact ih (x3 + 1)  _  (lv_sub hl [2, 3, 4, 0] rfl) hf
        · replace hf := (if_neg c_6).symm.trans hf
          refine lv_iload hx hb d_M_has_41 (lv_at hl 0 rfl) ?_
          refine lv_iconst (v := 3) hx hb d_M_has_43 (by decide) ?_
          refine lv_icmp_le (tgt := 54) hx hb d_M_has_44 (by decide) (fun c_7 => ?_) (fun c_7 => ?_)
          · replace hf := (if_pos c_7).symm.trans hf
            refine lv_iload hx hb d_M_has_54 (lv_at hl 0 rfl) ?_
            exact J56 x3 (((mR x3.toNatClampNeg) / 100) - 1) (((mR x3.toNatClampNeg) / 100) - 1)  _  (lv_sub hl [1, 2, 3, 4, 0] rfl) hf
          · replace hf := (if_neg c_7).symm.trans hf
            refine lv_iload hx hb d_M_has_47 (lv_at hl 0 rfl) ?_
            refine lv_iconst (v := 4) hx hb d_M_has_49 (by decide) ?_
            refine lv_isub hx hb d_M_has_50 ?_
            refine lv_goto (tgt := 56) hx hb d_M_has_51 (by decide) ?_
            exact J56 x3 (((mR x3.toNatClampNeg) / 100) - 1) ((((mR x3.toNatClampNeg) / 100) - 1) - 4)  _  (lv_sub hl [1, 2, 3, 4, 0] rfl) hf
  rw [f_M_has] at hf
  refine lv_bipush (v := 32) hx hb d_M_has_0 (by decide) ?_
  refine lv_iload_n hx hb d_M_has_2 rfl (lv_at hl 1 rfl) ?_
  refine lv_imul hx hb d_M_has_3 ?_
  refine lv_istore_n (lv' := [(3, .int (32 * a0)), (0, .ref (h0)), (1, .int (a0)), (2, .int (a1))]) hx hb d_M_has_4 rfl hl (by decide) rfl (fun ls hl => ?_)
  exact J5 80 (32 * a0)  _  (lv_sub hl [1, 2, 3, 0] rfl) hf

def f_M_isShortPart_L5 (w_th : Int32) (w_pf : Nat → Int32) (w_of : Nat → Int32) (w_sz : Int32) (w_bg : Int32) (a0 : Int32) (a1 : Int32)  : Nat → Int32 → Option (Bool)
  | 0, _ => none
  | n + 1, x3 =>
    (f_M_bitsOf a0).bind fun r_1 => if ((32 * a0) + r_1) ≤ x3 then (some false) else (if x3 < 0 ∨ 2400 ≤ x3.toNatClampNeg then none else if (((mR x3.toNatClampNeg) / 100) - 5) = a1 then (some true) else (f_M_isShortPart_L5 w_th w_pf w_of w_sz w_bg a0 a1  n (x3 + 1)))
def f_M_isShortPart (w_th : Int32) (w_pf : Nat → Int32) (w_of : Nat → Int32) (w_sz : Int32) (w_bg : Int32) (a0 : Int32) (a1 : Int32) : Option (Bool) :=
  f_M_isShortPart_L5 w_th w_pf w_of w_sz w_bg a0 a1  80 (32 * a0)
set_option maxHeartbeats 1000000 in
set_option maxRecDepth 100000 in
theorem c_M_isShortPart (l : Launch) {ad sk sv : Nat → Nat} {tK : Nat} (dC : Nat → ClassId) (dI : Nat → Nat → Nat) (cI : ClassId) (h0 rw pt ou : Nat) (w_th : Int32) (w_pf : Nat → Int32) (w_of : Nat → Int32) (w_sz : Int32) (w_bg : Int32) (a0 : Int32) (a1 : Int32)  (r : Bool) (hf : f_M_isShortPart w_th w_pf w_of w_sz w_bg a0 a1 = some r) : Met l y_M_isShortPart (Cond.code y_M_isShortPart b_M_isShortPart 4 (Option.some FieldType.boolean) :: aw) ({ frames := 1, cells := 0, slots := 0, locals := 20 } : Room) (va_Pc [.ref (h0), .int (a0), .int (a1)] (fun U => va_P (dC, dI) cls2 (wM cI h0 rw pt ou w_th mR w_pf w_of w_sz w_bg) U.heap ∧ va_K (dC, dI) cls2 [(cI, .int)] U ∧ va_D (aM h0 rw pt ou) (wM cI h0 rw pt ou w_th mR w_pf w_of w_sz w_bg) ∧ tb ad sk sv tK (aM h0 rw pt ou) U U.heap)) (QcRead (bI r)) 0 0 (fun _ => False) := by
  refine Met.ofW (cc := b_M_isShortPart) (maxL := 4) (ret := (Option.some FieldType.boolean)) (by decide) rfl ?_
  intro p e s m args below meth c s₁ B hml hv
  obtain ⟨rfl, hP, hK, hD, hT⟩ := hv
  have hD0 := hD
  have hx := B.exec
  have hb := B.bytes
  have hr := B.returns
  have hts := atoms_spec (ws := (Cond.code y_M_isShortPart b_M_isShortPart 4 (Option.some FieldType.boolean) :: aw)) B.pre
  have ht : ∀ {w : Cond}, w ∈ aw → w.before ([.ref (h0), .int (a0), .int (a1)] : List Value).toArray s = true := fun h => hts _ (List.mem_cons_of_mem _ h)
  have hown : s.vm.findClass "CodeWordsModel" = some m.cls := findClass_of_methodNamed B.named
  have hlocks := B.notSynchronized
  have hS : va_S (aM h0 rw pt ou) s.heap s.heap [] := va_S.rf
  have hl := lv_entry ([.ref (h0), .int (a0), .int (a1)]) (n := 4) (Nat.le_of_ble_eq_true rfl)
  rw [lg_entry_eq]
  generalize (lg_sl ([.ref (h0), .int (a0), .int (a1)]) ++ List.replicate (4 - (lg_sl ([.ref (h0), .int (a0), .int (a1)])).length) Slot.unset).toArray = ls at hl ⊢
  have hl : lv_has ls 4 [(0, .ref (h0)), (1, .int (a0)), (2, .int (a1))] := hl
  have J5 : ∀ (n : Nat) (x3 : Int32) (ls : Array Slot), lv_has ls 4 [(0, .ref (h0)), (1, .int (a0)), (2, .int (a1)), (3, .int (x3))] → f_M_isShortPart_L5 w_th w_pf w_of w_sz w_bg a0 a1  n x3 = some r → W p l e (headSpec (Cond.code y_M_isShortPart b_M_isShortPart 4 (Option.some FieldType.boolean) :: aw) ({ frames := 1, cells := 0, slots := 0, locals := 20 } : Room)).room s m ([.ref (h0), .int (a0), .int (a1)] : List Value).toArray below meth c s.heap [] 0 0 (MQ below (QcRead (bI r)) ([.ref (h0), .int (a0), .int (a1)] : List Value).toArray s 0 0 (fun _ => False)) (F0 m 5 ls []) := by
    intro n
    induction n with
    | zero =>
      intro x3  ls  hl hf
      rw [f_M_isShortPart_L5] at hf
      cases hf
    | succ n ih =>
      intro x3  ls  hl hf
      rw [f_M_isShortPart_L5] at hf
      refine lv_iload_n hx hb d_M_isShortPart_5 rfl (lv_at hl 3 rfl) ?_
      refine lv_bipush (v := 32) hx hb d_M_isShortPart_6 (by decide) ?_
      refine lv_iload_n hx hb d_M_isShortPart_8 rfl (lv_at hl 1 rfl) ?_
      refine lv_imul hx hb d_M_isShortPart_9 ?_
      refine lv_iload_n hx hb d_M_isShortPart_10 rfl (lv_at hl 1 rfl) ?_
      obtain ⟨r_1, g_2, hf⟩ := Option.bind_eq_some_iff.mp hf
      refine ju_calli (W.runS (As := [.int (a0)]) (rest := [.int (32 * a0), .int (x3)]) ⟨hx, hb, hml, hown, hts⟩ (c_M_bitsOf l (ad := ad) (sk := sk) (sv := sv) (tK := tK)  a0  r_1 g_2) (va_cwS 1 hts (aw_S aw_478 aw_479 aw_2 aw_480) rfl rfl rfl (by decide +kernel) ⟨Nat.le_of_ble_eq_true rfl, Nat.le_of_ble_eq_true rfl⟩) ⟨fun a U g mk q => ⟨q.1, q.2.call⟩, fun U hU hW => ⟨rfl, hT.at hS hU hW (fun _ z => z.elim)⟩⟩ rfl rfl hl.1 rfl (lv_room (Nat.le_of_ble_eq_true rfl)) d_M_isShortPart_11 ⟨Nat.le_refl _, Nat.le_refl _⟩) ?_
      refine lv_iadd hx hb d_M_isShortPart_14 ?_
      refine lv_icmp_ge (tgt := 41) hx hb d_M_isShortPart_15 (by decide) (fun c_3 => ?_) (fun c_3 => ?_)
      · replace hf := (if_pos c_3).symm.trans hf
        refine lv_iconst (v := 0) hx hb d_M_isShortPart_41 (by decide) ?_
        exact W.zret (v := 0) hx hb hr (ju_nz false) (fun t ht hW => ⟨congrArg (fun z => Outcome.returned (some (Value.int (bI z)))) (Option.some.inj hf), ht⟩) (fun q h => nomatch h) d_M_isShortPart_42
      · replace hf := (if_neg c_3).symm.trans hf
        refine lv_aload_n hx hb d_M_isShortPart_18 rfl (lv_at hl 0 rfl) ?_
        refine va_get (D := (dC, dI)) (ci := 1) (v := .ref (rw)) (C := "CodeWordsModel") (T := F_M) (N := 6) hx hb hts (in_M _) hown hK hP 0 rfl rfl 1 (by decide) (ht aw_440) (fun _ h9 => h9) rfl d_M_isShortPart_19 ?_
        refine lv_iload_n hx hb d_M_isShortPart_22 rfl (lv_at hl 3 rfl) ?_
        obtain ⟨z_4, hf⟩ := ju_gd hf
        refine va_iald hx hb hK hP 1 0 rfl rfl z_4 d_M_isShortPart_23 ?_
        refine lv_bipush (v := 100) hx hb d_M_isShortPart_24 (by decide) ?_
        refine lv_idiv hx hb d_M_isShortPart_26 (by decide) ?_
        refine lv_iconst (v := 5) hx hb d_M_isShortPart_27 (by decide) ?_
        refine lv_isub hx hb d_M_isShortPart_28 ?_
        refine lv_iload_n hx hb d_M_isShortPart_29 rfl (lv_at hl 2 rfl) ?_
        refine lv_icmp_ne (tgt := 35) hx hb d_M_isShortPart_30 (by decide) (fun c_5 => ?_) (fun c_5 => ?_)
        · replace hf := (if_neg c_5).symm.trans hf
          refine lv_iinc (v := x3 + 1) (lv' := [(3, .int (x3 + 1)), (0, .ref (h0)), (1, .int (a0)), (2, .int (a1))]) hx hb d_M_isShortPart_35 hl (k := 3) rfl rfl (by decide) rfl (fun ls hl => ?_)
          refine lv_goto (tgt := 5) hx hb d_M_isShortPart_38 (by decide) ?_
          exact ih (x3 + 1)  _  (lv_sub hl [1, 2, 3, 0] rfl) hf
        · replace hf := (if_pos c_5).symm.trans hf
          refine lv_iconst (v := 1) hx hb d_M_isShortPart_33 (by decide) ?_
          exact W.zret (v := 1) hx hb hr (ju_nz true) (fun t ht hW => ⟨congrArg (fun z => Outcome.returned (some (Value.int (bI z)))) (Option.some.inj hf), ht⟩) (fun q h => nomatch h) d_M_isShortPart_34
  rw [f_M_isShortPart] at hf
  refine lv_bipush (v := 32) hx hb d_M_isShortPart_0 (by decide) ?_
  refine lv_iload_n hx hb d_M_isShortPart_2 rfl (lv_at hl 1 rfl) ?_
  refine lv_imul hx hb d_M_isShortPart_3 ?_
  refine lv_istore_n (lv' := [(3, .int (32 * a0)), (0, .ref (h0)), (1, .int (a0)), (2, .int (a1))]) hx hb d_M_isShortPart_4 rfl hl (by decide) rfl (fun ls hl => ?_)
  exact J5 80 (32 * a0)  _  (lv_sub hl [1, 2, 3, 0] rfl) hf

def f_M_isRegister (w_th : Int32) (w_pf : Nat → Int32) (w_of : Nat → Int32) (w_sz : Int32) (w_bg : Int32) (a0 : Int32) (a1 : Int32) (a2 : Int32) : Option (Bool) :=
  (f_M_isShortPart w_th w_pf w_of w_sz w_bg a0 a1).bind fun r_1 => if (bI r_1) = 0 then (if a2 < 0 then (some false) else (if a2 ≤ 31 then (if a0 < 48 then (some true) else (if a0 = 74 then (some true) else (if a2 = 0 then (some false) else (if a0 = 56 then (if a2 = 2 then (some false) else (some true)) else (some true))))) else (some false))) else (if a2 < 8 then (some false) else (if 16 ≤ a2 then (some false) else (some true)))
set_option maxHeartbeats 1000000 in
set_option maxRecDepth 100000 in
theorem c_M_isRegister (l : Launch) {ad sk sv : Nat → Nat} {tK : Nat} (dC : Nat → ClassId) (dI : Nat → Nat → Nat) (cI : ClassId) (h0 rw pt ou : Nat) (w_th : Int32) (w_pf : Nat → Int32) (w_of : Nat → Int32) (w_sz : Int32) (w_bg : Int32) (a0 : Int32) (a1 : Int32) (a2 : Int32)  (r : Bool) (hf : f_M_isRegister w_th w_pf w_of w_sz w_bg a0 a1 a2 = some r) : Met l y_M_isRegister (Cond.code y_M_isRegister b_M_isRegister 4 (Option.some FieldType.boolean) :: aw) ({ frames := 2, cells := 0, slots := 0, locals := 43 } : Room) (va_Pc [.ref (h0), .int (a0), .int (a1), .int (a2)] (fun U => va_P (dC, dI) cls2 (wM cI h0 rw pt ou w_th mR w_pf w_of w_sz w_bg) U.heap ∧ va_K (dC, dI) cls2 [(cI, .int)] U ∧ va_D (aM h0 rw pt ou) (wM cI h0 rw pt ou w_th mR w_pf w_of w_sz w_bg) ∧ tb ad sk sv tK (aM h0 rw pt ou) U U.heap)) (QcRead (bI r)) 0 0 (fun _ => False) := by
  refine Met.ofW (cc := b_M_isRegister) (maxL := 4) (ret := (Option.some FieldType.boolean)) (by decide) rfl ?_
  intro p e s m args below meth c s₁ B hml hv
  obtain ⟨rfl, hP, hK, hD, hT⟩ := hv
  have hD0 := hD
  have hx := B.exec
  have hb := B.bytes
  have hr := B.returns
  have hts := atoms_spec (ws := (Cond.code y_M_isRegister b_M_isRegister 4 (Option.some FieldType.boolean) :: aw)) B.pre
  have ht : ∀ {w : Cond}, w ∈ aw → w.before ([.ref (h0), .int (a0), .int (a1), .int (a2)] : List Value).toArray s = true := fun h => hts _ (List.mem_cons_of_mem _ h)
  have hown : s.vm.findClass "CodeWordsModel" = some m.cls := findClass_of_methodNamed B.named
  have hlocks := B.notSynchronized
  have hS : va_S (aM h0 rw pt ou) s.heap s.heap [] := va_S.rf
  have hl := lv_entry ([.ref (h0), .int (a0), .int (a1), .int (a2)]) (n := 4) (Nat.le_of_ble_eq_true rfl)
  rw [lg_entry_eq]
  generalize (lg_sl ([.ref (h0), .int (a0), .int (a1), .int (a2)]) ++ List.replicate (4 - (lg_sl ([.ref (h0), .int (a0), .int (a1), .int (a2)])).length) Slot.unset).toArray = ls at hl ⊢
  have hl : lv_has ls 4 [(0, .ref (h0)), (1, .int (a0)), (2, .int (a1)), (3, .int (a2))] := hl
  rw [f_M_isRegister] at hf
  refine lv_aload_n hx hb d_M_isRegister_0 rfl (lv_at hl 0 rfl) ?_
  refine lv_iload_n hx hb d_M_isRegister_1 rfl (lv_at hl 1 rfl) ?_
  refine lv_iload_n hx hb d_M_isRegister_2 rfl (lv_at hl 2 rfl) ?_
  obtain ⟨r_1, g_2, hf⟩ := Option.bind_eq_some_iff.mp hf
  refine ju_calli (W.runV (As := [.int (a0), .int (a1)]) (rest := []) ⟨hx, hb, hml, hown, hts⟩ (c_M_isShortPart l (ad := ad) (sk := sk) (sv := sv) (tK := tK) dC dI cI h0 rw pt ou w_th w_pf w_of w_sz w_bg a0 a1  r_1 g_2) (cwV 2 hts (aw_V aw_485 aw_487 aw_p26 aw_2 aw_488) rfl rfl rfl (by decide +kernel) ⟨Nat.le_of_ble_eq_true rfl, Nat.le_of_ble_eq_true rfl⟩) ⟨wBlind, va_recv hK hP (ci := 1) (q0 := 0) rfl rfl, fun U hU hW => ⟨rfl, by rw [hU]; exact hP, va_K.moved hW.alike hK, hD, hT.at hS hU hW (fun _ z => z)⟩⟩ rfl rfl hl.1 rfl (lv_room (Nat.le_of_ble_eq_true rfl)) d_M_isRegister_3 ⟨Nat.le_refl _, Nat.le_refl _⟩) ?_
  refine lv_if_eq (tgt := 27) hx hb d_M_isRegister_6 (by decide) (fun c_3 => ?_) (fun c_3 => ?_)
  · replace hf := (if_pos c_3).symm.trans hf
    refine lv_iload_n hx hb d_M_isRegister_27 rfl (lv_at hl 3 rfl) ?_
    refine lv_if_lt (tgt := 37) hx hb d_M_isRegister_28 (by decide) (fun c_4 => ?_) (fun c_4 => ?_)
    · replace hf := (if_pos c_4).symm.trans hf
      refine lv_iconst (v := 0) hx hb d_M_isRegister_37 (by decide) ?_
      exact W.zret (v := 0) hx hb hr (ju_nz false) (fun t ht hW => ⟨congrArg (fun z => Outcome.returned (some (Value.int (bI z)))) (Option.some.inj hf), ht⟩) (fun q h => nomatch h) d_M_isRegister_38
    · replace hf := (if_neg c_4).symm.trans hf
      refine lv_iload_n hx hb d_M_isRegister_31 rfl (lv_at hl 3 rfl) ?_
      refine lv_bipush (v := 31) hx hb d_M_isRegister_32 (by decide) ?_
      refine lv_icmp_le (tgt := 39) hx hb d_M_isRegister_34 (by decide) (fun c_5 => ?_) (fun c_5 => ?_)
      · replace hf := (if_pos c_5).symm.trans hf
        refine lv_iload_n hx hb d_M_isRegister_39 rfl (lv_at hl 1 rfl) ?_
        refine lv_bipush (v := 48) hx hb d_M_isRegister_40 (by decide) ?_
        refine lv_icmp_lt (tgt := 51) hx hb d_M_isRegister_42 (by decide) (fun c_6 => ?_) (fun c_6 => ?_)
        · replace hf := (if_pos c_6).symm.trans hf
          refine lv_iconst (v := 1) hx hb d_M_isRegister_51 (by decide) ?_
          exact W.zret (v := 1) hx hb hr (ju_nz true) (fun t ht hW => ⟨congrArg (fun z => Outcome.returned (some (Value.int (bI z)))) (Option.some.inj hf), ht⟩) (fun q h => nomatch h) d_M_isRegister_52
        · replace hf := (if_neg c_6).symm.trans hf
          refine lv_iload_n hx hb d_M_isRegister_45 rfl (lv_at hl 1 rfl) ?_
          refine lv_bipush (v := 74) hx hb d_M_isRegister_46 (by decide) ?_
          refine lv_icmp_ne (tgt := 53) hx hb d_M_isRegister_48 (by decide) (fun c_7 => ?_) (fun c_7 => ?_)
          · replace hf := (if_neg c_7).symm.trans hf
            refine lv_iload_n hx hb d_M_isRegister_53 rfl (lv_at hl 3 rfl) ?_
            refine lv_if_eq (tgt := 72) hx hb d_M_isRegister_54 (by decide) (fun c_8 => ?_) (fun c_8 => ?_)
            · replace hf := (if_pos c_8).symm.trans hf
              refine lv_iconst (v := 0) hx hb d_M_isRegister_72 (by decide) ?_
              exact W.zret (v := 0) hx hb hr (ju_nz false) (fun t ht hW => ⟨congrArg (fun z => Outcome.returned (some (Value.int (bI z)))) (Option.some.inj hf), ht⟩) (fun q h => nomatch h) d_M_isRegister_73
            · replace hf := (if_neg c_8).symm.trans hf
              refine lv_iload_n hx hb d_M_isRegister_57 rfl (lv_at hl 1 rfl) ?_
              refine lv_bipush (v := 56) hx hb d_M_isRegister_58 (by decide) ?_
              refine lv_icmp_ne (tgt := 68) hx hb d_M_isRegister_60 (by decide) (fun c_9 => ?_) (fun c_9 => ?_)
              · replace hf := (if_neg c_9).symm.trans hf
                refine lv_iconst (v := 1) hx hb d_M_isRegister_68 (by decide) ?_
                refine lv_goto (tgt := 73) hx hb d_M_isRegister_69 (by decide) ?_
                exact W.zret (v := 1) hx hb hr (ju_nz true) (fun t ht hW => ⟨congrArg (fun z => Outcome.returned (some (Value.int (bI z)))) (Option.some.inj hf), ht⟩) (fun q h => nomatch h) d_M_isRegister_73
              · replace hf := (if_pos c_9).symm.trans hf
                refine lv_iload_n hx hb d_M_isRegister_63 rfl (lv_at hl 3 rfl) ?_
                refine lv_iconst (v := 2) hx hb d_M_isRegister_64 (by decide) ?_
                refine lv_icmp_eq (tgt := 72) hx hb d_M_isRegister_65 (by decide) (fun c_10 => ?_) (fun c_10 => ?_)
                · replace hf := (if_pos c_10).symm.trans hf
                  refine lv_iconst (v := 0) hx hb d_M_isRegister_72 (by decide) ?_
                  exact W.zret (v := 0) hx hb hr (ju_nz false) (fun t ht hW => ⟨congrArg (fun z => Outcome.returned (some (Value.int (bI z)))) (Option.some.inj hf), ht⟩) (fun q h => nomatch h) d_M_isRegister_73
                · replace hf := (if_neg c_10).symm.trans hf
                  refine lv_iconst (v := 1) hx hb d_M_isRegister_68 (by decide) ?_
                  refine lv_goto (tgt := 73) hx hb d_M_isRegister_69 (by decide) ?_
                  exact W.zret (v := 1) hx hb hr (ju_nz true) (fun t ht hW => ⟨congrArg (fun z => Outcome.returned (some (Value.int (bI z)))) (Option.some.inj hf), ht⟩) (fun q h => nomatch h) d_M_isRegister_73
          · replace hf := (if_pos c_7).symm.trans hf
            refine lv_iconst (v := 1) hx hb d_M_isRegister_51 (by decide) ?_
            exact W.zret (v := 1) hx hb hr (ju_nz true) (fun t ht hW => ⟨congrArg (fun z => Outcome.returned (some (Value.int (bI z)))) (Option.some.inj hf), ht⟩) (fun q h => nomatch h) d_M_isRegister_52
      · replace hf := (if_neg c_5).symm.trans hf
        refine lv_iconst (v := 0) hx hb d_M_isRegister_37 (by decide) ?_
        exact W.zret (v := 0) hx hb hr (ju_nz false) (fun t ht hW => ⟨congrArg (fun z => Outcome.returned (some (Value.int (bI z)))) (Option.some.inj hf), ht⟩) (fun q h => nomatch h) d_M_isRegister_38
  · replace hf := (if_neg c_3).symm.trans hf
    refine lv_iload_n hx hb d_M_isRegister_9 rfl (lv_at hl 3 rfl) ?_
    refine lv_bipush (v := 8) hx hb d_M_isRegister_10 (by decide) ?_
    refine lv_icmp_lt (tgt := 25) hx hb d_M_isRegister_12 (by decide) (fun c_11 => ?_) (fun c_11 => ?_)
    · replace hf := (if_pos c_11).symm.trans hf
      refine lv_iconst (v := 0) hx hb d_M_isRegister_25 (by decide) ?_
      exact W.zret (v := 0) hx hb hr (ju_nz false) (fun t ht hW => ⟨congrArg (fun z => Outcome.returned (some (Value.int (bI z)))) (Option.some.inj hf), ht⟩) (fun q h => nomatch h) d_M_isRegister_26
    · replace hf := (if_neg c_11).symm.trans hf
      refine lv_iload_n hx hb d_M_isRegister_15 rfl (lv_at hl 3 rfl) ?_
      refine lv_bipush (v := 16) hx hb d_M_isRegister_16 (by decide) ?_
      refine lv_icmp_ge (tgt := 25) hx hb d_M_isRegister_18 (by decide) (fun c_12 => ?_) (fun c_12 => ?_)
      · replace hf := (if_pos c_12).symm.trans hf
        refine lv_iconst (v := 0) hx hb d_M_isRegister_25 (by decide) ?_
        exact W.zret (v := 0) hx hb hr (ju_nz false) (fun t ht hW => ⟨congrArg (fun z => Outcome.returned (some (Value.int (bI z)))) (Option.some.inj hf), ht⟩) (fun q h => nomatch h) d_M_isRegister_26
      · replace hf := (if_neg c_12).symm.trans hf
        refine lv_iconst (v := 1) hx hb d_M_isRegister_21 (by decide) ?_
        refine lv_goto (tgt := 26) hx hb d_M_isRegister_22 (by decide) ?_
        exact W.zret (v := 1) hx hb hr (ju_nz true) (fun t ht hW => ⟨congrArg (fun z => Outcome.returned (some (Value.int (bI z)))) (Option.some.inj hf), ht⟩) (fun q h => nomatch h) d_M_isRegister_26

def f_M_areGood_L2 (w_th : Int32) (w_pf : Nat → Int32) (w_of : Nat → Int32) (w_sz : Int32) (w_bg : Int32) (a0 : Int32)  : Nat → Int32 → Option (Bool)
  | 0, _ => none
  | n + 1, x2 =>
    if 3 ≤ x2 then ((f_M_has w_th w_pf w_of w_sz w_bg a0 3).bind fun r_2 => if (bI r_2) = 0 then (some true) else (if (3 : Int32) < 0 ∨ 4 ≤ (3 : Int32).toNatClampNeg then none else (f_M_isImmediate a0 ((w_pf (3 : Int32).toNatClampNeg).toInt64)).bind fun r_6 => if (bI r_6) = 0 then (some false) else (some true))) else ((f_M_has w_th w_pf w_of w_sz w_bg a0 x2).bind fun r_9 => if (bI r_9) = 0 then (f_M_areGood_L2 w_th w_pf w_of w_sz w_bg a0  n (x2 + 1)) else (if x2 < 0 ∨ 4 ≤ x2.toNatClampNeg then none else (f_M_isRegister w_th w_pf w_of w_sz w_bg a0 x2 (w_pf x2.toNatClampNeg)).bind fun r_13 => if (bI r_13) = 0 then (some false) else (f_M_areGood_L2 w_th w_pf w_of w_sz w_bg a0  n (x2 + 1))))
def f_M_areGood (w_th : Int32) (w_pf : Nat → Int32) (w_of : Nat → Int32) (w_sz : Int32) (w_bg : Int32) (a0 : Int32) : Option (Bool) :=
  f_M_areGood_L2 w_th w_pf w_of w_sz w_bg a0  80 0
set_option maxHeartbeats 1000000 in
set_option maxRecDepth 100000 in
theorem c_M_areGood (l : Launch) {ad sk sv : Nat → Nat} {tK : Nat} (dC : Nat → ClassId) (dI : Nat → Nat → Nat) (cI : ClassId) (h0 rw pt ou : Nat) (w_th : Int32) (w_pf : Nat → Int32) (w_of : Nat → Int32) (w_sz : Int32) (w_bg : Int32) (a0 : Int32)  (r : Bool) (hf : f_M_areGood w_th w_pf w_of w_sz w_bg a0 = some r) : Met l y_M_areGood (Cond.code y_M_areGood b_M_areGood 3 (Option.some FieldType.boolean) :: aw) ({ frames := 3, cells := 0, slots := 0, locals := 66 } : Room) (va_Pc [.ref (h0), .int (a0)] (fun U => va_P (dC, dI) cls2 (wM cI h0 rw pt ou w_th mR w_pf w_of w_sz w_bg) U.heap ∧ va_K (dC, dI) cls2 [(cI, .int)] U ∧ va_D (aM h0 rw pt ou) (wM cI h0 rw pt ou w_th mR w_pf w_of w_sz w_bg) ∧ tb ad sk sv tK (aM h0 rw pt ou) U U.heap)) (QcRead (bI r)) 0 0 (fun _ => False) := by
  refine Met.ofW (cc := b_M_areGood) (maxL := 3) (ret := (Option.some FieldType.boolean)) (by decide) rfl ?_
  intro p e s m args below meth c s₁ B hml hv
  obtain ⟨rfl, hP, hK, hD, hT⟩ := hv
  have hD0 := hD
  have hx := B.exec
  have hb := B.bytes
  have hr := B.returns
  have hts := atoms_spec (ws := (Cond.code y_M_areGood b_M_areGood 3 (Option.some FieldType.boolean) :: aw)) B.pre
  have ht : ∀ {w : Cond}, w ∈ aw → w.before ([.ref (h0), .int (a0)] : List Value).toArray s = true := fun h => hts _ (List.mem_cons_of_mem _ h)
  have hown : s.vm.findClass "CodeWordsModel" = some m.cls := findClass_of_methodNamed B.named
  have hlocks := B.notSynchronized
  have hS : va_S (aM h0 rw pt ou) s.heap s.heap [] := va_S.rf
  have hl := lv_entry ([.ref (h0), .int (a0)]) (n := 3) (Nat.le_of_ble_eq_true rfl)
  rw [lg_entry_eq]
  generalize (lg_sl ([.ref (h0), .int (a0)]) ++ List.replicate (3 - (lg_sl ([.ref (h0), .int (a0)])).length) Slot.unset).toArray = ls at hl ⊢
  have hl : lv_has ls 3 [(0, .ref (h0)), (1, .int (a0))] := hl
  have J2 : ∀ (n : Nat) (x2 : Int32) (ls : Array Slot), lv_has ls 3 [(0, .ref (h0)), (1, .int (a0)), (2, .int (x2))] → f_M_areGood_L2 w_th w_pf w_of w_sz w_bg a0  n x2 = some r → W p l e (headSpec (Cond.code y_M_areGood b_M_areGood 3 (Option.some FieldType.boolean) :: aw) ({ frames := 3, cells := 0, slots := 0, locals := 66 } : Room)).room s m ([.ref (h0), .int (a0)] : List Value).toArray below meth c s.heap [] 0 0 (MQ below (QcRead (bI r)) ([.ref (h0), .int (a0)] : List Value).toArray s 0 0 (fun _ => False)) (F0 m 2 ls []) := by
    intro n
    induction n with
    | zero =>
      intro x2  ls  hl hf
      rw [f_M_areGood_L2] at hf
      cases hf
    | succ n ih =>
      intro x2  ls  hl hf
      rw [f_M_areGood_L2] at hf
      refine lv_iload_n hx hb d_M_areGood_2 rfl (lv_at hl 2 rfl) ?_
      refine lv_iconst (v := 3) hx hb d_M_areGood_3 (by decide) ?_
      refine lv_icmp_ge (tgt := 39) hx hb d_M_areGood_4 (by decide) (fun c_1 => ?_) (fun c_1 => ?_)
      · replace hf := (if_pos c_1).symm.trans hf
        refine lv_aload_n hx hb d_M_areGood_39 rfl (lv_at hl 0 rfl) ?_
        refine lv_iload_n hx hb d_M_areGood_40 rfl (lv_at hl 1 rfl) ?_
        refine lv_iconst (v := 3) hx hb d_M_areGood_41 (by decide) ?_
        obtain ⟨r_2, g_3, hf⟩ := Option.bind_eq_some_iff.mp hf
        refine ju_calli (W.runV (As := [.int (a0), .int (3)]) (rest := []) ⟨hx, hb, hml, hown, hts⟩ (c_M_has l (ad := ad) (sk := sk) (sv := sv) (tK := tK) dC dI cI h0 rw pt ou w_th w_pf w_of w_sz w_bg a0 3  r_2 g_3) (cwV 2 hts (aw_V aw_474 aw_476 aw_p24 aw_2 aw_477) rfl rfl rfl (by decide +kernel) ⟨Nat.le_of_ble_eq_true rfl, Nat.le_of_ble_eq_true rfl⟩) ⟨wBlind, va_recv hK hP (ci := 1) (q0 := 0) rfl rfl, fun U hU hW => ⟨rfl, by rw [hU]; exact hP, va_K.moved hW.alike hK, hD, hT.at hS hU hW (fun _ z => z)⟩⟩ rfl rfl hl.1 rfl (lv_room (Nat.le_of_ble_eq_true rfl)) d_M_areGood_42 ⟨Nat.le_refl _, Nat.le_refl _⟩) ?_
        refine lv_if_eq (tgt := 62) hx hb d_M_areGood_45 (by decide) (fun c_4 => ?_) (fun c_4 => ?_)
        · replace hf := (if_pos c_4).symm.trans hf
          refine lv_iconst (v := 1) hx hb d_M_areGood_62 (by decide) ?_
          refine lv_goto (tgt := 67) hx hb d_M_areGood_63 (by decide) ?_
          exact W.zret (v := 1) hx hb hr (ju_nz true) (fun t ht hW => ⟨congrArg (fun z => Outcome.returned (some (Value.int (bI z)))) (Option.some.inj hf), ht⟩) (fun q h => nomatch h) d_M_areGood_67
        · replace hf := (if_neg c_4).symm.trans hf
          refine lv_iload_n hx hb d_M_areGood_48 rfl (lv_at hl 1 rfl) ?_
          refine lv_aload_n hx hb d_M_areGood_49 rfl (lv_at hl 0 rfl) ?_
          refine va_get (D := (dC, dI)) (ci := 1) (v := .ref (pt)) (C := "CodeWordsModel") (T := F_M) (N := 6) hx hb hts (in_M _) hown hK hP 0 rfl rfl 2 (by decide) (ht aw_441) (fun _ h9 => h9) rfl d_M_areGood_50 ?_
          refine lv_iconst (v := 3) hx hb d_M_areGood_53 (by decide) ?_
          obtain ⟨z_5, hf⟩ := ju_gd hf
          refine va_iald hx hb hK hP 2 0 rfl rfl z_5 d_M_areGood_54 ?_
          refine lv_i2l (v := (w_pf (3 : Int32).toNatClampNeg).toInt64) hx hb d_M_areGood_55 rfl ?_
          obtain ⟨r_6, g_7, hf⟩ := Option.bind_eq_some_iff.mp hf
          refine ju_calli (W.runS (As := [.int (a0), .long ((w_pf (3 : Int32).toNatClampNeg).toInt64)]) (rest := []) ⟨hx, hb, hml, hown, hts⟩ (c_M_isImmediate l (ad := ad) (sk := sk) (sv := sv) (tK := tK)  a0 ((w_pf (3 : Int32).toNatClampNeg).toInt64)  r_6 g_7) (va_cwS 2 hts (aw_S aw_489 aw_490 aw_2 aw_491) rfl rfl rfl (by decide +kernel) ⟨Nat.le_of_ble_eq_true rfl, Nat.le_of_ble_eq_true rfl⟩) ⟨fun a U g mk q => ⟨q.1, q.2.call⟩, fun U hU hW => ⟨rfl, hT.at hS hU hW (fun _ z => z.elim)⟩⟩ rfl rfl hl.1 rfl (lv_room (Nat.le_of_ble_eq_true rfl)) d_M_areGood_56 ⟨Nat.le_refl _, Nat.le_refl _⟩) ?_
          refine lv_if_eq (tgt := 66) hx hb d_M_areGood_59 (by decide) (fun c_8 => ?_) (fun c_8 => ?_)
          · replace hf := (if_pos c_8).symm.trans hf
            refine lv_iconst (v := 0) hx hb d_M_areGood_66 (by decide) ?_
            exact W.zret (v := 0) hx hb hr (ju_nz false) (fun t ht hW => ⟨congrArg (fun z => Outcome.returned (some (Value.int (bI z)))) (Option.some.inj hf), ht⟩) (fun q h => nomatch h) d_M_areGood_67
          · replace hf := (if_neg c_8).symm.trans hf
            refine lv_iconst (v := 1) hx hb d_M_areGood_62 (by decide) ?_
            refine lv_goto (tgt := 67) hx hb d_M_areGood_63 (by decide) ?_
            exact W.zret (v := 1) hx hb hr (ju_nz true) (fun t ht hW => ⟨congrArg (fun z => Outcome.returned (some (Value.int (bI z)))) (Option.some.inj hf), ht⟩) (fun q h => nomatch h) d_M_areGood_67
      · replace hf := (if_neg c_1).symm.trans hf
        refine lv_aload_n hx hb d_M_areGood_7 rfl (lv_at hl 0 rfl) ?_
        refine lv_iload_n hx hb d_M_areGood_8 rfl (lv_at hl 1 rfl) ?_
        refine lv_iload_n hx hb d_M_areGood_9 rfl (lv_at hl 2 rfl) ?_
        obtain ⟨r_9, g_10, hf⟩ := Option.bind_eq_some_iff.mp hf
        refine ju_calli (W.runV (As := [.int (a0), .int (x2)]) (rest := []) ⟨hx, hb, hml, hown, hts⟩ (c_M_has l (ad := ad) (sk := sk) (sv := sv) (tK := tK) dC dI cI h0 rw pt ou w_th w_pf w_of w_sz w_bg a0 x2  r_9 g_10) (cwV 2 hts (aw_V aw_474 aw_476 aw_p24 aw_2 aw_477) rfl rfl rfl (by decide +kernel) ⟨Nat.le_of_ble_eq_true rfl, Nat.le_of_ble_eq_true rfl⟩) ⟨wBlind, va_recv hK hP (ci := 1) (q0 := 0) rfl rfl, fun U hU hW => ⟨rfl, by rw [hU]; exact hP, va_K.moved hW.alike hK, hD, hT.at hS hU hW (fun _ z => z)⟩⟩ rfl rfl hl.1 rfl (lv_room (Nat.le_of_ble_eq_true rfl)) d_M_areGood_10 ⟨Nat.le_refl _, Nat.le_refl _⟩) ?_
        refine lv_if_eq (tgt := 33) hx hb d_M_areGood_13 (by decide) (fun c_11 => ?_) (fun c_11 => ?_)
        · replace hf := (if_pos c_11).symm.trans hf
          refine lv_iinc (v := x2 + 1) (lv' := [(2, .int (x2 + 1)), (0, .ref (h0)), (1, .int (a0))]) hx hb d_M_areGood_33 hl (k := 2) rfl rfl (by decide) rfl (fun ls hl => ?_)
          refine lv_goto (tgt := 2) hx hb d_M_areGood_36 (by decide) ?_
          exact ih (x2 + 1)  _  (lv_sub hl [1, 2, 0] rfl) hf
        · replace hf := (if_neg c_11).symm.trans hf
          refine lv_aload_n hx hb d_M_areGood_16 rfl (lv_at hl 0 rfl) ?_
          refine lv_iload_n hx hb d_M_areGood_17 rfl (lv_at hl 1 rfl) ?_
          refine lv_iload_n hx hb d_M_areGood_18 rfl (lv_at hl 2 rfl) ?_
          refine lv_aload_n hx hb d_M_areGood_19 rfl (lv_at hl 0 rfl) ?_
          refine va_get (D := (dC, dI)) (ci := 1) (v := .ref (pt)) (C := "CodeWordsModel") (T := F_M) (N := 6) hx hb hts (in_M _) hown hK hP 0 rfl rfl 2 (by decide) (ht aw_441) (fun _ h9 => h9) rfl d_M_areGood_20 ?_
          refine lv_iload_n hx hb d_M_areGood_23 rfl (lv_at hl 2 rfl) ?_
          obtain ⟨z_12, hf⟩ := ju_gd hf
          refine va_iald hx hb hK hP 2 0 rfl rfl z_12 d_M_areGood_24 ?_
          obtain ⟨r_13, g_14, hf⟩ := Option.bind_eq_some_iff.mp hf
          refine ju_calli (W.runV (As := [.int (a0), .int (x2), .int (w_pf x2.toNatClampNeg)]) (rest := []) ⟨hx, hb, hml, hown, hts⟩ (c_M_isRegister l (ad := ad) (sk := sk) (sv := sv) (tK := tK) dC dI cI h0 rw pt ou w_th w_pf w_of w_sz w_bg a0 x2 (w_pf x2.toNatClampNeg)  r_13 g_14) (cwV 3 hts (aw_V aw_481 aw_483 aw_p25 aw_2 aw_484) rfl rfl rfl (by decide +kernel) ⟨Nat.le_of_ble_eq_true rfl, Nat.le_of_ble_eq_true rfl⟩) ⟨wBlind, va_recv hK hP (ci := 1) (q0 := 0) rfl rfl, fun U hU hW => ⟨rfl, by rw [hU]; exact hP, va_K.moved hW.alike hK, hD, hT.at hS hU hW (fun _ z => z)⟩⟩ rfl rfl hl.1 rfl (lv_room (Nat.le_of_ble_eq_true rfl)) d_M_areGood_25 ⟨Nat.le_refl _, Nat.le_refl _⟩) ?_
          refine lv_if_ne (tgt := 33) hx hb d_M_areGood_28 (by decide) (fun c_15 => ?_) (fun c_15 => ?_)
          · replace hf := (if_neg c_15).symm.trans hf
            refine lv_iinc (v := x2 + 1) (lv' := [(2, .int (x2 + 1)), (0, .ref (h0)), (1, .int (a0))]) hx hb d_M_areGood_33 hl (k := 2) rfl rfl (by decide) rfl (fun ls hl => ?_)
            refine lv_goto (tgt := 2) hx hb d_M_areGood_36 (by decide) ?_
            exact ih (x2 + 1)  _  (lv_sub hl [1, 2, 0] rfl) hf
          · replace hf := (if_pos c_15).symm.trans hf
            refine lv_iconst (v := 0) hx hb d_M_areGood_31 (by decide) ?_
            exact W.zret (v := 0) hx hb hr (ju_nz false) (fun t ht hW => ⟨congrArg (fun z => Outcome.returned (some (Value.int (bI z)))) (Option.some.inj hf), ht⟩) (fun q h => nomatch h) d_M_areGood_32
  rw [f_M_areGood] at hf
  refine lv_iconst (v := 0) hx hb d_M_areGood_0 (by decide) ?_
  refine lv_istore_n (lv' := [(2, .int (0)), (0, .ref (h0)), (1, .int (a0))]) hx hb d_M_areGood_1 rfl hl (by decide) rfl (fun ls hl => ?_)
  exact J2 80 0  _  (lv_sub hl [1, 2, 0] rfl) hf

def f_M_put_L90 (w_th : Int32) (w_pf : Nat → Int32) (w_of : Nat → Int32) (w_sz : Int32) (w_bg : Int32) (a0 : Int32) (k4 : Int32 → Int32 → Option (Int32)) (x2 : Int32) (x3 : Int32) (x4 : Int32) (t0 : Int32) : Option (Int32) :=
  k4 (x2 ||| (t0 <<< (x3 &&& 31))) (x3 + 1)
def f_M_put_L4 (w_th : Int32) (w_pf : Nat → Int32) (w_of : Nat → Int32) (w_sz : Int32) (w_bg : Int32) (a0 : Int32)  : Nat → Int32 → Int32 → Option (Int32)
  | 0, _, _ => none
  | n + 1, x2, x3 =>
    (f_M_bitsOf a0).bind fun r_1 => if r_1 ≤ x3 then (some (x2)) else (if ((32 * a0) + x3) < 0 ∨ 2400 ≤ ((32 * a0) + x3).toNatClampNeg then none else if 2 ≤ (mR ((32 * a0) + x3).toNatClampNeg) then (if 500 ≤ (mR ((32 * a0) + x3).toNatClampNeg) then (if (((mR ((32 * a0) + x3).toNatClampNeg) / 100) - 5) < 0 ∨ 4 ≤ (((mR ((32 * a0) + x3).toNatClampNeg) / 100) - 5).toNatClampNeg then none else f_M_put_L90 w_th w_pf w_of w_sz w_bg a0 (fun y0 y1 => f_M_put_L4 w_th w_pf w_of w_sz w_bg a0  n y0 y1) x2 x3 (mR ((32 * a0) + x3).toNatClampNeg) ((((w_pf (((mR ((32 * a0) + x3).toNatClampNeg) / 100) - 5).toNatClampNeg) - 8) >>> (((mR ((32 * a0) + x3).toNatClampNeg) - (mR ((32 * a0) + x3).toNatClampNeg) / 100 * 100) &&& 31)) &&& 1)) else (if (((mR ((32 * a0) + x3).toNatClampNeg) / 100) - 1) < 0 ∨ 4 ≤ (((mR ((32 * a0) + x3).toNatClampNeg) / 100) - 1).toNatClampNeg then none else f_M_put_L90 w_th w_pf w_of w_sz w_bg a0 (fun y0 y1 => f_M_put_L4 w_th w_pf w_of w_sz w_bg a0  n y0 y1) x2 x3 (mR ((32 * a0) + x3).toNatClampNeg) (((w_pf (((mR ((32 * a0) + x3).toNatClampNeg) / 100) - 1).toNatClampNeg) >>> (((mR ((32 * a0) + x3).toNatClampNeg) - (mR ((32 * a0) + x3).toNatClampNeg) / 100 * 100) &&& 31)) &&& 1))) else (f_M_put_L90 w_th w_pf w_of w_sz w_bg a0 (fun y0 y1 => f_M_put_L4 w_th w_pf w_of w_sz w_bg a0  n y0 y1) x2 x3 (mR ((32 * a0) + x3).toNatClampNeg) (mR ((32 * a0) + x3).toNatClampNeg)))
def f_M_put (w_th : Int32) (w_pf : Nat → Int32) (w_of : Nat → Int32) (w_sz : Int32) (w_bg : Int32) (a0 : Int32) : Option (Int32) :=
  f_M_put_L4 w_th w_pf w_of w_sz w_bg a0  80 0 0
set_option maxHeartbeats 1000000 in
set_option maxRecDepth 100000 in
theorem c_M_put (l : Launch) {ad sk sv : Nat → Nat} {tK : Nat} (dC : Nat → ClassId) (dI : Nat → Nat → Nat) (cI : ClassId) (h0 rw pt ou : Nat) (w_th : Int32) (w_pf : Nat → Int32) (w_of : Nat → Int32) (w_sz : Int32) (w_bg : Int32) (a0 : Int32)  (r : Int32) (hf : f_M_put w_th w_pf w_of w_sz w_bg a0 = some r) : Met l y_M_put (Cond.code y_M_put b_M_put 6 (Option.some FieldType.int) :: aw) ({ frames := 1, cells := 0, slots := 0, locals := 20 } : Room) (va_Pc [.ref (h0), .int (a0)] (fun U => va_P (dC, dI) cls2 (wM cI h0 rw pt ou w_th mR w_pf w_of w_sz w_bg) U.heap ∧ va_K (dC, dI) cls2 [(cI, .int)] U ∧ va_D (aM h0 rw pt ou) (wM cI h0 rw pt ou w_th mR w_pf w_of w_sz w_bg) ∧ tb ad sk sv tK (aM h0 rw pt ou) U U.heap)) (QcRead r) 0 0 (fun _ => False) := by
  refine Met.ofW (cc := b_M_put) (maxL := 6) (ret := (Option.some FieldType.int)) (by decide) rfl ?_
  intro p e s m args below meth c s₁ B hml hv
  obtain ⟨rfl, hP, hK, hD, hT⟩ := hv
  have hD0 := hD
  have hx := B.exec
  have hb := B.bytes
  have hr := B.returns
  have hts := atoms_spec (ws := (Cond.code y_M_put b_M_put 6 (Option.some FieldType.int) :: aw)) B.pre
  have ht : ∀ {w : Cond}, w ∈ aw → w.before ([.ref (h0), .int (a0)] : List Value).toArray s = true := fun h => hts _ (List.mem_cons_of_mem _ h)
  have hown : s.vm.findClass "CodeWordsModel" = some m.cls := findClass_of_methodNamed B.named
  have hlocks := B.notSynchronized
  have hS : va_S (aM h0 rw pt ou) s.heap s.heap [] := va_S.rf
  have hl := lv_entry ([.ref (h0), .int (a0)]) (n := 6) (Nat.le_of_ble_eq_true rfl)
  rw [lg_entry_eq]
  generalize (lg_sl ([.ref (h0), .int (a0)]) ++ List.replicate (6 - (lg_sl ([.ref (h0), .int (a0)])).length) Slot.unset).toArray = ls at hl ⊢
  have hl : lv_has ls 6 [(0, .ref (h0)), (1, .int (a0))] := hl
  have J4 : ∀ (n : Nat) (x2 : Int32) (x3 : Int32) (ls : Array Slot), lv_has ls 6 [(0, .ref (h0)), (1, .int (a0)), (2, .int (x2)), (3, .int (x3))] → f_M_put_L4 w_th w_pf w_of w_sz w_bg a0  n x2 x3 = some r → W p l e (headSpec (Cond.code y_M_put b_M_put 6 (Option.some FieldType.int) :: aw) ({ frames := 1, cells := 0, slots := 0, locals := 20 } : Room)).room s m ([.ref (h0), .int (a0)] : List Value).toArray below meth c s.heap [] 0 0 (MQ below (QcRead r) ([.ref (h0), .int (a0)] : List Value).toArray s 0 0 (fun _ => False)) (F0 m 4 ls []) := by
    intro n
    induction n with
    | zero =>
      intro x2 x3  ls  hl hf
      rw [f_M_put_L4] at hf
      cases hf
    | succ n ih =>
      intro x2 x3  ls  hl hf
      rw [f_M_put_L4] at hf
      have J90 : ∀ (x2 : Int32) (x3 : Int32) (x4 : Int32) (t0 : Int32) (ls : Array Slot), lv_has ls 6 [(0, .ref (h0)), (1, .int (a0)), (2, .int (x2)), (3, .int (x3)), (4, .int (x4))] → f_M_put_L90 w_th w_pf w_of w_sz w_bg a0 (fun y0 y1 => f_M_put_L4 w_th w_pf w_of w_sz w_bg a0  n y0 y1) x2 x3 x4 t0 = some r → W p l e (headSpec (Cond.code y_M_put b_M_put 6 (Option.some FieldType.int) :: aw) ({ frames := 1, cells := 0, slots := 0, locals := 20 } : Room)).room s m ([.ref (h0), .int (a0)] : List Value).toArray below meth c s.heap [] 0 0 (MQ below (QcRead r) ([.ref (h0), .int (a0)] : List Value).toArray s 0 0 (fun _ => False)) (F0 m 90 ls [.int (t0)]) := by
        intro x2 x3 x4 t0  ls  hl hf
        rw [f_M_put_L90] at hf
        refine lv_istore (lv' := [(5, .int (t0)), (0, .ref (h0)), (1, .int (a0)), (2, .int (x2)), (3, .int (x3)), (4, .int (x4))]) hx hb d_M_put_90 hl (by decide) rfl (fun ls hl => ?_)
        refine lv_iload_n hx hb d_M_put_92 rfl (lv_at hl 3 rfl) ?_
        refine lv_iload hx hb d_M_put_93 (lv_at hl 0 rfl) ?_
        refine lv_iload_n hx hb d_M_put_95 rfl (lv_at hl 4 rfl) ?_
        refine lv_ishl hx hb d_M_put_96 ?_
        refine lv_ior hx hb d_M_put_97 ?_
        refine lv_istore_n (lv' := [(2, .int (x2 ||| (t0 <<< (x3 &&& 31)))), (5, .int (t0)), (0, .ref (h0)), (1, .int (a0)), (3, .int (x3)), (4, .int (x4))]) hx hb d_M_put_98 rfl hl (by decide) rfl (fun ls hl => ?_)
        refine lv_iinc (v := x3 + 1) (lv' := [(3, .int (x3 + 1)), (2, .int (x2 ||| (t0 <<< (x3 &&& 31)))), (5, .int (t0)), (0, .ref (h0)), (1, .int (a0)), (4, .int (x4))]) hx hb d_M_put_99 hl (k := 4) rfl rfl (by decide) rfl (fun ls hl => ?_)
        refine lv_goto (tgt := 4) hx hb d_M_put_102 (by decide) ?_
        exact ih (x2 ||| (t0 <<< (x3 &&& 31))) (x3 + 1)  _  (lv_sub hl [3, 4, 1, 0] rfl) hf
      refine lv_iload_n hx hb d_M_put_4 rfl (lv_at hl 3 rfl) ?_
      refine lv_iload_n hx hb d_M_put_5 rfl (lv_at hl 1 rfl) ?_
      obtain ⟨r_1, g_2, hf⟩ := Option.bind_eq_some_iff.mp hf
      refine ju_calli (W.runS (As := [.int (a0)]) (rest := [.int (x3)]) ⟨hx, hb, hml, hown, hts⟩ (c_M_bitsOf l (ad := ad) (sk := sk) (sv := sv) (tK := tK)  a0  r_1 g_2) (va_cwS 1 hts (aw_S aw_478 aw_479 aw_2 aw_480) rfl rfl rfl (by decide +kernel) ⟨Nat.le_of_ble_eq_true rfl, Nat.le_of_ble_eq_true rfl⟩) ⟨fun a U g mk q => ⟨q.1, q.2.call⟩, fun U hU hW => ⟨rfl, hT.at hS hU hW (fun _ z => z.elim)⟩⟩ rfl rfl hl.1 rfl (lv_room (Nat.le_of_ble_eq_true rfl)) d_M_put_6 ⟨Nat.le_refl _, Nat.le_refl _⟩) ?_
      refine lv_icmp_ge (tgt := 105) hx hb d_M_put_9 (by decide) (fun c_3 => ?_) (fun c_3 => ?_)
      · replace hf := (if_pos c_3).symm.trans hf
        refine lv_iload_n hx hb d_M_put_105 rfl (lv_at hl 2 rfl) ?_
        exact W.iret (v := x2) hx hb hr (fun t ht hW => ⟨congrArg (fun z => Outcome.returned (some (Value.int z))) (Option.some.inj hf), ht⟩) (fun q h => nomatch h) d_M_put_106
      · replace hf := (if_neg c_3).symm.trans hf
        refine lv_aload_n hx hb d_M_put_12 rfl (lv_at hl 0 rfl) ?_
        refine va_get (D := (dC, dI)) (ci := 1) (v := .ref (rw)) (C := "CodeWordsModel") (T := F_M) (N := 6) hx hb hts (in_M _) hown hK hP 0 rfl rfl 1 (by decide) (ht aw_440) (fun _ h9 => h9) rfl d_M_put_13 ?_
        refine lv_bipush (v := 32) hx hb d_M_put_16 (by decide) ?_
        refine lv_iload_n hx hb d_M_put_18 rfl (lv_at hl 1 rfl) ?_
        refine lv_imul hx hb d_M_put_19 ?_
        refine lv_iload_n hx hb d_M_put_20 rfl (lv_at hl 3 rfl) ?_
        refine lv_iadd hx hb d_M_put_21 ?_
        obtain ⟨z_4, hf⟩ := ju_gd hf
        refine va_iald hx hb hK hP 1 0 rfl rfl z_4 d_M_put_22 ?_
        refine lv_istore (lv' := [(4, .int (mR ((32 * a0) + x3).toNatClampNeg)), (0, .ref (h0)), (1, .int (a0)), (2, .int (x2)), (3, .int (x3))]) hx hb d_M_put_23 hl (by decide) rfl (fun ls hl => ?_)
        refine lv_iload hx hb d_M_put_25 (lv_at hl 0 rfl) ?_
        refine lv_iconst (v := 2) hx hb d_M_put_27 (by decide) ?_
        refine lv_icmp_ge (tgt := 36) hx hb d_M_put_28 (by decide) (fun c_5 => ?_) (fun c_5 => ?_)
        · replace hf := (if_pos c_5).symm.trans hf
          refine lv_iload hx hb d_M_put_36 (lv_at hl 0 rfl) ?_
          refine lv_sipush (v := 500) hx hb d_M_put_38 (by decide) ?_
          refine lv_icmp_ge (tgt := 67) hx hb d_M_put_41 (by decide) (fun c_6 => ?_) (fun c_6 => ?_)
          · replace hf := (if_pos c_6).symm.trans hf
            refine lv_aload_n hx hb d_M_put_67 rfl (lv_at hl 1 rfl) ?_
            refine va_get (D := (dC, dI)) (ci := 1) (v := .ref (pt)) (C := "CodeWordsModel") (T := F_M) (N := 6) hx hb hts (in_M _) hown hK hP 0 rfl rfl 2 (by decide) (ht aw_441) (fun _ h9 => h9) rfl d_M_put_68 ?_
            refine lv_iload hx hb d_M_put_71 (lv_at hl 0 rfl) ?_
            refine lv_bipush (v := 100) hx hb d_M_put_73 (by decide) ?_
            refine lv_idiv hx hb d_M_put_75 (by decide) ?_
            refine lv_iconst (v := 5) hx hb d_M_put_76 (by decide) ?_
            refine lv_isub hx hb d_M_put_77 ?_
            obtain ⟨z_7, hf⟩ := ju_gd hf
            refine va_iald hx hb hK hP 2 0 rfl rfl z_7 d_M_put_78 ?_
            refine lv_bipush (v := 8) hx hb d_M_put_79 (by decide) ?_
            refine lv_isub hx hb d_M_put_81 ?_
            refine lv_iload hx hb d_M_put_82 (lv_at hl 0 rfl) ?_
            refine lv_bipush (v := 100) hx hb d_M_put_84 (by decide) ?_
            refine lv_irem hx hb d_M_put_86 (by decide) ?_
            refine lv_ishr hx hb d_M_put_87 ?_
            refine lv_iconst (v := 1) hx hb d_M_put_88 (by decide) ?_
            refine lv_iand hx hb d_M_put_89 ?_
            exact J90 x2 x3 (mR ((32 * a0) + x3).toNatClampNeg) ((((w_pf (((mR ((32 * a0) + x3).toNatClampNeg) / 100) - 5).toNatClampNeg) - 8) >>> (((mR ((32 * a0) + x3).toNatClampNeg) - (mR ((32 * a0) + x3).toNatClampNeg) / 100 * 100) &&& 31)) &&& 1)  _  (lv_sub hl [1, 2, 3, 4, 0] rfl) hf
          · replace hf := (if_neg c_6).symm.trans hf
            refine lv_aload_n hx hb d_M_put_44 rfl (lv_at hl 1 rfl) ?_
            refine va_get (D := (dC, dI)) (ci := 1) (v := .ref (pt)) (C := "CodeWordsModel") (T := F_M) (N := 6) hx hb hts (in_M _) hown hK hP 0 rfl rfl 2 (by decide) (ht aw_441) (fun _ h9 => h9) rfl d_M_put_45 ?_
            refine lv_iload hx hb d_M_put_48 (lv_at hl 0 rfl) ?_
            refine lv_bipush (v := 100) hx hb d_M_put_50 (by decide) ?_
            refine lv_idiv hx hb d_M_put_52 (by decide) ?_
            refine lv_iconst (v := 1) hx hb d_M_put_53 (by decide) ?_
            refine lv_isub hx hb d_M_put_54 ?_
            obtain ⟨z_8, hf⟩ := ju_gd hf
            refine va_iald hx hb hK hP 2 0 rfl rfl z_8 d_M_put_55 ?_
            refine lv_iload hx hb d_M_put_56 (lv_at hl 0 rfl) ?_
            refine lv_bipush (v := 100) hx hb d_M_put_58 (by decide) ?_
            refine lv_irem hx hb d_M_put_60 (by decide) ?_
            refine lv_ishr hx hb d_M_put_61 ?_
            refine lv_iconst (v := 1) hx hb d_M_put_62 (by decide) ?_
            refine lv_iand hx hb d_M_put_63 ?_
            refine lv_goto (tgt := 90) hx hb d_M_put_64 (by decide) ?_
            exact J90 x2 x3 (mR ((32 * a0) + x3).toNatClampNeg) (((w_pf (((mR ((32 * a0) + x3).toNatClampNeg) / 100) - 1).toNatClampNeg) >>> (((mR ((32 * a0) + x3).toNatClampNeg) - (mR ((32 * a0) + x3).toNatClampNeg) / 100 * 100) &&& 31)) &&& 1)  _  (lv_sub hl [1, 2, 3, 4, 0] rfl) hf
        · replace hf := (if_neg c_5).symm.trans hf
          refine lv_iload hx hb d_M_put_31 (lv_at hl 0 rfl) ?_
          refine lv_goto (tgt := 90) hx hb d_M_put_33 (by decide) ?_
          exact J90 x2 x3 (mR ((32 * a0) + x3).toNatClampNeg) (mR ((32 * a0) + x3).toNatClampNeg)  _  (lv_sub hl [1, 2, 3, 4, 0] rfl) hf
  rw [f_M_put] at hf
  refine lv_iconst (v := 0) hx hb d_M_put_0 (by decide) ?_
  refine lv_istore_n (lv' := [(2, .int (0)), (0, .ref (h0)), (1, .int (a0))]) hx hb d_M_put_1 rfl hl (by decide) rfl (fun ls hl => ?_)
  refine lv_iconst (v := 0) hx hb d_M_put_2 (by decide) ?_
  refine lv_istore_n (lv' := [(3, .int (0)), (2, .int (0)), (0, .ref (h0)), (1, .int (a0))]) hx hb d_M_put_3 rfl hl (by decide) rfl (fun ls hl => ?_)
  exact J4 80 0 0  _  (lv_sub hl [2, 3, 1, 0] rfl) hf

