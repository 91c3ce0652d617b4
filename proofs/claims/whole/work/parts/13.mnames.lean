def f_M_nameOf (a0 : Int32) : Option Int64 :=
  if a0 = 0 then (some (20049)) else ( if a0 = 1 then (some (3919043)) else ( if a0 = 2 then (some (16052)) else ( if a0 = 3 then (some (642098)) else ( if a0 = 4 then (some (3417)) else ( if a0 = 5 then (some (3765)) else ( if a0 = 6 then (some (3700)) else ( if a0 = 7 then (some (3485)) else ( if a0 = 8 then (some (148021)) else ( if a0 = 9 then (some (139421)) else ( if a0 = 10 then (some (482)) else ( if a0 = 11 then (some (488)) else ( if a0 = 12 then (some (503)) else ( if a0 = 13 then (some (19301)) else ( if a0 = 14 then (some (19541)) else ( if a0 = 15 then (some (762)) else ( if a0 = 16 then (some (768)) else ( if a0 = 17 then (some (783)) else ( if a0 = 18 then (some (70569)) else ( if a0 = 19 then (some (1236009)) else ( if a0 = 20 then (some (49440381)) else ( if a0 = 21 then (some (1560729)) else ( if a0 = 22 then (some (24729)) else ( if a0 = 23 then (some (86569)) else ( if a0 = 24 then (some (1235689)) else ( if a0 = 25 then (some (1245289)) else ( if a0 = 26 then (some (1244849)) else ( if a0 = 27 then (some (1764)) else ( if a0 = 28 then (some (31242)) else ( if a0 = 29 then (some (30892)) else ( if a0 = 30 then (some (30900)) else ( if a0 = 31 then (some (1236021)) else ( if a0 = 32 then (some (39018)) else ( if a0 = 33 then (some (31132)) else ( if a0 = 34 then (some (31121)) else ( if a0 = 35 then (some (618)) else ( if a0 = 36 then (some (2164)) else ( if a0 = 37 then (some (21652)) else ( if a0 = 38 then (some (866088)) else ( if a0 = 39 then (some (1385741581)) else ( if a0 = 40 then (some (34643541)) else ( if a0 = 41 then (some (6782)) else ( if a0 = 42 then (some (271301)) else ( if a0 = 43 then (some (29013)) else ( if a0 = 44 then (some (1160541)) else ( if a0 = 45 then (some (15702525)) else ( if a0 = 46 then (some (12994092)) else ( if a0 = 47 then (some (518280051)) else ( if a0 = 48 then (some (1029095858655054)) else ( if a0 = 49 then (some (251703)) else ( if a0 = 50 then (some (251983)) else ( if a0 = 51 then (some (10071016)) else ( if a0 = 52 then (some (401990569)) else ( if a0 = 53 then (some (10064052)) else ( if a0 = 54 then (some (251689)) else ( if a0 = 55 then (some (1029095858485576)) else ( if a0 = 56 then (some (10068049)) else ( if a0 = 57 then (some (403165289)) else ( if a0 = 58 then (some (403164849)) else ( if a0 = 59 then (some (402006569)) else ( if a0 = 60 then (some (10079242)) else ( if a0 = 61 then (some (10087018)) else ( if a0 = 62 then (some (251818)) else ( if a0 = 63 then (some (10050164)) else ( if a0 = 64 then (some (6290)) else ( if a0 = 65 then (some (402056706)) else ( if a0 = 66 then (some (402070626)) else ( if a0 = 67 then (some (403155689)) else ( if a0 = 68 then (some (402725576)) else ( if a0 = 69 then (some (251618)) else ( if a0 = 70 then (some (251742)) else ( if a0 = 71 then (some (643590280051)) else ( if a0 = 72 then (some (402562098)) else ( if a0 = 73 then (some (10049764)) else (some (403173576)))))))))))))))))))))))))))))))))))))))))))))))))))))))))))))))))))))))))))
set_option maxHeartbeats 4000000 in
set_option maxRecDepth 100000 in
theorem c_M_nameOf (l : Launch) {ad sk sv : Nat → Nat} {tK : Nat} (a0 : Int32)  (r : Int64) (hf : f_M_nameOf a0 = some r) : Met l y_M_nameOf (Cond.code y_M_nameOf b_M_nameOf 1 (Option.some FieldType.long) :: aw) ({ frames := 0, cells := 0, slots := 0, locals := 0 } : Room) (va_Pc [.int (a0)] (fun U => tb ad sk sv tK (fun _ => False) U U.heap)) (QcReadL r) 0 0 (fun _ => False) := by
  refine Met.ofW (cc := b_M_nameOf) (maxL := 1) (ret := (Option.some FieldType.long)) (by decide) rfl ?_
  intro p e s m args below meth c s₁ B hml hv
  obtain ⟨rfl, hT⟩ := hv
  have hx := B.exec
  have hb := B.bytes
  have hr := B.returns
  have hts := atoms_spec (ws := (Cond.code y_M_nameOf b_M_nameOf 1 (Option.some FieldType.long) :: aw)) B.pre
  have ht : ∀ {w : Cond}, w ∈ aw → w.before ([.int (a0)] : List Value).toArray s = true := fun h => hts _ (List.mem_cons_of_mem _ h)
  have hown : s.vm.findClass "CodeWordsModel" = some m.cls := findClass_of_methodNamed B.named
  have hlocks := B.notSynchronized
  have hS : va_S (fun _ => False) s.heap s.heap [] := va_S.rf
  have hl := lv_entry ([.int (a0)]) (n := 1) (Nat.le_of_ble_eq_true rfl)
  rw [lg_entry_eq]
  generalize (lg_sl ([.int (a0)]) ++ List.replicate (1 - (lg_sl ([.int (a0)])).length) Slot.unset).toArray = ls at hl ⊢
  have hl : lv_has ls 1 [(0, .int (a0))] := hl
  rw [f_M_nameOf] at hf
  refine lv_iload_n hx hb d_M_nameOf_0 rfl (lv_at hl 0 rfl) ?_
  by_cases c_1 : a0 = 0
  · replace hf := (if_pos c_1).symm.trans hf
    refine lv_tableIn (tgt := 312) hx hb d_M_nameOf_1 (by rw [c_1]; decide) (by rw [c_1]; decide) (by rw [c_1] <;> rfl) (by decide) ?_
    refine lv_ldc2 (v := 20049) hx hb hown (ht aw_581) d_M_nameOf_312 ?_
    exact W.lret (v := 20049) hx hb hr (fun t ht hW => ⟨congrArg (fun z => Outcome.returned (some (Value.long z))) (Option.some.inj hf), ht⟩) (fun q h => nomatch h) d_M_nameOf_315
  · replace hf := (if_neg c_1).symm.trans hf
    by_cases c_2 : a0 = 1
    · replace hf := (if_pos c_2).symm.trans hf
      refine lv_tableIn (tgt := 316) hx hb d_M_nameOf_1 (by rw [c_2]; decide) (by rw [c_2]; decide) (by rw [c_2] <;> rfl) (by decide) ?_
      refine lv_ldc2 (v := 3919043) hx hb hown (ht aw_582) d_M_nameOf_316 ?_
      exact W.lret (v := 3919043) hx hb hr (fun t ht hW => ⟨congrArg (fun z => Outcome.returned (some (Value.long z))) (Option.some.inj hf), ht⟩) (fun q h => nomatch h) d_M_nameOf_319
    · replace hf := (if_neg c_2).symm.trans hf
      by_cases c_3 : a0 = 2
      · replace hf := (if_pos c_3).symm.trans hf
        refine lv_tableIn (tgt := 320) hx hb d_M_nameOf_1 (by rw [c_3]; decide) (by rw [c_3]; decide) (by rw [c_3] <;> rfl) (by decide) ?_
        refine lv_ldc2 (v := 16052) hx hb hown (ht aw_583) d_M_nameOf_320 ?_
        exact W.lret (v := 16052) hx hb hr (fun t ht hW => ⟨congrArg (fun z => Outcome.returned (some (Value.long z))) (Option.some.inj hf), ht⟩) (fun q h => nomatch h) d_M_nameOf_323
      · replace hf := (if_neg c_3).symm.trans hf
        by_cases c_4 : a0 = 3
        · replace hf := (if_pos c_4).symm.trans hf
          refine lv_tableIn (tgt := 324) hx hb d_M_nameOf_1 (by rw [c_4]; decide) (by rw [c_4]; decide) (by rw [c_4] <;> rfl) (by decide) ?_
          refine lv_ldc2 (v := 642098) hx hb hown (ht aw_584) d_M_nameOf_324 ?_
          exact W.lret (v := 642098) hx hb hr (fun t ht hW => ⟨congrArg (fun z => Outcome.returned (some (Value.long z))) (Option.some.inj hf), ht⟩) (fun q h => nomatch h) d_M_nameOf_327
        · replace hf := (if_neg c_4).symm.trans hf
          by_cases c_5 : a0 = 4
          · replace hf := (if_pos c_5).symm.trans hf
            refine lv_tableIn (tgt := 328) hx hb d_M_nameOf_1 (by rw [c_5]; decide) (by rw [c_5]; decide) (by rw [c_5] <;> rfl) (by decide) ?_
            refine lv_ldc2 (v := 3417) hx hb hown (ht aw_585) d_M_nameOf_328 ?_
            exact W.lret (v := 3417) hx hb hr (fun t ht hW => ⟨congrArg (fun z => Outcome.returned (some (Value.long z))) (Option.some.inj hf), ht⟩) (fun q h => nomatch h) d_M_nameOf_331
          · replace hf := (if_neg c_5).symm.trans hf
            by_cases c_6 : a0 = 5
            · replace hf := (if_pos c_6).symm.trans hf
              refine lv_tableIn (tgt := 332) hx hb d_M_nameOf_1 (by rw [c_6]; decide) (by rw [c_6]; decide) (by rw [c_6] <;> rfl) (by decide) ?_
              refine lv_ldc2 (v := 3765) hx hb hown (ht aw_586) d_M_nameOf_332 ?_
              exact W.lret (v := 3765) hx hb hr (fun t ht hW => ⟨congrArg (fun z => Outcome.returned (some (Value.long z))) (Option.some.inj hf), ht⟩) (fun q h => nomatch h) d_M_nameOf_335
            · replace hf := (if_neg c_6).symm.trans hf
              by_cases c_7 : a0 = 6
              · replace hf := (if_pos c_7).symm.trans hf
                refine lv_tableIn (tgt := 336) hx hb d_M_nameOf_1 (by rw [c_7]; decide) (by rw [c_7]; decide) (by rw [c_7] <;> rfl) (by decide) ?_
                refine lv_ldc2 (v := 3700) hx hb hown (ht aw_587) d_M_nameOf_336 ?_
                exact W.lret (v := 3700) hx hb hr (fun t ht hW => ⟨congrArg (fun z => Outcome.returned (some (Value.long z))) (Option.some.inj hf), ht⟩) (fun q h => nomatch h) d_M_nameOf_339
              · replace hf := (if_neg c_7).symm.trans hf
                by_cases c_8 : a0 = 7
                · replace hf := (if_pos c_8).symm.trans hf
                  refine lv_tableIn (tgt := 340) hx hb d_M_nameOf_1 (by rw [c_8]; decide) (by rw [c_8]; decide) (by rw [c_8] <;> rfl) (by decide) ?_
                  refine lv_ldc2 (v := 3485) hx hb hown (ht aw_588) d_M_nameOf_340 ?_
                  exact W.lret (v := 3485) hx hb hr (fun t ht hW => ⟨congrArg (fun z => Outcome.returned (some (Value.long z))) (Option.some.inj hf), ht⟩) (fun q h => nomatch h) d_M_nameOf_343
                · replace hf := (if_neg c_8).symm.trans hf
                  by_cases c_9 : a0 = 8
                  · replace hf := (if_pos c_9).symm.trans hf
                    refine lv_tableIn (tgt := 344) hx hb d_M_nameOf_1 (by rw [c_9]; decide) (by rw [c_9]; decide) (by rw [c_9] <;> rfl) (by decide) ?_
                    refine lv_ldc2 (v := 148021) hx hb hown (ht aw_589) d_M_nameOf_344 ?_
                    exact W.lret (v := 148021) hx hb hr (fun t ht hW => ⟨congrArg (fun z => Outcome.returned (some (Value.long z))) (Option.some.inj hf), ht⟩) (fun q h => nomatch h) d_M_nameOf_347
                  · replace hf := (if_neg c_9).symm.trans hf
                    by_cases c_10 : a0 = 9
                    · replace hf := (if_pos c_10).symm.trans hf
                      refine lv_tableIn (tgt := 348) hx hb d_M_nameOf_1 (by rw [c_10]; decide) (by rw [c_10]; decide) (by rw [c_10] <;> rfl) (by decide) ?_
                      refine lv_ldc2 (v := 139421) hx hb hown (ht aw_590) d_M_nameOf_348 ?_
                      exact W.lret (v := 139421) hx hb hr (fun t ht hW => ⟨congrArg (fun z => Outcome.returned (some (Value.long z))) (Option.some.inj hf), ht⟩) (fun q h => nomatch h) d_M_nameOf_351
                    · replace hf := (if_neg c_10).symm.trans hf
                      by_cases c_11 : a0 = 10
                      · replace hf := (if_pos c_11).symm.trans hf
                        refine lv_tableIn (tgt := 352) hx hb d_M_nameOf_1 (by rw [c_11]; decide) (by rw [c_11]; decide) (by rw [c_11] <;> rfl) (by decide) ?_
                        refine lv_ldc2 (v := 482) hx hb hown (ht aw_591) d_M_nameOf_352 ?_
                        exact W.lret (v := 482) hx hb hr (fun t ht hW => ⟨congrArg (fun z => Outcome.returned (some (Value.long z))) (Option.some.inj hf), ht⟩) (fun q h => nomatch h) d_M_nameOf_355
                      · replace hf := (if_neg c_11).symm.trans hf
                        by_cases c_12 : a0 = 11
                        · replace hf := (if_pos c_12).symm.trans hf
                          refine lv_tableIn (tgt := 356) hx hb d_M_nameOf_1 (by rw [c_12]; decide) (by rw [c_12]; decide) (by rw [c_12] <;> rfl) (by decide) ?_
                          refine lv_ldc2 (v := 488) hx hb hown (ht aw_592) d_M_nameOf_356 ?_
                          exact W.lret (v := 488) hx hb hr (fun t ht hW => ⟨congrArg (fun z => Outcome.returned (some (Value.long z))) (Option.some.inj hf), ht⟩) (fun q h => nomatch h) d_M_nameOf_359
                        · replace hf := (if_neg c_12).symm.trans hf
                          by_cases c_13 : a0 = 12
                          · replace hf := (if_pos c_13).symm.trans hf
                            refine lv_tableIn (tgt := 360) hx hb d_M_nameOf_1 (by rw [c_13]; decide) (by rw [c_13]; decide) (by rw [c_13] <;> rfl) (by decide) ?_
                            refine lv_ldc2 (v := 503) hx hb hown (ht aw_593) d_M_nameOf_360 ?_
                            exact W.lret (v := 503) hx hb hr (fun t ht hW => ⟨congrArg (fun z => Outcome.returned (some (Value.long z))) (Option.some.inj hf), ht⟩) (fun q h => nomatch h) d_M_nameOf_363
                          · replace hf := (if_neg c_13).symm.trans hf
                            by_cases c_14 : a0 = 13
                            · replace hf := (if_pos c_14).symm.trans hf
                              refine lv_tableIn (tgt := 364) hx hb d_M_nameOf_1 (by rw [c_14]; decide) (by rw [c_14]; decide) (by rw [c_14] <;> rfl) (by decide) ?_
                              refine lv_ldc2 (v := 19301) hx hb hown (ht aw_594) d_M_nameOf_364 ?_
                              exact W.lret (v := 19301) hx hb hr (fun t ht hW => ⟨congrArg (fun z => Outcome.returned (some (Value.long z))) (Option.some.inj hf), ht⟩) (fun q h => nomatch h) d_M_nameOf_367
                            · replace hf := (if_neg c_14).symm.trans hf
                              by_cases c_15 : a0 = 14
                              · replace hf := (if_pos c_15).symm.trans hf
                                refine lv_tableIn (tgt := 368) hx hb d_M_nameOf_1 (by rw [c_15]; decide) (by rw [c_15]; decide) (by rw [c_15] <;> rfl) (by decide) ?_
                                refine lv_ldc2 (v := 19541) hx hb hown (ht aw_595) d_M_nameOf_368 ?_
                                exact W.lret (v := 19541) hx hb hr (fun t ht hW => ⟨congrArg (fun z => Outcome.returned (some (Value.long z))) (Option.some.inj hf), ht⟩) (fun q h => nomatch h) d_M_nameOf_371
                              · replace hf := (if_neg c_15).symm.trans hf
                                by_cases c_16 : a0 = 15
                                · replace hf := (if_pos c_16).symm.trans hf
                                  refine lv_tableIn (tgt := 372) hx hb d_M_nameOf_1 (by rw [c_16]; decide) (by rw [c_16]; decide) (by rw [c_16] <;> rfl) (by decide) ?_
                                  refine lv_ldc2 (v := 762) hx hb hown (ht aw_596) d_M_nameOf_372 ?_
                                  exact W.lret (v := 762) hx hb hr (fun t ht hW => ⟨congrArg (fun z => Outcome.returned (some (Value.long z))) (Option.some.inj hf), ht⟩) (fun q h => nomatch h) d_M_nameOf_375
                                · replace hf := (if_neg c_16).symm.trans hf
                                  by_cases c_17 : a0 = 16
                                  · replace hf := (if_pos c_17).symm.trans hf
                                    refine lv_tableIn (tgt := 376) hx hb d_M_nameOf_1 (by rw [c_17]; decide) (by rw [c_17]; decide) (by rw [c_17] <;> rfl) (by decide) ?_
                                    refine lv_ldc2 (v := 768) hx hb hown (ht aw_597) d_M_nameOf_376 ?_
                                    exact W.lret (v := 768) hx hb hr (fun t ht hW => ⟨congrArg (fun z => Outcome.returned (some (Value.long z))) (Option.some.inj hf), ht⟩) (fun q h => nomatch h) d_M_nameOf_379
                                  · replace hf := (if_neg c_17).symm.trans hf
                                    by_cases c_18 : a0 = 17
                                    · replace hf := (if_pos c_18).symm.trans hf
                                      refine lv_tableIn (tgt := 380) hx hb d_M_nameOf_1 (by rw [c_18]; decide) (by rw [c_18]; decide) (by rw [c_18] <;> rfl) (by decide) ?_
                                      refine lv_ldc2 (v := 783) hx hb hown (ht aw_598) d_M_nameOf_380 ?_
                                      exact W.lret (v := 783) hx hb hr (fun t ht hW => ⟨congrArg (fun z => Outcome.returned (some (Value.long z))) (Option.some.inj hf), ht⟩) (fun q h => nomatch h) d_M_nameOf_383
                                    · replace hf := (if_neg c_18).symm.trans hf
                                      by_cases c_19 : a0 = 18
                                      · replace hf := (if_pos c_19).symm.trans hf
                                        refine lv_tableIn (tgt := 384) hx hb d_M_nameOf_1 (by rw [c_19]; decide) (by rw [c_19]; decide) (by rw [c_19] <;> rfl) (by decide) ?_
                                        refine lv_ldc2 (v := 70569) hx hb hown (ht aw_599) d_M_nameOf_384 ?_
                                        exact W.lret (v := 70569) hx hb hr (fun t ht hW => ⟨congrArg (fun z => Outcome.returned (some (Value.long z))) (Option.some.inj hf), ht⟩) (fun q h => nomatch h) d_M_nameOf_387
                                      · replace hf := (if_neg c_19).symm.trans hf
                                        by_cases c_20 : a0 = 19
                                        · replace hf := (if_pos c_20).symm.trans hf
                                          refine lv_tableIn (tgt := 388) hx hb d_M_nameOf_1 (by rw [c_20]; decide) (by rw [c_20]; decide) (by rw [c_20] <;> rfl) (by decide) ?_
                                          refine lv_ldc2 (v := 1236009) hx hb hown (ht aw_600) d_M_nameOf_388 ?_
                                          exact W.lret (v := 1236009) hx hb hr (fun t ht hW => ⟨congrArg (fun z => Outcome.returned (some (Value.long z))) (Option.some.inj hf), ht⟩) (fun q h => nomatch h) d_M_nameOf_391
                                        · replace hf := (if_neg c_20).symm.trans hf
                                          by_cases c_21 : a0 = 20
                                          · replace hf := (if_pos c_21).symm.trans hf
                                            refine lv_tableIn (tgt := 392) hx hb d_M_nameOf_1 (by rw [c_21]; decide) (by rw [c_21]; decide) (by rw [c_21] <;> rfl) (by decide) ?_
                                            refine lv_ldc2 (v := 49440381) hx hb hown (ht aw_601) d_M_nameOf_392 ?_
                                            exact W.lret (v := 49440381) hx hb hr (fun t ht hW => ⟨congrArg (fun z => Outcome.returned (some (Value.long z))) (Option.some.inj hf), ht⟩) (fun q h => nomatch h) d_M_nameOf_395
                                          · replace hf := (if_neg c_21).symm.trans hf
                                            by_cases c_22 : a0 = 21
                                            · replace hf := (if_pos c_22).symm.trans hf
                                              refine lv_tableIn (tgt := 396) hx hb d_M_nameOf_1 (by rw [c_22]; decide) (by rw [c_22]; decide) (by rw [c_22] <;> rfl) (by decide) ?_
                                              refine lv_ldc2 (v := 1560729) hx hb hown (ht aw_602) d_M_nameOf_396 ?_
                                              exact W.lret (v := 1560729) hx hb hr (fun t ht hW => ⟨congrArg (fun z => Outcome.returned (some (Value.long z))) (Option.some.inj hf), ht⟩) (fun q h => nomatch h) d_M_nameOf_399
                                            · replace hf := (if_neg c_22).symm.trans hf
                                              by_cases c_23 : a0 = 22
                                              · replace hf := (if_pos c_23).symm.trans hf
                                                refine lv_tableIn (tgt := 400) hx hb d_M_nameOf_1 (by rw [c_23]; decide) (by rw [c_23]; decide) (by rw [c_23] <;> rfl) (by decide) ?_
                                                refine lv_ldc2 (v := 24729) hx hb hown (ht aw_603) d_M_nameOf_400 ?_
                                                exact W.lret (v := 24729) hx hb hr (fun t ht hW => ⟨congrArg (fun z => Outcome.returned (some (Value.long z))) (Option.some.inj hf), ht⟩) (fun q h => nomatch h) d_M_nameOf_403
                                              · replace hf := (if_neg c_23).symm.trans hf
                                                by_cases c_24 : a0 = 23
                                                · replace hf := (if_pos c_24).symm.trans hf
                                                  refine lv_tableIn (tgt := 404) hx hb d_M_nameOf_1 (by rw [c_24]; decide) (by rw [c_24]; decide) (by rw [c_24] <;> rfl) (by decide) ?_
                                                  refine lv_ldc2 (v := 86569) hx hb hown (ht aw_604) d_M_nameOf_404 ?_
                                                  exact W.lret (v := 86569) hx hb hr (fun t ht hW => ⟨congrArg (fun z => Outcome.returned (some (Value.long z))) (Option.some.inj hf), ht⟩) (fun q h => nomatch h) d_M_nameOf_407
                                                · replace hf := (if_neg c_24).symm.trans hf
                                                  by_cases c_25 : a0 = 24
                                                  · replace hf := (if_pos c_25).symm.trans hf
                                                    refine lv_tableIn (tgt := 408) hx hb d_M_nameOf_1 (by rw [c_25]; decide) (by rw [c_25]; decide) (by rw [c_25] <;> rfl) (by decide) ?_
                                                    refine lv_ldc2 (v := 1235689) hx hb hown (ht aw_605) d_M_nameOf_408 ?_
                                                    exact W.lret (v := 1235689) hx hb hr (fun t ht hW => ⟨congrArg (fun z => Outcome.returned (some (Value.long z))) (Option.some.inj hf), ht⟩) (fun q h => nomatch h) d_M_nameOf_411
                                                  · replace hf := (if_neg c_25).symm.trans hf
                                                    by_cases c_26 : a0 = 25
                                                    · replace hf := (if_pos c_26).symm.trans hf
                                                      refine lv_tableIn (tgt := 412) hx hb d_M_nameOf_1 (by rw [c_26]; decide) (by rw [c_26]; decide) (by rw [c_26] <;> rfl) (by decide) ?_
                                                      refine lv_ldc2 (v := 1245289) hx hb hown (ht aw_606) d_M_nameOf_412 ?_
                                                      exact W.lret (v := 1245289) hx hb hr (fun t ht hW => ⟨congrArg (fun z => Outcome.returned (some (Value.long z))) (Option.some.inj hf), ht⟩) (fun q h => nomatch h) d_M_nameOf_415
                                                    · replace hf := (if_neg c_26).symm.trans hf
                                                      by_cases c_27 : a0 = 26
                                                      · replace hf := (if_pos c_27).symm.trans hf
                                                        refine lv_tableIn (tgt := 416) hx hb d_M_nameOf_1 (by rw [c_27]; decide) (by rw [c_27]; decide) (by rw [c_27] <;> rfl) (by decide) ?_
                                                        refine lv_ldc2 (v := 1244849) hx hb hown (ht aw_607) d_M_nameOf_416 ?_
                                                        exact W.lret (v := 1244849) hx hb hr (fun t ht hW => ⟨congrArg (fun z => Outcome.returned (some (Value.long z))) (Option.some.inj hf), ht⟩) (fun q h => nomatch h) d_M_nameOf_419
                                                      · replace hf := (if_neg c_27).symm.trans hf
                                                        by_cases c_28 : a0 = 27
                                                        · replace hf := (if_pos c_28).symm.trans hf
                                                          refine lv_tableIn (tgt := 420) hx hb d_M_nameOf_1 (by rw [c_28]; decide) (by rw [c_28]; decide) (by rw [c_28] <;> rfl) (by decide) ?_
                                                          refine lv_ldc2 (v := 1764) hx hb hown (ht aw_608) d_M_nameOf_420 ?_
                                                          exact W.lret (v := 1764) hx hb hr (fun t ht hW => ⟨congrArg (fun z => Outcome.returned (some (Value.long z))) (Option.some.inj hf), ht⟩) (fun q h => nomatch h) d_M_nameOf_423
                                                        · replace hf := (if_neg c_28).symm.trans hf
                                                          by_cases c_29 : a0 = 28
                                                          · replace hf := (if_pos c_29).symm.trans hf
                                                            refine lv_tableIn (tgt := 424) hx hb d_M_nameOf_1 (by rw [c_29]; decide) (by rw [c_29]; decide) (by rw [c_29] <;> rfl) (by decide) ?_
                                                            refine lv_ldc2 (v := 31242) hx hb hown (ht aw_609) d_M_nameOf_424 ?_
                                                            exact W.lret (v := 31242) hx hb hr (fun t ht hW => ⟨congrArg (fun z => Outcome.returned (some (Value.long z))) (Option.some.inj hf), ht⟩) (fun q h => nomatch h) d_M_nameOf_427
                                                          · replace hf := (if_neg c_29).symm.trans hf
                                                            by_cases c_30 : a0 = 29
                                                            · replace hf := (if_pos c_30).symm.trans hf
                                                              refine lv_tableIn (tgt := 428) hx hb d_M_nameOf_1 (by rw [c_30]; decide) (by rw [c_30]; decide) (by rw [c_30] <;> rfl) (by decide) ?_
                                                              refine lv_ldc2 (v := 30892) hx hb hown (ht aw_610) d_M_nameOf_428 ?_
                                                              exact W.lret (v := 30892) hx hb hr (fun t ht hW => ⟨congrArg (fun z => Outcome.returned (some (Value.long z))) (Option.some.inj hf), ht⟩) (fun q h => nomatch h) d_M_nameOf_431
                                                            · replace hf := (if_neg c_30).symm.trans hf
                                                              by_cases c_31 : a0 = 30
                                                              · replace hf := (if_pos c_31).symm.trans hf
                                                                refine lv_tableIn (tgt := 432) hx hb d_M_nameOf_1 (by rw [c_31]; decide) (by rw [c_31]; decide) (by rw [c_31] <;> rfl) (by decide) ?_
                                                                refine lv_ldc2 (v := 30900) hx hb hown (ht aw_611) d_M_nameOf_432 ?_
                                                                exact W.lret (v := 30900) hx hb hr (fun t ht hW => ⟨congrArg (fun z => Outcome.returned (some (Value.long z))) (Option.some.inj hf), ht⟩) (fun q h => nomatch h) d_M_nameOf_435
                                                              · replace hf := (if_neg c_31).symm.trans hf
                                                                by_cases c_32 : a0 = 31
                                                                · replace hf := (if_pos c_32).symm.trans hf
                                                                  refine lv_tableIn (tgt := 436) hx hb d_M_nameOf_1 (by rw [c_32]; decide) (by rw [c_32]; decide) (by rw [c_32] <;> rfl) (by decide) ?_
                                                                  refine lv_ldc2 (v := 1236021) hx hb hown (ht aw_612) d_M_nameOf_436 ?_
                                                                  exact W.lret (v := 1236021) hx hb hr (fun t ht hW => ⟨congrArg (fun z => Outcome.returned (some (Value.long z))) (Option.some.inj hf), ht⟩) (fun q h => nomatch h) d_M_nameOf_439
                                                                · replace hf := (if_neg c_32).symm.trans hf
                                                                  by_cases c_33 : a0 = 32
                                                                  · replace hf := (if_pos c_33).symm.trans hf
                                                                    refine lv_tableIn (tgt := 440) hx hb d_M_nameOf_1 (by rw [c_33]; decide) (by rw [c_33]; decide) (by rw [c_33] <;> rfl) (by decide) ?_
                                                                    refine lv_ldc2 (v := 39018) hx hb hown (ht aw_613) d_M_nameOf_440 ?_
                                                                    exact W.lret (v := 39018) hx hb hr (fun t ht hW => ⟨congrArg (fun z => Outcome.returned (some (Value.long z))) (Option.some.inj hf), ht⟩) (fun q h => nomatch h) d_M_nameOf_443
                                                                  · replace hf := (if_neg c_33).symm.trans hf
                                                                    by_cases c_34 : a0 = 33
                                                                    · replace hf := (if_pos c_34).symm.trans hf
                                                                      refine lv_tableIn (tgt := 444) hx hb d_M_nameOf_1 (by rw [c_34]; decide) (by rw [c_34]; decide) (by rw [c_34] <;> rfl) (by decide) ?_
                                                                      refine lv_ldc2 (v := 31132) hx hb hown (ht aw_614) d_M_nameOf_444 ?_
                                                                      exact W.lret (v := 31132) hx hb hr (fun t ht hW => ⟨congrArg (fun z => Outcome.returned (some (Value.long z))) (Option.some.inj hf), ht⟩) (fun q h => nomatch h) d_M_nameOf_447
                                                                    · replace hf := (if_neg c_34).symm.trans hf
                                                                      by_cases c_35 : a0 = 34
                                                                      · replace hf := (if_pos c_35).symm.trans hf
                                                                        refine lv_tableIn (tgt := 448) hx hb d_M_nameOf_1 (by rw [c_35]; decide) (by rw [c_35]; decide) (by rw [c_35] <;> rfl) (by decide) ?_
                                                                        refine lv_ldc2 (v := 31121) hx hb hown (ht aw_615) d_M_nameOf_448 ?_
                                                                        exact W.lret (v := 31121) hx hb hr (fun t ht hW => ⟨congrArg (fun z => Outcome.returned (some (Value.long z))) (Option.some.inj hf), ht⟩) (fun q h => nomatch h) d_M_nameOf_451
                                                                      · replace hf := (if_neg c_35).symm.trans hf
                                                                        by_cases c_36 : a0 = 35
                                                                        · replace hf := (if_pos c_36).symm.trans hf
                                                                          refine lv_tableIn (tgt := 452) hx hb d_M_nameOf_1 (by rw [c_36]; decide) (by rw [c_36]; decide) (by rw [c_36] <;> rfl) (by decide) ?_
                                                                          refine lv_ldc2 (v := 618) hx hb hown (ht aw_616) d_M_nameOf_452 ?_
                                                                          exact W.lret (v := 618) hx hb hr (fun t ht hW => ⟨congrArg (fun z => Outcome.returned (some (Value.long z))) (Option.some.inj hf), ht⟩) (fun q h => nomatch h) d_M_nameOf_455
                                                                        · replace hf := (if_neg c_36).symm.trans hf
                                                                          by_cases c_37 : a0 = 36
                                                                          · replace hf := (if_pos c_37).symm.trans hf
                                                                            refine lv_tableIn (tgt := 456) hx hb d_M_nameOf_1 (by rw [c_37]; decide) (by rw [c_37]; decide) (by rw [c_37] <;> rfl) (by decide) ?_
                                                                            refine lv_ldc2 (v := 2164) hx hb hown (ht aw_617) d_M_nameOf_456 ?_
                                                                            exact W.lret (v := 2164) hx hb hr (fun t ht hW => ⟨congrArg (fun z => Outcome.returned (some (Value.long z))) (Option.some.inj hf), ht⟩) (fun q h => nomatch h) d_M_nameOf_459
                                                                          · replace hf := (if_neg c_37).symm.trans hf
                                                                            by_cases c_38 : a0 = 37
                                                                            · replace hf := (if_pos c_38).symm.trans hf
                                                                              refine lv_tableIn (tgt := 460) hx hb d_M_nameOf_1 (by rw [c_38]; decide) (by rw [c_38]; decide) (by rw [c_38] <;> rfl) (by decide) ?_
                                                                              refine lv_ldc2 (v := 21652) hx hb hown (ht aw_618) d_M_nameOf_460 ?_
                                                                              exact W.lret (v := 21652) hx hb hr (fun t ht hW => ⟨congrArg (fun z => Outcome.returned (some (Value.long z))) (Option.some.inj hf), ht⟩) (fun q h => nomatch h) d_M_nameOf_463
                                                                            · replace hf := (if_neg c_38).symm.trans hf
                                                                              by_cases c_39 : a0 = 38
                                                                              · replace hf := (if_pos c_39).symm.trans hf
                                                                                refine lv_tableIn (tgt := 464) hx hb d_M_nameOf_1 (by rw [c_39]; decide) (by rw [c_39]; decide) (by rw [c_39] <;> rfl) (by decide) ?_
                                                                                refine lv_ldc2 (v := 866088) hx hb hown (ht aw_619) d_M_nameOf_464 ?_
                                                                                exact W.lret (v := 866088) hx hb hr (fun t ht hW => ⟨congrArg (fun z => Outcome.returned (some (Value.long z))) (Option.some.inj hf), ht⟩) (fun q h => nomatch h) d_M_nameOf_467
                                                                              · replace hf := (if_neg c_39).symm.trans hf
                                                                                by_cases c_40 : a0 = 39
                                                                                · replace hf := (if_pos c_40).symm.trans hf
                                                                                  refine lv_tableIn (tgt := 468) hx hb d_M_nameOf_1 (by rw [c_40]; decide) (by rw [c_40]; decide) (by rw [c_40] <;> rfl) (by decide) ?_
                                                                                  refine lv_ldc2 (v := 1385741581) hx hb hown (ht aw_620) d_M_nameOf_468 ?_
                                                                                  exact W.lret (v := 1385741581) hx hb hr (fun t ht hW => ⟨congrArg (fun z => Outcome.returned (some (Value.long z))) (Option.some.inj hf), ht⟩) (fun q h => nomatch h) d_M_nameOf_471
                                                                                · replace hf := (if_neg c_40).symm.trans hf
                                                                                  by_cases c_41 : a0 = 40
                                                                                  · replace hf := (if_pos c_41).symm.trans hf
                                                                                    refine lv_tableIn (tgt := 472) hx hb d_M_nameOf_1 (by rw [c_41]; decide) (by rw [c_41]; decide) (by rw [c_41] <;> rfl) (by decide) ?_
                                                                                    refine lv_ldc2 (v := 34643541) hx hb hown (ht aw_621) d_M_nameOf_472 ?_
                                                                                    exact W.lret (v := 34643541) hx hb hr (fun t ht hW => ⟨congrArg (fun z => Outcome.returned (some (Value.long z))) (Option.some.inj hf), ht⟩) (fun q h => nomatch h) d_M_nameOf_475
                                                                                  · replace hf := (if_neg c_41).symm.trans hf
                                                                                    by_cases c_42 : a0 = 41
                                                                                    · replace hf := (if_pos c_42).symm.trans hf
                                                                                      refine lv_tableIn (tgt := 476) hx hb d_M_nameOf_1 (by rw [c_42]; decide) (by rw [c_42]; decide) (by rw [c_42] <;> rfl) (by decide) ?_
                                                                                      refine lv_ldc2 (v := 6782) hx hb hown (ht aw_622) d_M_nameOf_476 ?_
                                                                                      exact W.lret (v := 6782) hx hb hr (fun t ht hW => ⟨congrArg (fun z => Outcome.returned (some (Value.long z))) (Option.some.inj hf), ht⟩) (fun q h => nomatch h) d_M_nameOf_479
                                                                                    · replace hf := (if_neg c_42).symm.trans hf
                                                                                      by_cases c_43 : a0 = 42
                                                                                      · replace hf := (if_pos c_43).symm.trans hf
                                                                                        refine lv_tableIn (tgt := 480) hx hb d_M_nameOf_1 (by rw [c_43]; decide) (by rw [c_43]; decide) (by rw [c_43] <;> rfl) (by decide) ?_
                                                                                        refine lv_ldc2 (v := 271301) hx hb hown (ht aw_623) d_M_nameOf_480 ?_
                                                                                        exact W.lret (v := 271301) hx hb hr (fun t ht hW => ⟨congrArg (fun z => Outcome.returned (some (Value.long z))) (Option.some.inj hf), ht⟩) (fun q h => nomatch h) d_M_nameOf_483
                                                                                      · replace hf := (if_neg c_43).symm.trans hf
                                                                                        by_cases c_44 : a0 = 43
                                                                                        · replace hf := (if_pos c_44).symm.trans hf
                                                                                          refine lv_tableIn (tgt := 484) hx hb d_M_nameOf_1 (by rw [c_44]; decide) (by rw [c_44]; decide) (by rw [c_44] <;> rfl) (by decide) ?_
                                                                                          refine lv_ldc2 (v := 29013) hx hb hown (ht aw_624) d_M_nameOf_484 ?_
                                                                                          exact W.lret (v := 29013) hx hb hr (fun t ht hW => ⟨congrArg (fun z => Outcome.returned (some (Value.long z))) (Option.some.inj hf), ht⟩) (fun q h => nomatch h) d_M_nameOf_487
                                                                                        · replace hf := (if_neg c_44).symm.trans hf
                                                                                          by_cases c_45 : a0 = 44
                                                                                          · replace hf := (if_pos c_45).symm.trans hf
                                                                                            refine lv_tableIn (tgt := 488) hx hb d_M_nameOf_1 (by rw [c_45]; decide) (by rw [c_45]; decide) (by rw [c_45] <;> rfl) (by decide) ?_
                                                                                            refine lv_ldc2 (v := 1160541) hx hb hown (ht aw_625) d_M_nameOf_488 ?_
                                                                                            exact W.lret (v := 1160541) hx hb hr (fun t ht hW => ⟨congrArg (fun z => Outcome.returned (some (Value.long z))) (Option.some.inj hf), ht⟩) (fun q h => nomatch h) d_M_nameOf_491
                                                                                          · replace hf := (if_neg c_45).symm.trans hf
                                                                                            by_cases c_46 : a0 = 45
                                                                                            · replace hf := (if_pos c_46).symm.trans hf
                                                                                              refine lv_tableIn (tgt := 492) hx hb d_M_nameOf_1 (by rw [c_46]; decide) (by rw [c_46]; decide) (by rw [c_46] <;> rfl) (by decide) ?_
                                                                                              refine lv_ldc2 (v := 15702525) hx hb hown (ht aw_626) d_M_nameOf_492 ?_
                                                                                              exact W.lret (v := 15702525) hx hb hr (fun t ht hW => ⟨congrArg (fun z => Outcome.returned (some (Value.long z))) (Option.some.inj hf), ht⟩) (fun q h => nomatch h) d_M_nameOf_495
                                                                                            · replace hf := (if_neg c_46).symm.trans hf
                                                                                              by_cases c_47 : a0 = 46
                                                                                              · replace hf := (if_pos c_47).symm.trans hf
                                                                                                refine lv_tableIn (tgt := 496) hx hb d_M_nameOf_1 (by rw [c_47]; decide) (by rw [c_47]; decide) (by rw [c_47] <;> rfl) (by decide) ?_
                                                                                                refine lv_ldc2 (v := 12994092) hx hb hown (ht aw_627) d_M_nameOf_496 ?_
                                                                                                exact W.lret (v := 12994092) hx hb hr (fun t ht hW => ⟨congrArg (fun z => Outcome.returned (some (Value.long z))) (Option.some.inj hf), ht⟩) (fun q h => nomatch h) d_M_nameOf_499
                                                                                              · replace hf := (if_neg c_47).symm.trans hf
                                                                                                by_cases c_48 : a0 = 47
                                                                                                · replace hf := (if_pos c_48).symm.trans hf
                                                                                                  refine lv_tableIn (tgt := 500) hx hb d_M_nameOf_1 (by rw [c_48]; decide) (by rw [c_48]; decide) (by rw [c_48] <;> rfl) (by decide) ?_
                                                                                                  refine lv_ldc2 (v := 518280051) hx hb hown (ht aw_628) d_M_nameOf_500 ?_
                                                                                                  exact W.lret (v := 518280051) hx hb hr (fun t ht hW => ⟨congrArg (fun z => Outcome.returned (some (Value.long z))) (Option.some.inj hf), ht⟩) (fun q h => nomatch h) d_M_nameOf_503
                                                                                                · replace hf := (if_neg c_48).symm.trans hf
                                                                                                  by_cases c_49 : a0 = 48
                                                                                                  · replace hf := (if_pos c_49).symm.trans hf
                                                                                                    refine lv_tableIn (tgt := 504) hx hb d_M_nameOf_1 (by rw [c_49]; decide) (by rw [c_49]; decide) (by rw [c_49] <;> rfl) (by decide) ?_
                                                                                                    refine lv_ldc2 (v := 1029095858655054) hx hb hown (ht aw_629) d_M_nameOf_504 ?_
                                                                                                    exact W.lret (v := 1029095858655054) hx hb hr (fun t ht hW => ⟨congrArg (fun z => Outcome.returned (some (Value.long z))) (Option.some.inj hf), ht⟩) (fun q h => nomatch h) d_M_nameOf_507
                                                                                                  · replace hf := (if_neg c_49).symm.trans hf
                                                                                                    by_cases c_50 : a0 = 49
                                                                                                    · replace hf := (if_pos c_50).symm.trans hf
                                                                                                      refine lv_tableIn (tgt := 508) hx hb d_M_nameOf_1 (by rw [c_50]; decide) (by rw [c_50]; decide) (by rw [c_50] <;> rfl) (by decide) ?_
                                                                                                      refine lv_ldc2 (v := 251703) hx hb hown (ht aw_630) d_M_nameOf_508 ?_
                                                                                                      exact W.lret (v := 251703) hx hb hr (fun t ht hW => ⟨congrArg (fun z => Outcome.returned (some (Value.long z))) (Option.some.inj hf), ht⟩) (fun q h => nomatch h) d_M_nameOf_511
                                                                                                    · replace hf := (if_neg c_50).symm.trans hf
                                                                                                      by_cases c_51 : a0 = 50
                                                                                                      · replace hf := (if_pos c_51).symm.trans hf
                                                                                                        refine lv_tableIn (tgt := 512) hx hb d_M_nameOf_1 (by rw [c_51]; decide) (by rw [c_51]; decide) (by rw [c_51] <;> rfl) (by decide) ?_
                                                                                                        refine lv_ldc2 (v := 251983) hx hb hown (ht aw_631) d_M_nameOf_512 ?_
                                                                                                        exact W.lret (v := 251983) hx hb hr (fun t ht hW => ⟨congrArg (fun z => Outcome.returned (some (Value.long z))) (Option.some.inj hf), ht⟩) (fun q h => nomatch h) d_M_nameOf_515
                                                                                                      · replace hf := (if_neg c_51).symm.trans hf
                                                                                                        by_cases c_52 : a0 = 51
                                                                                                        · replace hf := (if_pos c_52).symm.trans hf
                                                                                                          refine lv_tableIn (tgt := 516) hx hb d_M_nameOf_1 (by rw [c_52]; decide) (by rw [c_52]; decide) (by rw [c_52] <;> rfl) (by decide) ?_
                                                                                                          refine lv_ldc2 (v := 10071016) hx hb hown (ht aw_632) d_M_nameOf_516 ?_
                                                                                                          exact W.lret (v := 10071016) hx hb hr (fun t ht hW => ⟨congrArg (fun z => Outcome.returned (some (Value.long z))) (Option.some.inj hf), ht⟩) (fun q h => nomatch h) d_M_nameOf_519
                                                                                                        · replace hf := (if_neg c_52).symm.trans hf
                                                                                                          by_cases c_53 : a0 = 52
                                                                                                          · replace hf := (if_pos c_53).symm.trans hf
                                                                                                            refine lv_tableIn (tgt := 520) hx hb d_M_nameOf_1 (by rw [c_53]; decide) (by rw [c_53]; decide) (by rw [c_53] <;> rfl) (by decide) ?_
                                                                                                            refine lv_ldc2 (v := 401990569) hx hb hown (ht aw_633) d_M_nameOf_520 ?_
                                                                                                            exact W.lret (v := 401990569) hx hb hr (fun t ht hW => ⟨congrArg (fun z => Outcome.returned (some (Value.long z))) (Option.some.inj hf), ht⟩) (fun q h => nomatch h) d_M_nameOf_523
                                                                                                          · replace hf := (if_neg c_53).symm.trans hf
                                                                                                            by_cases c_54 : a0 = 53
                                                                                                            · replace hf := (if_pos c_54).symm.trans hf
                                                                                                              refine lv_tableIn (tgt := 524) hx hb d_M_nameOf_1 (by rw [c_54]; decide) (by rw [c_54]; decide) (by rw [c_54] <;> rfl) (by decide) ?_
                                                                                                              refine lv_ldc2 (v := 10064052) hx hb hown (ht aw_634) d_M_nameOf_524 ?_
                                                                                                              exact W.lret (v := 10064052) hx hb hr (fun t ht hW => ⟨congrArg (fun z => Outcome.returned (some (Value.long z))) (Option.some.inj hf), ht⟩) (fun q h => nomatch h) d_M_nameOf_527
                                                                                                            · replace hf := (if_neg c_54).symm.trans hf
                                                                                                              by_cases c_55 : a0 = 54
                                                                                                              · replace hf := (if_pos c_55).symm.trans hf
                                                                                                                refine lv_tableIn (tgt := 528) hx hb d_M_nameOf_1 (by rw [c_55]; decide) (by rw [c_55]; decide) (by rw [c_55] <;> rfl) (by decide) ?_
                                                                                                                refine lv_ldc2 (v := 251689) hx hb hown (ht aw_635) d_M_nameOf_528 ?_
                                                                                                                exact W.lret (v := 251689) hx hb hr (fun t ht hW => ⟨congrArg (fun z => Outcome.returned (some (Value.long z))) (Option.some.inj hf), ht⟩) (fun q h => nomatch h) d_M_nameOf_531
                                                                                                              · replace hf := (if_neg c_55).symm.trans hf
                                                                                                                by_cases c_56 : a0 = 55
                                                                                                                · replace hf := (if_pos c_56).symm.trans hf
                                                                                                                  refine lv_tableIn (tgt := 532) hx hb d_M_nameOf_1 (by rw [c_56]; decide) (by rw [c_56]; decide) (by rw [c_56] <;> rfl) (by decide) ?_
                                                                                                                  refine lv_ldc2 (v := 1029095858485576) hx hb hown (ht aw_636) d_M_nameOf_532 ?_
                                                                                                                  exact W.lret (v := 1029095858485576) hx hb hr (fun t ht hW => ⟨congrArg (fun z => Outcome.returned (some (Value.long z))) (Option.some.inj hf), ht⟩) (fun q h => nomatch h) d_M_nameOf_535
                                                                                                                · replace hf := (if_neg c_56).symm.trans hf
                                                                                                                  by_cases c_57 : a0 = 56
                                                                                                                  · replace hf := (if_pos c_57).symm.trans hf
                                                                                                                    refine lv_tableIn (tgt := 536) hx hb d_M_nameOf_1 (by rw [c_57]; decide) (by rw [c_57]; decide) (by rw [c_57] <;> rfl) (by decide) ?_
                                                                                                                    refine lv_ldc2 (v := 10068049) hx hb hown (ht aw_637) d_M_nameOf_536 ?_
                                                                                                                    exact W.lret (v := 10068049) hx hb hr (fun t ht hW => ⟨congrArg (fun z => Outcome.returned (some (Value.long z))) (Option.some.inj hf), ht⟩) (fun q h => nomatch h) d_M_nameOf_539
                                                                                                                  · replace hf := (if_neg c_57).symm.trans hf
                                                                                                                    by_cases c_58 : a0 = 57
                                                                                                                    · replace hf := (if_pos c_58).symm.trans hf
                                                                                                                      refine lv_tableIn (tgt := 540) hx hb d_M_nameOf_1 (by rw [c_58]; decide) (by rw [c_58]; decide) (by rw [c_58] <;> rfl) (by decide) ?_
                                                                                                                      refine lv_ldc2 (v := 403165289) hx hb hown (ht aw_638) d_M_nameOf_540 ?_
                                                                                                                      exact W.lret (v := 403165289) hx hb hr (fun t ht hW => ⟨congrArg (fun z => Outcome.returned (some (Value.long z))) (Option.some.inj hf), ht⟩) (fun q h => nomatch h) d_M_nameOf_543
                                                                                                                    · replace hf := (if_neg c_58).symm.trans hf
                                                                                                                      by_cases c_59 : a0 = 58
                                                                                                                      · replace hf := (if_pos c_59).symm.trans hf
                                                                                                                        refine lv_tableIn (tgt := 544) hx hb d_M_nameOf_1 (by rw [c_59]; decide) (by rw [c_59]; decide) (by rw [c_59] <;> rfl) (by decide) ?_
                                                                                                                        refine lv_ldc2 (v := 403164849) hx hb hown (ht aw_639) d_M_nameOf_544 ?_
                                                                                                                        exact W.lret (v := 403164849) hx hb hr (fun t ht hW => ⟨congrArg (fun z => Outcome.returned (some (Value.long z))) (Option.some.inj hf), ht⟩) (fun q h => nomatch h) d_M_nameOf_547
                                                                                                                      · replace hf := (if_neg c_59).symm.trans hf
                                                                                                                        by_cases c_60 : a0 = 59
                                                                                                                        · replace hf := (if_pos c_60).symm.trans hf
                                                                                                                          refine lv_tableIn (tgt := 548) hx hb d_M_nameOf_1 (by rw [c_60]; decide) (by rw [c_60]; decide) (by rw [c_60] <;> rfl) (by decide) ?_
                                                                                                                          refine lv_ldc2 (v := 402006569) hx hb hown (ht aw_640) d_M_nameOf_548 ?_
                                                                                                                          exact W.lret (v := 402006569) hx hb hr (fun t ht hW => ⟨congrArg (fun z => Outcome.returned (some (Value.long z))) (Option.some.inj hf), ht⟩) (fun q h => nomatch h) d_M_nameOf_551
                                                                                                                        · replace hf := (if_neg c_60).symm.trans hf
                                                                                                                          by_cases c_61 : a0 = 60
                                                                                                                          · replace hf := (if_pos c_61).symm.trans hf
                                                                                                                            refine lv_tableIn (tgt := 552) hx hb d_M_nameOf_1 (by rw [c_61]; decide) (by rw [c_61]; decide) (by rw [c_61] <;> rfl) (by decide) ?_
                                                                                                                            refine lv_ldc2 (v := 10079242) hx hb hown (ht aw_641) d_M_nameOf_552 ?_
                                                                                                                            exact W.lret (v := 10079242) hx hb hr (fun t ht hW => ⟨congrArg (fun z => Outcome.returned (some (Value.long z))) (Option.some.inj hf), ht⟩) (fun q h => nomatch h) d_M_nameOf_555
                                                                                                                          · replace hf := (if_neg c_61).symm.trans hf
                                                                                                                            by_cases c_62 : a0 = 61
                                                                                                                            · replace hf := (if_pos c_62).symm.trans hf
                                                                                                                              refine lv_tableIn (tgt := 556) hx hb d_M_nameOf_1 (by rw [c_62]; decide) (by rw [c_62]; decide) (by rw [c_62] <;> rfl) (by decide) ?_
                                                                                                                              refine lv_ldc2 (v := 10087018) hx hb hown (ht aw_642) d_M_nameOf_556 ?_
                                                                                                                              exact W.lret (v := 10087018) hx hb hr (fun t ht hW => ⟨congrArg (fun z => Outcome.returned (some (Value.long z))) (Option.some.inj hf), ht⟩) (fun q h => nomatch h) d_M_nameOf_559
                                                                                                                            · replace hf := (if_neg c_62).symm.trans hf
                                                                                                                              by_cases c_63 : a0 = 62
                                                                                                                              · replace hf := (if_pos c_63).symm.trans hf
                                                                                                                                refine lv_tableIn (tgt := 560) hx hb d_M_nameOf_1 (by rw [c_63]; decide) (by rw [c_63]; decide) (by rw [c_63] <;> rfl) (by decide) ?_
                                                                                                                                refine lv_ldc2 (v := 251818) hx hb hown (ht aw_643) d_M_nameOf_560 ?_
                                                                                                                                exact W.lret (v := 251818) hx hb hr (fun t ht hW => ⟨congrArg (fun z => Outcome.returned (some (Value.long z))) (Option.some.inj hf), ht⟩) (fun q h => nomatch h) d_M_nameOf_563
                                                                                                                              · replace hf := (if_neg c_63).symm.trans hf
                                                                                                                                by_cases c_64 : a0 = 63
                                                                                                                                · replace hf := (if_pos c_64).symm.trans hf
                                                                                                                                  refine lv_tableIn (tgt := 564) hx hb d_M_nameOf_1 (by rw [c_64]; decide) (by rw [c_64]; decide) (by rw [c_64] <;> rfl) (by decide) ?_
                                                                                                                                  refine lv_ldc2 (v := 10050164) hx hb hown (ht aw_644) d_M_nameOf_564 ?_
                                                                                                                                  exact W.lret (v := 10050164) hx hb hr (fun t ht hW => ⟨congrArg (fun z => Outcome.returned (some (Value.long z))) (Option.some.inj hf), ht⟩) (fun q h => nomatch h) d_M_nameOf_567
                                                                                                                                · replace hf := (if_neg c_64).symm.trans hf
                                                                                                                                  by_cases c_65 : a0 = 64
                                                                                                                                  · replace hf := (if_pos c_65).symm.trans hf
                                                                                                                                    refine lv_tableIn (tgt := 568) hx hb d_M_nameOf_1 (by rw [c_65]; decide) (by rw [c_65]; decide) (by rw [c_65] <;> rfl) (by decide) ?_
                                                                                                                                    refine lv_ldc2 (v := 6290) hx hb hown (ht aw_645) d_M_nameOf_568 ?_
                                                                                                                                    exact W.lret (v := 6290) hx hb hr (fun t ht hW => ⟨congrArg (fun z => Outcome.returned (some (Value.long z))) (Option.some.inj hf), ht⟩) (fun q h => nomatch h) d_M_nameOf_571
                                                                                                                                  · replace hf := (if_neg c_65).symm.trans hf
                                                                                                                                    by_cases c_66 : a0 = 65
                                                                                                                                    · replace hf := (if_pos c_66).symm.trans hf
                                                                                                                                      refine lv_tableIn (tgt := 572) hx hb d_M_nameOf_1 (by rw [c_66]; decide) (by rw [c_66]; decide) (by rw [c_66] <;> rfl) (by decide) ?_
                                                                                                                                      refine lv_ldc2 (v := 402056706) hx hb hown (ht aw_646) d_M_nameOf_572 ?_
                                                                                                                                      exact W.lret (v := 402056706) hx hb hr (fun t ht hW => ⟨congrArg (fun z => Outcome.returned (some (Value.long z))) (Option.some.inj hf), ht⟩) (fun q h => nomatch h) d_M_nameOf_575
                                                                                                                                    · replace hf := (if_neg c_66).symm.trans hf
                                                                                                                                      by_cases c_67 : a0 = 66
                                                                                                                                      · replace hf := (if_pos c_67).symm.trans hf
                                                                                                                                        refine lv_tableIn (tgt := 576) hx hb d_M_nameOf_1 (by rw [c_67]; decide) (by rw [c_67]; decide) (by rw [c_67] <;> rfl) (by decide) ?_
                                                                                                                                        refine lv_ldc2 (v := 402070626) hx hb hown (ht aw_647) d_M_nameOf_576 ?_
                                                                                                                                        exact W.lret (v := 402070626) hx hb hr (fun t ht hW => ⟨congrArg (fun z => Outcome.returned (some (Value.long z))) (Option.some.inj hf), ht⟩) (fun q h => nomatch h) d_M_nameOf_579
                                                                                                                                      · replace hf := (if_neg c_67).symm.trans hf
                                                                                                                                        by_cases c_68 : a0 = 67
                                                                                                                                        · replace hf := (if_pos c_68).symm.trans hf
                                                                                                                                          refine lv_tableIn (tgt := 580) hx hb d_M_nameOf_1 (by rw [c_68]; decide) (by rw [c_68]; decide) (by rw [c_68] <;> rfl) (by decide) ?_
                                                                                                                                          refine lv_ldc2 (v := 403155689) hx hb hown (ht aw_648) d_M_nameOf_580 ?_
                                                                                                                                          exact W.lret (v := 403155689) hx hb hr (fun t ht hW => ⟨congrArg (fun z => Outcome.returned (some (Value.long z))) (Option.some.inj hf), ht⟩) (fun q h => nomatch h) d_M_nameOf_583
                                                                                                                                        · replace hf := (if_neg c_68).symm.trans hf
                                                                                                                                          by_cases c_69 : a0 = 68
                                                                                                                                          · replace hf := (if_pos c_69).symm.trans hf
                                                                                                                                            refine lv_tableIn (tgt := 584) hx hb d_M_nameOf_1 (by rw [c_69]; decide) (by rw [c_69]; decide) (by rw [c_69] <;> rfl) (by decide) ?_
                                                                                                                                            refine lv_ldc2 (v := 402725576) hx hb hown (ht aw_649) d_M_nameOf_584 ?_
                                                                                                                                            exact W.lret (v := 402725576) hx hb hr (fun t ht hW => ⟨congrArg (fun z => Outcome.returned (some (Value.long z))) (Option.some.inj hf), ht⟩) (fun q h => nomatch h) d_M_nameOf_587
                                                                                                                                          · replace hf := (if_neg c_69).symm.trans hf
                                                                                                                                            by_cases c_70 : a0 = 69
                                                                                                                                            · replace hf := (if_pos c_70).symm.trans hf
                                                                                                                                              refine lv_tableIn (tgt := 588) hx hb d_M_nameOf_1 (by rw [c_70]; decide) (by rw [c_70]; decide) (by rw [c_70] <;> rfl) (by decide) ?_
                                                                                                                                              refine lv_ldc2 (v := 251618) hx hb hown (ht aw_650) d_M_nameOf_588 ?_
                                                                                                                                              exact W.lret (v := 251618) hx hb hr (fun t ht hW => ⟨congrArg (fun z => Outcome.returned (some (Value.long z))) (Option.some.inj hf), ht⟩) (fun q h => nomatch h) d_M_nameOf_591
                                                                                                                                            · replace hf := (if_neg c_70).symm.trans hf
                                                                                                                                              by_cases c_71 : a0 = 70
                                                                                                                                              · replace hf := (if_pos c_71).symm.trans hf
                                                                                                                                                refine lv_tableIn (tgt := 592) hx hb d_M_nameOf_1 (by rw [c_71]; decide) (by rw [c_71]; decide) (by rw [c_71] <;> rfl) (by decide) ?_
                                                                                                                                                refine lv_ldc2 (v := 251742) hx hb hown (ht aw_651) d_M_nameOf_592 ?_
                                                                                                                                                exact W.lret (v := 251742) hx hb hr (fun t ht hW => ⟨congrArg (fun z => Outcome.returned (some (Value.long z))) (Option.some.inj hf), ht⟩) (fun q h => nomatch h) d_M_nameOf_595
                                                                                                                                              · replace hf := (if_neg c_71).symm.trans hf
                                                                                                                                                by_cases c_72 : a0 = 71
                                                                                                                                                · replace hf := (if_pos c_72).symm.trans hf
                                                                                                                                                  refine lv_tableIn (tgt := 596) hx hb d_M_nameOf_1 (by rw [c_72]; decide) (by rw [c_72]; decide) (by rw [c_72] <;> rfl) (by decide) ?_
                                                                                                                                                  refine lv_ldc2 (v := 643590280051) hx hb hown (ht aw_652) d_M_nameOf_596 ?_
                                                                                                                                                  exact W.lret (v := 643590280051) hx hb hr (fun t ht hW => ⟨congrArg (fun z => Outcome.returned (some (Value.long z))) (Option.some.inj hf), ht⟩) (fun q h => nomatch h) d_M_nameOf_599
                                                                                                                                                · replace hf := (if_neg c_72).symm.trans hf
                                                                                                                                                  by_cases c_73 : a0 = 72
                                                                                                                                                  · replace hf := (if_pos c_73).symm.trans hf
                                                                                                                                                    refine lv_tableIn (tgt := 600) hx hb d_M_nameOf_1 (by rw [c_73]; decide) (by rw [c_73]; decide) (by rw [c_73] <;> rfl) (by decide) ?_
                                                                                                                                                    refine lv_ldc2 (v := 402562098) hx hb hown (ht aw_653) d_M_nameOf_600 ?_
                                                                                                                                                    exact W.lret (v := 402562098) hx hb hr (fun t ht hW => ⟨congrArg (fun z => Outcome.returned (some (Value.long z))) (Option.some.inj hf), ht⟩) (fun q h => nomatch h) d_M_nameOf_603
                                                                                                                                                  · replace hf := (if_neg c_73).symm.trans hf
                                                                                                                                                    by_cases c_74 : a0 = 73
                                                                                                                                                    · replace hf := (if_pos c_74).symm.trans hf
                                                                                                                                                      refine lv_tableIn (tgt := 604) hx hb d_M_nameOf_1 (by rw [c_74]; decide) (by rw [c_74]; decide) (by rw [c_74] <;> rfl) (by decide) ?_
                                                                                                                                                      refine lv_ldc2 (v := 10049764) hx hb hown (ht aw_654) d_M_nameOf_604 ?_
                                                                                                                                                      exact W.lret (v := 10049764) hx hb hr (fun t ht hW => ⟨congrArg (fun z => Outcome.returned (some (Value.long z))) (Option.some.inj hf), ht⟩) (fun q h => nomatch h) d_M_nameOf_607
                                                                                                                                                    · replace hf := (if_neg c_74).symm.trans hf
                                                                                                                                                      refine lv_tableOut (tgt := 608) hx hb d_M_nameOf_1 (by have q := ju_out 74 (x := a0) (lt_s (lt_s (lt_s (lt_s (lt_s (lt_s (lt_s (lt_s (lt_s (lt_s (lt_s (lt_s (lt_s (lt_s (lt_s (lt_s (lt_s (lt_s (lt_s (lt_s (lt_s (lt_s (lt_s (lt_s (lt_s (lt_s (lt_s (lt_s (lt_s (lt_s (lt_s (lt_s (lt_s (lt_s (lt_s (lt_s (lt_s (lt_s (lt_s (lt_s (lt_s (lt_s (lt_s (lt_s (lt_s (lt_s (lt_s (lt_s (lt_s (lt_s (lt_s (lt_s (lt_s (lt_s (lt_s (lt_s (lt_s (lt_s (lt_s (lt_s (lt_s (lt_s (lt_s (lt_s (lt_s (lt_s (lt_s (lt_s (lt_s (lt_s (lt_s (lt_s (lt_s (lt_s lt_0 c_1) c_2) c_3) c_4) c_5) c_6) c_7) c_8) c_9) c_10) c_11) c_12) c_13) c_14) c_15) c_16) c_17) c_18) c_19) c_20) c_21) c_22) c_23) c_24) c_25) c_26) c_27) c_28) c_29) c_30) c_31) c_32) c_33) c_34) c_35) c_36) c_37) c_38) c_39) c_40) c_41) c_42) c_43) c_44) c_45) c_46) c_47) c_48) c_49) c_50) c_51) c_52) c_53) c_54) c_55) c_56) c_57) c_58) c_59) c_60) c_61) c_62) c_63) c_64) c_65) c_66) c_67) c_68) c_69) c_70) c_71) c_72) c_73) c_74) (by decide); omega) (by decide) ?_
                                                                                                                                                      refine lv_ldc2 (v := 403173576) hx hb hown (ht aw_655) d_M_nameOf_608 ?_
                                                                                                                                                      exact W.lret (v := 403173576) hx hb hr (fun t ht hW => ⟨congrArg (fun z => Outcome.returned (some (Value.long z))) (Option.some.inj hf), ht⟩) (fun q h => nomatch h) d_M_nameOf_611

def f_M_registerOf (a0 : Int32) : Option Int64 :=
  if a0 = 0 then (some (1672735)) else ( if a0 = 1 then (some (721)) else ( if a0 = 2 then (some (776)) else ( if a0 = 3 then (some (296)) else ( if a0 = 4 then (some (816)) else ( if a0 = 5 then (some (827)) else ( if a0 = 6 then (some (828)) else ( if a0 = 7 then (some (829)) else ( if a0 = 8 then (some (787)) else ( if a0 = 9 then (some (788)) else ( if a0 = 10 then (some (67)) else ( if a0 = 11 then (some (68)) else ( if a0 = 12 then (some (69)) else ( if a0 = 13 then (some (70)) else ( if a0 = 14 then (some (71)) else ( if a0 = 15 then (some (72)) else ( if a0 = 16 then (some (73)) else ( if a0 = 17 then (some (74)) else ( if a0 = 18 then (some (789)) else ( if a0 = 19 then (some (790)) else ( if a0 = 20 then (some (791)) else ( if a0 = 21 then (some (792)) else ( if a0 = 22 then (some (793)) else ( if a0 = 23 then (some (794)) else ( if a0 = 24 then (some (795)) else ( if a0 = 25 then (some (796)) else ( if a0 = 26 then (some (31547)) else ( if a0 = 27 then (some (31548)) else ( if a0 = 28 then (some (830)) else ( if a0 = 29 then (some (831)) else ( if a0 = 30 then (some (832)) else (some (833))))))))))))))))))))))))))))))))
set_option maxHeartbeats 4000000 in
set_option maxRecDepth 100000 in
theorem c_M_registerOf (l : Launch) {ad sk sv : Nat → Nat} {tK : Nat} (a0 : Int32)  (r : Int64) (hf : f_M_registerOf a0 = some r) : Met l y_M_registerOf (Cond.code y_M_registerOf b_M_registerOf 1 (Option.some FieldType.long) :: aw) ({ frames := 0, cells := 0, slots := 0, locals := 0 } : Room) (va_Pc [.int (a0)] (fun U => tb ad sk sv tK (fun _ => False) U U.heap)) (QcReadL r) 0 0 (fun _ => False) := by
  refine Met.ofW (cc := b_M_registerOf) (maxL := 1) (ret := (Option.some FieldType.long)) (by decide) rfl ?_
  intro p e s m args below meth c s₁ B hml hv
  obtain ⟨rfl, hT⟩ := hv
  have hx := B.exec
  have hb := B.bytes
  have hr := B.returns
  have hts := atoms_spec (ws := (Cond.code y_M_registerOf b_M_registerOf 1 (Option.some FieldType.long) :: aw)) B.pre
  have ht : ∀ {w : Cond}, w ∈ aw → w.before ([.int (a0)] : List Value).toArray s = true := fun h => hts _ (List.mem_cons_of_mem _ h)
  have hown : s.vm.findClass "CodeWordsModel" = some m.cls := findClass_of_methodNamed B.named
  have hlocks := B.notSynchronized
  have hS : va_S (fun _ => False) s.heap s.heap [] := va_S.rf
  have hl := lv_entry ([.int (a0)]) (n := 1) (Nat.le_of_ble_eq_true rfl)
  rw [lg_entry_eq]
  generalize (lg_sl ([.int (a0)]) ++ List.replicate (1 - (lg_sl ([.int (a0)])).length) Slot.unset).toArray = ls at hl ⊢
  have hl : lv_has ls 1 [(0, .int (a0))] := hl
  rw [f_M_registerOf] at hf
  refine lv_iload_n hx hb d_M_registerOf_0 rfl (lv_at hl 0 rfl) ?_
  by_cases c_1 : a0 = 0
  · replace hf := (if_pos c_1).symm.trans hf
    refine lv_tableIn (tgt := 140) hx hb d_M_registerOf_1 (by rw [c_1]; decide) (by rw [c_1]; decide) (by rw [c_1] <;> rfl) (by decide) ?_
    refine lv_ldc2 (v := 1672735) hx hb hown (ht aw_686) d_M_registerOf_140 ?_
    exact W.lret (v := 1672735) hx hb hr (fun t ht hW => ⟨congrArg (fun z => Outcome.returned (some (Value.long z))) (Option.some.inj hf), ht⟩) (fun q h => nomatch h) d_M_registerOf_143
  · replace hf := (if_neg c_1).symm.trans hf
    by_cases c_2 : a0 = 1
    · replace hf := (if_pos c_2).symm.trans hf
      refine lv_tableIn (tgt := 144) hx hb d_M_registerOf_1 (by rw [c_2]; decide) (by rw [c_2]; decide) (by rw [c_2] <;> rfl) (by decide) ?_
      refine lv_ldc2 (v := 721) hx hb hown (ht aw_687) d_M_registerOf_144 ?_
      exact W.lret (v := 721) hx hb hr (fun t ht hW => ⟨congrArg (fun z => Outcome.returned (some (Value.long z))) (Option.some.inj hf), ht⟩) (fun q h => nomatch h) d_M_registerOf_147
    · replace hf := (if_neg c_2).symm.trans hf
      by_cases c_3 : a0 = 2
      · replace hf := (if_pos c_3).symm.trans hf
        refine lv_tableIn (tgt := 148) hx hb d_M_registerOf_1 (by rw [c_3]; decide) (by rw [c_3]; decide) (by rw [c_3] <;> rfl) (by decide) ?_
        refine lv_ldc2 (v := 776) hx hb hown (ht aw_688) d_M_registerOf_148 ?_
        exact W.lret (v := 776) hx hb hr (fun t ht hW => ⟨congrArg (fun z => Outcome.returned (some (Value.long z))) (Option.some.inj hf), ht⟩) (fun q h => nomatch h) d_M_registerOf_151
      · replace hf := (if_neg c_3).symm.trans hf
        by_cases c_4 : a0 = 3
        · replace hf := (if_pos c_4).symm.trans hf
          refine lv_tableIn (tgt := 152) hx hb d_M_registerOf_1 (by rw [c_4]; decide) (by rw [c_4]; decide) (by rw [c_4] <;> rfl) (by decide) ?_
          refine lv_ldc2 (v := 296) hx hb hown (ht aw_689) d_M_registerOf_152 ?_
          exact W.lret (v := 296) hx hb hr (fun t ht hW => ⟨congrArg (fun z => Outcome.returned (some (Value.long z))) (Option.some.inj hf), ht⟩) (fun q h => nomatch h) d_M_registerOf_155
        · replace hf := (if_neg c_4).symm.trans hf
          by_cases c_5 : a0 = 4
          · replace hf := (if_pos c_5).symm.trans hf
            refine lv_tableIn (tgt := 156) hx hb d_M_registerOf_1 (by rw [c_5]; decide) (by rw [c_5]; decide) (by rw [c_5] <;> rfl) (by decide) ?_
            refine lv_ldc2 (v := 816) hx hb hown (ht aw_690) d_M_registerOf_156 ?_
            exact W.lret (v := 816) hx hb hr (fun t ht hW => ⟨congrArg (fun z => Outcome.returned (some (Value.long z))) (Option.some.inj hf), ht⟩) (fun q h => nomatch h) d_M_registerOf_159
          · replace hf := (if_neg c_5).symm.trans hf
            by_cases c_6 : a0 = 5
            · replace hf := (if_pos c_6).symm.trans hf
              refine lv_tableIn (tgt := 160) hx hb d_M_registerOf_1 (by rw [c_6]; decide) (by rw [c_6]; decide) (by rw [c_6] <;> rfl) (by decide) ?_
              refine lv_ldc2 (v := 827) hx hb hown (ht aw_691) d_M_registerOf_160 ?_
              exact W.lret (v := 827) hx hb hr (fun t ht hW => ⟨congrArg (fun z => Outcome.returned (some (Value.long z))) (Option.some.inj hf), ht⟩) (fun q h => nomatch h) d_M_registerOf_163
            · replace hf := (if_neg c_6).symm.trans hf
              by_cases c_7 : a0 = 6
              · replace hf := (if_pos c_7).symm.trans hf
                refine lv_tableIn (tgt := 164) hx hb d_M_registerOf_1 (by rw [c_7]; decide) (by rw [c_7]; decide) (by rw [c_7] <;> rfl) (by decide) ?_
                refine lv_ldc2 (v := 828) hx hb hown (ht aw_692) d_M_registerOf_164 ?_
                exact W.lret (v := 828) hx hb hr (fun t ht hW => ⟨congrArg (fun z => Outcome.returned (some (Value.long z))) (Option.some.inj hf), ht⟩) (fun q h => nomatch h) d_M_registerOf_167
              · replace hf := (if_neg c_7).symm.trans hf
                by_cases c_8 : a0 = 7
                · replace hf := (if_pos c_8).symm.trans hf
                  refine lv_tableIn (tgt := 168) hx hb d_M_registerOf_1 (by rw [c_8]; decide) (by rw [c_8]; decide) (by rw [c_8] <;> rfl) (by decide) ?_
                  refine lv_ldc2 (v := 829) hx hb hown (ht aw_693) d_M_registerOf_168 ?_
                  exact W.lret (v := 829) hx hb hr (fun t ht hW => ⟨congrArg (fun z => Outcome.returned (some (Value.long z))) (Option.some.inj hf), ht⟩) (fun q h => nomatch h) d_M_registerOf_171
                · replace hf := (if_neg c_8).symm.trans hf
                  by_cases c_9 : a0 = 8
                  · replace hf := (if_pos c_9).symm.trans hf
                    refine lv_tableIn (tgt := 172) hx hb d_M_registerOf_1 (by rw [c_9]; decide) (by rw [c_9]; decide) (by rw [c_9] <;> rfl) (by decide) ?_
                    refine lv_ldc2 (v := 787) hx hb hown (ht aw_694) d_M_registerOf_172 ?_
                    exact W.lret (v := 787) hx hb hr (fun t ht hW => ⟨congrArg (fun z => Outcome.returned (some (Value.long z))) (Option.some.inj hf), ht⟩) (fun q h => nomatch h) d_M_registerOf_175
                  · replace hf := (if_neg c_9).symm.trans hf
                    by_cases c_10 : a0 = 9
                    · replace hf := (if_pos c_10).symm.trans hf
                      refine lv_tableIn (tgt := 176) hx hb d_M_registerOf_1 (by rw [c_10]; decide) (by rw [c_10]; decide) (by rw [c_10] <;> rfl) (by decide) ?_
                      refine lv_ldc2 (v := 788) hx hb hown (ht aw_695) d_M_registerOf_176 ?_
                      exact W.lret (v := 788) hx hb hr (fun t ht hW => ⟨congrArg (fun z => Outcome.returned (some (Value.long z))) (Option.some.inj hf), ht⟩) (fun q h => nomatch h) d_M_registerOf_179
                    · replace hf := (if_neg c_10).symm.trans hf
                      by_cases c_11 : a0 = 10
                      · replace hf := (if_pos c_11).symm.trans hf
                        refine lv_tableIn (tgt := 180) hx hb d_M_registerOf_1 (by rw [c_11]; decide) (by rw [c_11]; decide) (by rw [c_11] <;> rfl) (by decide) ?_
                        refine lv_ldc2 (v := 67) hx hb hown (ht aw_696) d_M_registerOf_180 ?_
                        exact W.lret (v := 67) hx hb hr (fun t ht hW => ⟨congrArg (fun z => Outcome.returned (some (Value.long z))) (Option.some.inj hf), ht⟩) (fun q h => nomatch h) d_M_registerOf_183
                      · replace hf := (if_neg c_11).symm.trans hf
                        by_cases c_12 : a0 = 11
                        · replace hf := (if_pos c_12).symm.trans hf
                          refine lv_tableIn (tgt := 184) hx hb d_M_registerOf_1 (by rw [c_12]; decide) (by rw [c_12]; decide) (by rw [c_12] <;> rfl) (by decide) ?_
                          refine lv_ldc2 (v := 68) hx hb hown (ht aw_697) d_M_registerOf_184 ?_
                          exact W.lret (v := 68) hx hb hr (fun t ht hW => ⟨congrArg (fun z => Outcome.returned (some (Value.long z))) (Option.some.inj hf), ht⟩) (fun q h => nomatch h) d_M_registerOf_187
                        · replace hf := (if_neg c_12).symm.trans hf
                          by_cases c_13 : a0 = 12
                          · replace hf := (if_pos c_13).symm.trans hf
                            refine lv_tableIn (tgt := 188) hx hb d_M_registerOf_1 (by rw [c_13]; decide) (by rw [c_13]; decide) (by rw [c_13] <;> rfl) (by decide) ?_
                            refine lv_ldc2 (v := 69) hx hb hown (ht aw_698) d_M_registerOf_188 ?_
                            exact W.lret (v := 69) hx hb hr (fun t ht hW => ⟨congrArg (fun z => Outcome.returned (some (Value.long z))) (Option.some.inj hf), ht⟩) (fun q h => nomatch h) d_M_registerOf_191
                          · replace hf := (if_neg c_13).symm.trans hf
                            by_cases c_14 : a0 = 13
                            · replace hf := (if_pos c_14).symm.trans hf
                              refine lv_tableIn (tgt := 192) hx hb d_M_registerOf_1 (by rw [c_14]; decide) (by rw [c_14]; decide) (by rw [c_14] <;> rfl) (by decide) ?_
                              refine lv_ldc2 (v := 70) hx hb hown (ht aw_699) d_M_registerOf_192 ?_
                              exact W.lret (v := 70) hx hb hr (fun t ht hW => ⟨congrArg (fun z => Outcome.returned (some (Value.long z))) (Option.some.inj hf), ht⟩) (fun q h => nomatch h) d_M_registerOf_195
                            · replace hf := (if_neg c_14).symm.trans hf
                              by_cases c_15 : a0 = 14
                              · replace hf := (if_pos c_15).symm.trans hf
                                refine lv_tableIn (tgt := 196) hx hb d_M_registerOf_1 (by rw [c_15]; decide) (by rw [c_15]; decide) (by rw [c_15] <;> rfl) (by decide) ?_
                                refine lv_ldc2 (v := 71) hx hb hown (ht aw_700) d_M_registerOf_196 ?_
                                exact W.lret (v := 71) hx hb hr (fun t ht hW => ⟨congrArg (fun z => Outcome.returned (some (Value.long z))) (Option.some.inj hf), ht⟩) (fun q h => nomatch h) d_M_registerOf_199
                              · replace hf := (if_neg c_15).symm.trans hf
                                by_cases c_16 : a0 = 15
                                · replace hf := (if_pos c_16).symm.trans hf
                                  refine lv_tableIn (tgt := 200) hx hb d_M_registerOf_1 (by rw [c_16]; decide) (by rw [c_16]; decide) (by rw [c_16] <;> rfl) (by decide) ?_
                                  refine lv_ldc2 (v := 72) hx hb hown (ht aw_701) d_M_registerOf_200 ?_
                                  exact W.lret (v := 72) hx hb hr (fun t ht hW => ⟨congrArg (fun z => Outcome.returned (some (Value.long z))) (Option.some.inj hf), ht⟩) (fun q h => nomatch h) d_M_registerOf_203
                                · replace hf := (if_neg c_16).symm.trans hf
                                  by_cases c_17 : a0 = 16
                                  · replace hf := (if_pos c_17).symm.trans hf
                                    refine lv_tableIn (tgt := 204) hx hb d_M_registerOf_1 (by rw [c_17]; decide) (by rw [c_17]; decide) (by rw [c_17] <;> rfl) (by decide) ?_
                                    refine lv_ldc2 (v := 73) hx hb hown (ht aw_702) d_M_registerOf_204 ?_
                                    exact W.lret (v := 73) hx hb hr (fun t ht hW => ⟨congrArg (fun z => Outcome.returned (some (Value.long z))) (Option.some.inj hf), ht⟩) (fun q h => nomatch h) d_M_registerOf_207
                                  · replace hf := (if_neg c_17).symm.trans hf
                                    by_cases c_18 : a0 = 17
                                    · replace hf := (if_pos c_18).symm.trans hf
                                      refine lv_tableIn (tgt := 208) hx hb d_M_registerOf_1 (by rw [c_18]; decide) (by rw [c_18]; decide) (by rw [c_18] <;> rfl) (by decide) ?_
                                      refine lv_ldc2 (v := 74) hx hb hown (ht aw_703) d_M_registerOf_208 ?_
                                      exact W.lret (v := 74) hx hb hr (fun t ht hW => ⟨congrArg (fun z => Outcome.returned (some (Value.long z))) (Option.some.inj hf), ht⟩) (fun q h => nomatch h) d_M_registerOf_211
                                    · replace hf := (if_neg c_18).symm.trans hf
                                      by_cases c_19 : a0 = 18
                                      · replace hf := (if_pos c_19).symm.trans hf
                                        refine lv_tableIn (tgt := 212) hx hb d_M_registerOf_1 (by rw [c_19]; decide) (by rw [c_19]; decide) (by rw [c_19] <;> rfl) (by decide) ?_
                                        refine lv_ldc2 (v := 789) hx hb hown (ht aw_704) d_M_registerOf_212 ?_
                                        exact W.lret (v := 789) hx hb hr (fun t ht hW => ⟨congrArg (fun z => Outcome.returned (some (Value.long z))) (Option.some.inj hf), ht⟩) (fun q h => nomatch h) d_M_registerOf_215
                                      · replace hf := (if_neg c_19).symm.trans hf
                                        by_cases c_20 : a0 = 19
                                        · replace hf := (if_pos c_20).symm.trans hf
                                          refine lv_tableIn (tgt := 216) hx hb d_M_registerOf_1 (by rw [c_20]; decide) (by rw [c_20]; decide) (by rw [c_20] <;> rfl) (by decide) ?_
                                          refine lv_ldc2 (v := 790) hx hb hown (ht aw_705) d_M_registerOf_216 ?_
                                          exact W.lret (v := 790) hx hb hr (fun t ht hW => ⟨congrArg (fun z => Outcome.returned (some (Value.long z))) (Option.some.inj hf), ht⟩) (fun q h => nomatch h) d_M_registerOf_219
                                        · replace hf := (if_neg c_20).symm.trans hf
                                          by_cases c_21 : a0 = 20
                                          · replace hf := (if_pos c_21).symm.trans hf
                                            refine lv_tableIn (tgt := 220) hx hb d_M_registerOf_1 (by rw [c_21]; decide) (by rw [c_21]; decide) (by rw [c_21] <;> rfl) (by decide) ?_
                                            refine lv_ldc2 (v := 791) hx hb hown (ht aw_706) d_M_registerOf_220 ?_
                                            exact W.lret (v := 791) hx hb hr (fun t ht hW => ⟨congrArg (fun z => Outcome.returned (some (Value.long z))) (Option.some.inj hf), ht⟩) (fun q h => nomatch h) d_M_registerOf_223
                                          · replace hf := (if_neg c_21).symm.trans hf
                                            by_cases c_22 : a0 = 21
                                            · replace hf := (if_pos c_22).symm.trans hf
                                              refine lv_tableIn (tgt := 224) hx hb d_M_registerOf_1 (by rw [c_22]; decide) (by rw [c_22]; decide) (by rw [c_22] <;> rfl) (by decide) ?_
                                              refine lv_ldc2 (v := 792) hx hb hown (ht aw_707) d_M_registerOf_224 ?_
                                              exact W.lret (v := 792) hx hb hr (fun t ht hW => ⟨congrArg (fun z => Outcome.returned (some (Value.long z))) (Option.some.inj hf), ht⟩) (fun q h => nomatch h) d_M_registerOf_227
                                            · replace hf := (if_neg c_22).symm.trans hf
                                              by_cases c_23 : a0 = 22
                                              · replace hf := (if_pos c_23).symm.trans hf
                                                refine lv_tableIn (tgt := 228) hx hb d_M_registerOf_1 (by rw [c_23]; decide) (by rw [c_23]; decide) (by rw [c_23] <;> rfl) (by decide) ?_
                                                refine lv_ldc2 (v := 793) hx hb hown (ht aw_708) d_M_registerOf_228 ?_
                                                exact W.lret (v := 793) hx hb hr (fun t ht hW => ⟨congrArg (fun z => Outcome.returned (some (Value.long z))) (Option.some.inj hf), ht⟩) (fun q h => nomatch h) d_M_registerOf_231
                                              · replace hf := (if_neg c_23).symm.trans hf
                                                by_cases c_24 : a0 = 23
                                                · replace hf := (if_pos c_24).symm.trans hf
                                                  refine lv_tableIn (tgt := 232) hx hb d_M_registerOf_1 (by rw [c_24]; decide) (by rw [c_24]; decide) (by rw [c_24] <;> rfl) (by decide) ?_
                                                  refine lv_ldc2 (v := 794) hx hb hown (ht aw_709) d_M_registerOf_232 ?_
                                                  exact W.lret (v := 794) hx hb hr (fun t ht hW => ⟨congrArg (fun z => Outcome.returned (some (Value.long z))) (Option.some.inj hf), ht⟩) (fun q h => nomatch h) d_M_registerOf_235
                                                · replace hf := (if_neg c_24).symm.trans hf
                                                  by_cases c_25 : a0 = 24
                                                  · replace hf := (if_pos c_25).symm.trans hf
                                                    refine lv_tableIn (tgt := 236) hx hb d_M_registerOf_1 (by rw [c_25]; decide) (by rw [c_25]; decide) (by rw [c_25] <;> rfl) (by decide) ?_
                                                    refine lv_ldc2 (v := 795) hx hb hown (ht aw_710) d_M_registerOf_236 ?_
                                                    exact W.lret (v := 795) hx hb hr (fun t ht hW => ⟨congrArg (fun z => Outcome.returned (some (Value.long z))) (Option.some.inj hf), ht⟩) (fun q h => nomatch h) d_M_registerOf_239
                                                  · replace hf := (if_neg c_25).symm.trans hf
                                                    by_cases c_26 : a0 = 25
                                                    · replace hf := (if_pos c_26).symm.trans hf
                                                      refine lv_tableIn (tgt := 240) hx hb d_M_registerOf_1 (by rw [c_26]; decide) (by rw [c_26]; decide) (by rw [c_26] <;> rfl) (by decide) ?_
                                                      refine lv_ldc2 (v := 796) hx hb hown (ht aw_711) d_M_registerOf_240 ?_
                                                      exact W.lret (v := 796) hx hb hr (fun t ht hW => ⟨congrArg (fun z => Outcome.returned (some (Value.long z))) (Option.some.inj hf), ht⟩) (fun q h => nomatch h) d_M_registerOf_243
                                                    · replace hf := (if_neg c_26).symm.trans hf
                                                      by_cases c_27 : a0 = 26
                                                      · replace hf := (if_pos c_27).symm.trans hf
                                                        refine lv_tableIn (tgt := 244) hx hb d_M_registerOf_1 (by rw [c_27]; decide) (by rw [c_27]; decide) (by rw [c_27] <;> rfl) (by decide) ?_
                                                        refine lv_ldc2 (v := 31547) hx hb hown (ht aw_712) d_M_registerOf_244 ?_
                                                        exact W.lret (v := 31547) hx hb hr (fun t ht hW => ⟨congrArg (fun z => Outcome.returned (some (Value.long z))) (Option.some.inj hf), ht⟩) (fun q h => nomatch h) d_M_registerOf_247
                                                      · replace hf := (if_neg c_27).symm.trans hf
                                                        by_cases c_28 : a0 = 27
                                                        · replace hf := (if_pos c_28).symm.trans hf
                                                          refine lv_tableIn (tgt := 248) hx hb d_M_registerOf_1 (by rw [c_28]; decide) (by rw [c_28]; decide) (by rw [c_28] <;> rfl) (by decide) ?_
                                                          refine lv_ldc2 (v := 31548) hx hb hown (ht aw_713) d_M_registerOf_248 ?_
                                                          exact W.lret (v := 31548) hx hb hr (fun t ht hW => ⟨congrArg (fun z => Outcome.returned (some (Value.long z))) (Option.some.inj hf), ht⟩) (fun q h => nomatch h) d_M_registerOf_251
                                                        · replace hf := (if_neg c_28).symm.trans hf
                                                          by_cases c_29 : a0 = 28
                                                          · replace hf := (if_pos c_29).symm.trans hf
                                                            refine lv_tableIn (tgt := 252) hx hb d_M_registerOf_1 (by rw [c_29]; decide) (by rw [c_29]; decide) (by rw [c_29] <;> rfl) (by decide) ?_
                                                            refine lv_ldc2 (v := 830) hx hb hown (ht aw_714) d_M_registerOf_252 ?_
                                                            exact W.lret (v := 830) hx hb hr (fun t ht hW => ⟨congrArg (fun z => Outcome.returned (some (Value.long z))) (Option.some.inj hf), ht⟩) (fun q h => nomatch h) d_M_registerOf_255
                                                          · replace hf := (if_neg c_29).symm.trans hf
                                                            by_cases c_30 : a0 = 29
                                                            · replace hf := (if_pos c_30).symm.trans hf
                                                              refine lv_tableIn (tgt := 256) hx hb d_M_registerOf_1 (by rw [c_30]; decide) (by rw [c_30]; decide) (by rw [c_30] <;> rfl) (by decide) ?_
                                                              refine lv_ldc2 (v := 831) hx hb hown (ht aw_715) d_M_registerOf_256 ?_
                                                              exact W.lret (v := 831) hx hb hr (fun t ht hW => ⟨congrArg (fun z => Outcome.returned (some (Value.long z))) (Option.some.inj hf), ht⟩) (fun q h => nomatch h) d_M_registerOf_259
                                                            · replace hf := (if_neg c_30).symm.trans hf
                                                              by_cases c_31 : a0 = 30
                                                              · replace hf := (if_pos c_31).symm.trans hf
                                                                refine lv_tableIn (tgt := 260) hx hb d_M_registerOf_1 (by rw [c_31]; decide) (by rw [c_31]; decide) (by rw [c_31] <;> rfl) (by decide) ?_
                                                                refine lv_ldc2 (v := 832) hx hb hown (ht aw_716) d_M_registerOf_260 ?_
                                                                exact W.lret (v := 832) hx hb hr (fun t ht hW => ⟨congrArg (fun z => Outcome.returned (some (Value.long z))) (Option.some.inj hf), ht⟩) (fun q h => nomatch h) d_M_registerOf_263
                                                              · replace hf := (if_neg c_31).symm.trans hf
                                                                refine lv_tableOut (tgt := 264) hx hb d_M_registerOf_1 (by have q := ju_out 31 (x := a0) (lt_s (lt_s (lt_s (lt_s (lt_s (lt_s (lt_s (lt_s (lt_s (lt_s (lt_s (lt_s (lt_s (lt_s (lt_s (lt_s (lt_s (lt_s (lt_s (lt_s (lt_s (lt_s (lt_s (lt_s (lt_s (lt_s (lt_s (lt_s (lt_s (lt_s (lt_s lt_0 c_1) c_2) c_3) c_4) c_5) c_6) c_7) c_8) c_9) c_10) c_11) c_12) c_13) c_14) c_15) c_16) c_17) c_18) c_19) c_20) c_21) c_22) c_23) c_24) c_25) c_26) c_27) c_28) c_29) c_30) c_31) (by decide); omega) (by decide) ?_
                                                                refine lv_ldc2 (v := 833) hx hb hown (ht aw_717) d_M_registerOf_264 ?_
                                                                exact W.lret (v := 833) hx hb hr (fun t ht hW => ⟨congrArg (fun z => Outcome.returned (some (Value.long z))) (Option.some.inj hf), ht⟩) (fun q h => nomatch h) d_M_registerOf_267

