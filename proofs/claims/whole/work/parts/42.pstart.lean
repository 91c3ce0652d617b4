/-! the start: what the Statement says of it -/
def AW (a : Array Value) (s : State) (L : List Cond) : Prop := ∀ w ∈ L, w.before a s = true
theorem AW.app {a : Array Value} {s : State} {L M : List Cond} (h : AW a s (L ++ M)) : AW a s L ∧ AW a s M := ⟨fun w hw => h w (List.mem_append_left _ hw), fun w hw => h w (List.mem_append_right _ hw)⟩
theorem AW.glue {a : Array Value} {s : State} {L : List Cond} (n : Nat) (h1 : AW a s (L.take n)) (h2 : AW a s (L.drop n)) : AW a s L := by
  intro w hw
  rw [← List.take_append_drop n L] at hw
  rcases List.mem_append.mp hw with h | h
  · exact h1 w h
  · exact h2 w h
theorem tw_1 {w : Cond} (i : Nat) (h : tables_1_1[i]? = some w) : w ∈ lw_tbl := List.mem_append_right _ (List.mem_append_left _ (List.mem_of_getElem? h))
theorem tw_2 {w : Cond} (i : Nat) (h : tables_1_2[i]? = some w) : w ∈ lw_tbl := List.mem_append_right _ (List.mem_append_right _ (List.mem_append_left _ (List.mem_of_getElem? h)))
theorem tw_3 {w : Cond} (i : Nat) (h : tables_1_3[i]? = some w) : w ∈ lw_tbl := List.mem_append_right _ (List.mem_append_right _ (List.mem_append_right _ (List.mem_append_left _ (List.mem_of_getElem? h))))
theorem tw_4 {w : Cond} (i : Nat) (h : tables_1_4[i]? = some w) : w ∈ lw_tbl := List.mem_append_right _ (List.mem_append_right _ (List.mem_append_right _ (List.mem_append_right _ (List.mem_append_left _ (List.mem_of_getElem? h)))))
theorem tw_5 {w : Cond} (i : Nat) (h : tables_1_5[i]? = some w) : w ∈ lw_tbl := List.mem_append_right _ (List.mem_append_right _ (List.mem_append_right _ (List.mem_append_right _ (List.mem_append_right _ (List.mem_of_getElem? h)))))
theorem AW.of {a : Array Value} {s : State} {c : Cond} {L : List Cond} (h : c.before a s = true) (e : flatC c = L) : AW a s L := by
  rw [← e]; exact flat_of_before c h
def knl : List String := ["LUI", "AUIPC", "JAL", "JALR", "BEQ", "BNE", "BLT", "BGE", "BLTU", "BGEU", "LB", "LH", "LW", "LBU", "LHU", "SB", "SH", "SW", "ADDI", "SLTI", "SLTIU", "XORI", "ORI", "ANDI", "SLLI", "SRLI", "SRAI", "ADD", "SUB", "SLL", "SLT", "SLTU", "XOR", "SRL", "SRA", "OR", "AND", "MUL", "MULH", "MULHSU", "MULHU", "DIV", "DIVU", "REM", "REMU", "FENCE", "ECALL", "EBREAK", "C_ADDI4SPN", "C_LW", "C_SW", "C_NOP", "C_ADDI", "C_JAL", "C_LI", "C_ADDI16SP", "C_LUI", "C_SRLI", "C_SRAI", "C_ANDI", "C_SUB", "C_XOR", "C_OR", "C_AND", "C_J", "C_BEQZ", "C_BNEZ", "C_SLLI", "C_LWSP", "C_JR", "C_MV", "C_EBREAK", "C_JALR", "C_ADD", "C_SWSP"]
def sol : List (String × Nat) := [("CodeWords", 138), ("CodeWords", 178), ("CodeWords", 146), ("CodeWords", 160), ("CodeWords", 152), ("CodeWords", 154), ("CodeWords", 176), ("CodeWords", 23), ("CodeWords", 40), ("CodeWords", 56), ("CodeWords", 62), ("CodeWords", 74), ("CodeWords", 91), ("CodeWords$Kind", 372), ("CodeWords$Kind", 374), ("CodeWords$Kind", 380), ("CodeWords$Kind", 382), ("CodeWords$Kind", 385), ("CodeWords$Kind", 387), ("CodeWords$Kind", 390), ("CodeWords$Kind", 392), ("CodeWords$Kind", 395), ("CodeWords$Kind", 397), ("CodeWords$Kind", 400), ("CodeWords$Kind", 402), ("CodeWords$Kind", 405), ("CodeWords$Kind", 407), ("CodeWords$Kind", 410), ("CodeWords$Kind", 412), ("CodeWords$Kind", 415), ("CodeWords$Kind", 417), ("CodeWords$Kind", 420), ("CodeWords$Kind", 422), ("CodeWords$Kind", 425), ("CodeWords$Kind", 427), ("CodeWords$Kind", 430), ("CodeWords$Kind", 432), ("CodeWords$Kind", 435), ("CodeWords$Kind", 437), ("CodeWords$Kind", 440), ("CodeWords$Kind", 442), ("CodeWords$Kind", 445), ("CodeWords$Kind", 447), ("CodeWords$Kind", 450), ("CodeWords$Kind", 452), ("CodeWords$Kind", 455), ("CodeWords$Kind", 457), ("CodeWords$Kind", 460), ("CodeWords$Kind", 462), ("CodeWords$Kind", 465), ("CodeWords$Kind", 467), ("CodeWords$Kind", 470), ("CodeWords$Kind", 472), ("CodeWords$Kind", 475), ("CodeWords$Kind", 477), ("CodeWords$Kind", 480), ("CodeWords$Kind", 482), ("CodeWords$Kind", 485), ("CodeWords$Kind", 487), ("CodeWords$Kind", 490), ("CodeWords$Kind", 492), ("CodeWords$Kind", 495), ("CodeWords$Kind", 497), ("CodeWords$Kind", 500), ("CodeWords$Kind", 502), ("CodeWords$Kind", 505), ("CodeWords$Kind", 507), ("CodeWords$Kind", 510), ("CodeWords$Kind", 512), ("CodeWords$Kind", 515), ("CodeWords$Kind", 517), ("CodeWords$Kind", 520), ("CodeWords$Kind", 522), ("CodeWords$Kind", 525), ("CodeWords$Kind", 527), ("CodeWords$Kind", 530), ("CodeWords$Kind", 532), ("CodeWords$Kind", 535), ("CodeWords$Kind", 537), ("CodeWords$Kind", 540), ("CodeWords$Kind", 542), ("CodeWords$Kind", 545), ("CodeWords$Kind", 547), ("CodeWords$Kind", 550), ("CodeWords$Kind", 552), ("CodeWords$Kind", 555), ("CodeWords$Kind", 557), ("CodeWords$Kind", 560), ("CodeWords$Kind", 562), ("CodeWords$Kind", 565), ("CodeWords$Kind", 567), ("CodeWords$Kind", 570), ("CodeWords$Kind", 572), ("CodeWords$Kind", 575), ("CodeWords$Kind", 577), ("CodeWords$Kind", 580), ("CodeWords$Kind", 582), ("CodeWords$Kind", 585), ("CodeWords$Kind", 587), ("CodeWords$Kind", 590), ("CodeWords$Kind", 592), ("CodeWords$Kind", 595), ("CodeWords$Kind", 597), ("CodeWords$Kind", 600), ("CodeWords$Kind", 602), ("CodeWords$Kind", 605), ("CodeWords$Kind", 607), ("CodeWords$Kind", 610), ("CodeWords$Kind", 612), ("CodeWords$Kind", 615), ("CodeWords$Kind", 617), ("CodeWords$Kind", 619), ("CodeWords$Kind", 622), ("CodeWords$Kind", 624), ("CodeWords$Kind", 626), ("CodeWords$Kind", 629), ("CodeWords$Kind", 631), ("CodeWords$Kind", 633), ("CodeWords$Kind", 636), ("CodeWords$Kind", 638), ("CodeWords$Kind", 640), ("CodeWords$Kind", 643), ("CodeWords$Kind", 645), ("CodeWords$Kind", 647), ("CodeWords$Kind", 650), ("CodeWords$Kind", 652), ("CodeWords$Kind", 654), ("CodeWords$Kind", 657), ("CodeWords$Kind", 659), ("CodeWords$Kind", 661), ("CodeWords$Kind", 664), ("CodeWords$Kind", 666), ("CodeWords$Kind", 668), ("CodeWords$Kind", 671), ("CodeWords$Kind", 673), ("CodeWords$Kind", 675), ("CodeWords$Kind", 678), ("CodeWords$Kind", 680), ("CodeWords$Kind", 683), ("CodeWords$Kind", 685), ("CodeWords$Kind", 688), ("CodeWords$Kind", 690), ("CodeWords$Kind", 693), ("CodeWords$Kind", 695), ("CodeWords$Kind", 697), ("CodeWords$Kind", 700), ("CodeWords$Kind", 702), ("CodeWords$Kind", 705), ("CodeWords$Kind", 707), ("CodeWords$Kind", 710), ("CodeWords$Kind", 712), ("CodeWords$Kind", 715), ("CodeWords$Kind", 717), ("CodeWords$Kind", 719), ("CodeWords$Kind", 722), ("CodeWords$Kind", 724), ("CodeWords$Kind", 726), ("CodeWords$Kind", 729), ("CodeWords$Kind", 731), ("CodeWords$Kind", 734), ("CodeWords$Kind", 736), ("CodeWords$Kind", 739), ("CodeWords$Kind", 741), ("CodeWords$Kind", 744), ("CodeWords$Kind", 746), ("CodeWords$Kind", 748), ("CodeWords$Kind", 751), ("CodeWords$Kind", 753), ("CodeWords$Kind", 755), ("CodeWords$Kind", 758), ("CodeWords$Kind", 760), ("CodeWords$Kind", 762), ("CodeWords$Kind", 765), ("CodeWords$Kind", 767), ("CodeWords$Kind", 769), ("CodeWords$Kind", 772), ("CodeWords$Kind", 774), ("CodeWords$Kind", 777), ("CodeWords$Kind", 779), ("CodeWords$Kind", 781)]
abbrev tKK : Term := .static "CodeWords" "KINDS" "[LCodeWords$Kind;"
def kT (i : Nat) : Term := .static "CodeWords$Kind" (knl.getD i "") "LCodeWords$Kind;"
def sT (j : Nat) : Term := .string (sol.getD j ("", 0)).1 (sol.getD j ("", 0)).2
abbrev sTv (j : Nat) : Term := .field (sT j) "java/lang/String" "value" "[B"
def kC (i : Nat) : List Cond := [.exactly (kT i) "CodeWords$Kind", .eq (.field (kT i) "java/lang/Enum" "ordinal" "I") (.int (Int32.ofNat i)), .eq (.field (kT i) "CodeWords$Kind" "title" "Ljava/lang/String;") (sT (k_title i)), .eq (.field (kT i) "CodeWords$Kind" "layout" "Ljava/lang/String;") (sT (k_layout i))] ++ ((if 48 ≤ i then [.eq (.field (kT i) "CodeWords$Kind" "slots" "Ljava/lang/String;") (sT (k_slots i))] else []) ++ [.eq (.field (kT i) "CodeWords$Kind" "pattern" "I") (.int (k_pattern i)), .eq (.field (kT i) "CodeWords$Kind" "stands" "I") (.int (k_stands i)), .eq (.field (kT i) "CodeWords$Kind" "parts" "I") (.int (k_parts i)), .eq (.field (kT i) "CodeWords$Kind" "traits" "I") (.int (k_traits i)), .eq (.field (kT i) "CodeWords$Kind" "ownMask" "I") (.int (k_ownMask i)), .eq (.field (kT i) "CodeWords$Kind" "ownBits" "I") (.int (k_ownBits i)), .eq (.field (kT i) "CodeWords$Kind" "placeD" "I") (.int (k_placeD i)), .eq (.field (kT i) "CodeWords$Kind" "placeA" "I") (.int (k_placeA i)), .eq (.field (kT i) "CodeWords$Kind" "placeB" "I") (.int (k_placeB i)), .eq (.field (kT i) "CodeWords$Kind" "lowestBit" "I") (.int (k_lowestBit i)), .eq (.field (kT i) "CodeWords$Kind" "highestBit" "I") (.int (k_highestBit i))])
def sS (j : Nat) : List Cond := [.exactly (sT j) "java/lang/String", .eq (.field (sT j) "java/lang/String" "coder" "B") (.int 0), .arrayOf (sTv j) .byte, .eq (.length (sTv j)) (.int (Int32.ofNat (sL j)))] ++ (List.range (sL j)).map (fun q => .eq (.elem (sTv j) (.int (Int32.ofNat q))) (.int (sC j q)))
def nsP : List Cond := [(Jvm.Cond.arrayOf (Jvm.Term.arg (0 : Nat)) Jvm.ClassFile.FieldType.int), (Jvm.Cond.le (Jvm.Term.length (Jvm.Term.arg (0 : Nat))) (Jvm.Term.int (3072 : Int32))), (Jvm.Cond.isRef (Jvm.Term.static "CodeWords" "KINDS" "[LCodeWords$Kind;")), (Jvm.Cond.exactly (Jvm.Term.static "CodeWords" "KINDS" "[LCodeWords$Kind;") "[LCodeWords$Kind;"), (Jvm.Cond.arrayOf (Jvm.Term.static "CodeWords" "KINDS" "[LCodeWords$Kind;") (Jvm.ClassFile.FieldType.object "CodeWords$Kind")), (Jvm.Cond.eq (Jvm.Term.length (Jvm.Term.static "CodeWords" "KINDS" "[LCodeWords$Kind;")) (Jvm.Term.int (75 : Int32))), (Jvm.Cond.all (Jvm.Term.static "CodeWords" "KINDS" "[LCodeWords$Kind;") (Jvm.Cond.le (Jvm.Term.index (0 : Nat)) (Jvm.Term.int (74 : Int32))))] ++ ((List.range 75).map (fun i => .eq (.elem tKK (.int (Int32.ofNat i))) (kT i)) ++ [(Jvm.Cond.eq (Jvm.Term.static "java/lang/String" "COMPACT_STRINGS" "Z") (Jvm.Term.int (1 : Int32))), (Jvm.Cond.isRef (Jvm.Term.static "jdk/internal/util/Preconditions" "SIOOBE_FORMATTER" "Ljava/util/function/BiFunction;")), (Jvm.Cond.eq (Jvm.Term.static "java/lang/StringUTF16" "$assertionsDisabled" "Z") (Jvm.Term.int (1 : Int32))), (Jvm.Cond.eq (Jvm.Term.static "java/lang/StringUTF16" "HI_BYTE_SHIFT" "I") (Jvm.Term.int (0 : Int32))), (Jvm.Cond.eq (Jvm.Term.static "java/lang/StringUTF16" "LO_BYTE_SHIFT" "I") (Jvm.Term.int (8 : Int32))), (Jvm.Cond.isRef (Jvm.Term.static "java/lang/Throwable" "UNASSIGNED_STACK" "[Ljava/lang/StackTraceElement;")), (Jvm.Cond.isRef (Jvm.Term.static "java/lang/Throwable" "SUPPRESSED_SENTINEL" "Ljava/util/List;"))])
def nsN : List Cond := [(Jvm.Cond.not (Jvm.Cond.castable "CodeWords" "java/lang/IndexOutOfBoundsException")), (Jvm.Cond.not (Jvm.Cond.castable "CodeWordsModel" "java/lang/IndexOutOfBoundsException")), (Jvm.Cond.not (Jvm.Cond.castable "CodeWords$Kind" "java/lang/IndexOutOfBoundsException")), (Jvm.Cond.not (Jvm.Cond.castable "java/lang/IllegalArgumentException" "java/lang/IndexOutOfBoundsException")), (Jvm.Cond.not (Jvm.Cond.castable "java/util/NoSuchElementException" "java/lang/IndexOutOfBoundsException")), (Jvm.Cond.not (Jvm.Cond.castable "CodeWords" "java/lang/IllegalArgumentException")), (Jvm.Cond.not (Jvm.Cond.castable "CodeWordsModel" "java/lang/IllegalArgumentException")), (Jvm.Cond.not (Jvm.Cond.castable "CodeWords$Kind" "java/lang/IllegalArgumentException")), (Jvm.Cond.not (Jvm.Cond.castable "java/lang/IndexOutOfBoundsException" "java/lang/IllegalArgumentException")), (Jvm.Cond.not (Jvm.Cond.castable "java/util/NoSuchElementException" "java/lang/IllegalArgumentException")), (Jvm.Cond.not (Jvm.Cond.castable "CodeWords" "java/util/NoSuchElementException")), (Jvm.Cond.not (Jvm.Cond.castable "CodeWordsModel" "java/util/NoSuchElementException")), (Jvm.Cond.not (Jvm.Cond.castable "CodeWords$Kind" "java/util/NoSuchElementException")), (Jvm.Cond.not (Jvm.Cond.castable "java/lang/IndexOutOfBoundsException" "java/util/NoSuchElementException")), (Jvm.Cond.not (Jvm.Cond.castable "java/lang/IllegalArgumentException" "java/util/NoSuchElementException"))]
set_option maxRecDepth 100000 in
theorem ns_1 : flatC narrow_1_1 = nsP ++ ((kC 0) ++ ((kC 1) ++ ((kC 2) ++ ((kC 3) ++ ((kC 4) ++ ((kC 5) ++ ((kC 6) ++ ((kC 7) ++ ((kC 8) ++ ((kC 9) ++ ((kC 10) ++ ((kC 11) ++ ((kC 12) ++ ((kC 13) ++ ((kC 14) ++ ((kC 15) ++ ((kC 16) ++ ((kC 17) ++ ((kC 18) ++ ((kC 19) ++ (((kC 20).take 11)))))))))))))))))))))) := rfl
set_option maxRecDepth 100000 in
theorem ns_2 : flatC narrow_1_2 = ((kC 20).drop 11) ++ ((kC 21) ++ ((kC 22) ++ ((kC 23) ++ ((kC 24) ++ ((kC 25) ++ ((kC 26) ++ ((kC 27) ++ ((kC 28) ++ ((kC 29) ++ ((kC 30) ++ ((kC 31) ++ ((kC 32) ++ ((kC 33) ++ ((kC 34) ++ ((kC 35) ++ ((kC 36) ++ ((kC 37) ++ ((kC 38) ++ ((kC 39) ++ ((kC 40) ++ ((kC 41) ++ ((kC 42) ++ ((kC 43) ++ ((kC 44) ++ ((kC 45) ++ ((kC 46) ++ (((kC 47).take 6)))))))))))))))))))))))))))) := rfl
set_option maxRecDepth 100000 in
theorem ns_3 : flatC narrow_1_3 = ((kC 47).drop 6) ++ ((kC 48) ++ ((kC 49) ++ ((kC 50) ++ ((kC 51) ++ ((kC 52) ++ ((kC 53) ++ ((kC 54) ++ ((kC 55) ++ ((kC 56) ++ ((kC 57) ++ ((kC 58) ++ ((kC 59) ++ ((kC 60) ++ ((kC 61) ++ ((kC 62) ++ ((kC 63) ++ ((kC 64) ++ ((kC 65) ++ ((kC 66) ++ ((kC 67) ++ ((kC 68) ++ ((kC 69) ++ ((kC 70) ++ ((kC 71) ++ (((kC 72).take 7)))))))))))))))))))))))))) := rfl
set_option maxRecDepth 100000 in
theorem ns_4 : flatC narrow_1_4 = ((kC 72).drop 7) ++ ((kC 73) ++ ((kC 74) ++ (nsN ++ ((sS 0) ++ ((sS 1) ++ ((sS 2) ++ ((sS 3) ++ ((sS 4) ++ ((sS 5) ++ ((sS 6) ++ ((sS 7) ++ ((sS 8) ++ ((sS 9) ++ ((sS 10) ++ ((sS 11) ++ (((sS 12).take 22))))))))))))))))) := rfl
set_option maxRecDepth 100000 in
theorem ns_5 : flatC narrow_1_5 = ((sS 12).drop 22) ++ ((sS 13) ++ ((sS 14) ++ ((sS 15) ++ ((sS 16) ++ ((sS 17) ++ ((sS 18) ++ ((sS 19) ++ ((sS 20) ++ ((sS 21) ++ ((sS 22) ++ ((sS 23) ++ ((sS 24) ++ ((sS 25) ++ ((sS 26) ++ ((sS 27) ++ ((sS 28) ++ ((sS 29) ++ ((sS 30) ++ (((sS 31).take 3)))))))))))))))))))) := rfl
set_option maxRecDepth 100000 in
theorem ns_6 : flatC narrow_1_6 = ((sS 31).drop 3) ++ ((sS 32) ++ ((sS 33) ++ ((sS 34) ++ ((sS 35) ++ ((sS 36) ++ ((sS 37) ++ ((sS 38) ++ ((sS 39) ++ ((sS 40) ++ ((sS 41) ++ ((sS 42) ++ ((sS 43) ++ ((sS 44) ++ ((sS 45) ++ ((sS 46) ++ ((sS 47) ++ ((sS 48) ++ ((sS 49) ++ (((sS 50).take 13)))))))))))))))))))) := rfl
set_option maxRecDepth 100000 in
theorem ns_7 : flatC narrow_1_7 = ((sS 50).drop 13) ++ ((sS 51) ++ ((sS 52) ++ ((sS 53) ++ ((sS 54) ++ ((sS 55) ++ ((sS 56) ++ ((sS 57) ++ ((sS 58) ++ ((sS 59) ++ ((sS 60) ++ ((sS 61) ++ ((sS 62) ++ ((sS 63) ++ ((sS 64) ++ ((sS 65) ++ ((sS 66) ++ ((sS 67) ++ (((sS 68).take 18))))))))))))))))))) := rfl
set_option maxRecDepth 100000 in
theorem ns_8 : flatC narrow_1_8 = ((sS 68).drop 18) ++ ((sS 69) ++ ((sS 70) ++ ((sS 71) ++ ((sS 72) ++ ((sS 73) ++ ((sS 74) ++ ((sS 75) ++ ((sS 76) ++ ((sS 77) ++ ((sS 78) ++ ((sS 79) ++ ((sS 80) ++ ((sS 81) ++ ((sS 82) ++ ((sS 83) ++ ((sS 84) ++ ((sS 85) ++ (((sS 86).take 31))))))))))))))))))) := rfl
set_option maxRecDepth 100000 in
theorem ns_9 : flatC narrow_1_9 = ((sS 86).drop 31) ++ ((sS 87) ++ ((sS 88) ++ ((sS 89) ++ ((sS 90) ++ ((sS 91) ++ ((sS 92) ++ ((sS 93) ++ ((sS 94) ++ ((sS 95) ++ ((sS 96) ++ ((sS 97) ++ ((sS 98) ++ ((sS 99) ++ ((sS 100) ++ ((sS 101) ++ ((sS 102) ++ ((sS 103) ++ (((sS 104).take 34))))))))))))))))))) := rfl
set_option maxRecDepth 100000 in
theorem ns_10 : flatC narrow_1_10 = ((sS 104).drop 34) ++ ((sS 105) ++ ((sS 106) ++ ((sS 107) ++ ((sS 108) ++ ((sS 109) ++ ((sS 110) ++ ((sS 111) ++ ((sS 112) ++ ((sS 113) ++ ((sS 114) ++ ((sS 115) ++ ((sS 116) ++ ((sS 117) ++ ((sS 118) ++ ((sS 119) ++ ((sS 120) ++ ((sS 121) ++ ((sS 122) ++ ((sS 123) ++ ((sS 124) ++ ((sS 125) ++ ((sS 126) ++ ((sS 127) ++ ((sS 128) ++ ((sS 129) ++ ((sS 130) ++ ((sS 131) ++ ((sS 132) ++ ((sS 133) ++ (((sS 134).take 2))))))))))))))))))))))))))))))) := rfl
set_option maxRecDepth 100000 in
theorem ns_11 : flatC narrow_1_11 = ((sS 134).drop 2) ++ ((sS 135) ++ ((sS 136) ++ ((sS 137) ++ ((sS 138) ++ ((sS 139) ++ ((sS 140) ++ ((sS 141) ++ ((sS 142) ++ ((sS 143) ++ ((sS 144) ++ ((sS 145) ++ ((sS 146) ++ ((sS 147) ++ ((sS 148) ++ ((sS 149) ++ ((sS 150) ++ ((sS 151) ++ ((sS 152) ++ ((sS 153) ++ ((sS 154) ++ ((sS 155) ++ ((sS 156) ++ ((sS 157) ++ ((sS 158) ++ ((sS 159) ++ ((sS 160) ++ ((sS 161) ++ ((sS 162) ++ (((sS 163).take 2)))))))))))))))))))))))))))))) := rfl
set_option maxRecDepth 100000 in
theorem ns_12 : flatC narrow_1_12 = ((sS 163).drop 2) ++ ((sS 164) ++ ((sS 165) ++ ((sS 166) ++ ((sS 167) ++ ((sS 168) ++ ((sS 169) ++ ((sS 170) ++ ((sS 171) ++ ((sS 172) ++ ((sS 173) ++ ((sS 174) ++ ((sS 175) ++ ((sS 176) ++ ((sS 177) ++ ((sS 178) ++ ((sS 179))))))))))))))))) := rfl
theorem ns_l {a : Array Value} {s : State} {x y : Cond} (h : (Jvm.Cond.and x y).before a s = true) : x.before a s = true := by
  rw [Cond.before_and, Bool.and_eq_true] at h; exact h.1
theorem ns_r {a : Array Value} {s : State} {x y : Cond} (h : (Jvm.Cond.and x y).before a s = true) : y.before a s = true := by
  rw [Cond.before_and, Bool.and_eq_true] at h; exact h.2
theorem ns_c1 {a : Array Value} {s : State} (h : narrow_1.before a s = true) : AW a s nsP ∧ AW a s (kC 0) ∧ AW a s (kC 1) ∧ AW a s (kC 2) ∧ AW a s (kC 3) ∧ AW a s (kC 4) ∧ AW a s (kC 5) ∧ AW a s (kC 6) ∧ AW a s (kC 7) ∧ AW a s (kC 8) ∧ AW a s (kC 9) ∧ AW a s (kC 10) ∧ AW a s (kC 11) ∧ AW a s (kC 12) ∧ AW a s (kC 13) ∧ AW a s (kC 14) ∧ AW a s (kC 15) ∧ AW a s (kC 16) ∧ AW a s (kC 17) ∧ AW a s (kC 18) ∧ AW a s (kC 19) ∧ AW a s ((kC 20).take 11) := by
  have h0 := AW.of (ns_l (ns_l (ns_l h))) ns_1
  obtain ⟨a0, h0⟩ := h0.app
  obtain ⟨a1, h0⟩ := h0.app
  obtain ⟨a2, h0⟩ := h0.app
  obtain ⟨a3, h0⟩ := h0.app
  obtain ⟨a4, h0⟩ := h0.app
  obtain ⟨a5, h0⟩ := h0.app
  obtain ⟨a6, h0⟩ := h0.app
  obtain ⟨a7, h0⟩ := h0.app
  obtain ⟨a8, h0⟩ := h0.app
  obtain ⟨a9, h0⟩ := h0.app
  obtain ⟨a10, h0⟩ := h0.app
  obtain ⟨a11, h0⟩ := h0.app
  obtain ⟨a12, h0⟩ := h0.app
  obtain ⟨a13, h0⟩ := h0.app
  obtain ⟨a14, h0⟩ := h0.app
  obtain ⟨a15, h0⟩ := h0.app
  obtain ⟨a16, h0⟩ := h0.app
  obtain ⟨a17, h0⟩ := h0.app
  obtain ⟨a18, h0⟩ := h0.app
  obtain ⟨a19, h0⟩ := h0.app
  obtain ⟨a20, h0⟩ := h0.app
  exact ⟨a0, a1, a2, a3, a4, a5, a6, a7, a8, a9, a10, a11, a12, a13, a14, a15, a16, a17, a18, a19, a20, h0⟩
theorem ns_c2 {a : Array Value} {s : State} (h : narrow_1.before a s = true) : AW a s ((kC 20).drop 11) ∧ AW a s (kC 21) ∧ AW a s (kC 22) ∧ AW a s (kC 23) ∧ AW a s (kC 24) ∧ AW a s (kC 25) ∧ AW a s (kC 26) ∧ AW a s (kC 27) ∧ AW a s (kC 28) ∧ AW a s (kC 29) ∧ AW a s (kC 30) ∧ AW a s (kC 31) ∧ AW a s (kC 32) ∧ AW a s (kC 33) ∧ AW a s (kC 34) ∧ AW a s (kC 35) ∧ AW a s (kC 36) ∧ AW a s (kC 37) ∧ AW a s (kC 38) ∧ AW a s (kC 39) ∧ AW a s (kC 40) ∧ AW a s (kC 41) ∧ AW a s (kC 42) ∧ AW a s (kC 43) ∧ AW a s (kC 44) ∧ AW a s (kC 45) ∧ AW a s (kC 46) ∧ AW a s ((kC 47).take 6) := by
  have h0 := AW.of (ns_l (ns_r (ns_l (ns_l h)))) ns_2
  obtain ⟨a0, h0⟩ := h0.app
  obtain ⟨a1, h0⟩ := h0.app
  obtain ⟨a2, h0⟩ := h0.app
  obtain ⟨a3, h0⟩ := h0.app
  obtain ⟨a4, h0⟩ := h0.app
  obtain ⟨a5, h0⟩ := h0.app
  obtain ⟨a6, h0⟩ := h0.app
  obtain ⟨a7, h0⟩ := h0.app
  obtain ⟨a8, h0⟩ := h0.app
  obtain ⟨a9, h0⟩ := h0.app
  obtain ⟨a10, h0⟩ := h0.app
  obtain ⟨a11, h0⟩ := h0.app
  obtain ⟨a12, h0⟩ := h0.app
  obtain ⟨a13, h0⟩ := h0.app
  obtain ⟨a14, h0⟩ := h0.app
  obtain ⟨a15, h0⟩ := h0.app
  obtain ⟨a16, h0⟩ := h0.app
  obtain ⟨a17, h0⟩ := h0.app
  obtain ⟨a18, h0⟩ := h0.app
  obtain ⟨a19, h0⟩ := h0.app
  obtain ⟨a20, h0⟩ := h0.app
  obtain ⟨a21, h0⟩ := h0.app
  obtain ⟨a22, h0⟩ := h0.app
  obtain ⟨a23, h0⟩ := h0.app
  obtain ⟨a24, h0⟩ := h0.app
  obtain ⟨a25, h0⟩ := h0.app
  obtain ⟨a26, h0⟩ := h0.app
  exact ⟨a0, a1, a2, a3, a4, a5, a6, a7, a8, a9, a10, a11, a12, a13, a14, a15, a16, a17, a18, a19, a20, a21, a22, a23, a24, a25, a26, h0⟩
theorem ns_c3 {a : Array Value} {s : State} (h : narrow_1.before a s = true) : AW a s ((kC 47).drop 6) ∧ AW a s (kC 48) ∧ AW a s (kC 49) ∧ AW a s (kC 50) ∧ AW a s (kC 51) ∧ AW a s (kC 52) ∧ AW a s (kC 53) ∧ AW a s (kC 54) ∧ AW a s (kC 55) ∧ AW a s (kC 56) ∧ AW a s (kC 57) ∧ AW a s (kC 58) ∧ AW a s (kC 59) ∧ AW a s (kC 60) ∧ AW a s (kC 61) ∧ AW a s (kC 62) ∧ AW a s (kC 63) ∧ AW a s (kC 64) ∧ AW a s (kC 65) ∧ AW a s (kC 66) ∧ AW a s (kC 67) ∧ AW a s (kC 68) ∧ AW a s (kC 69) ∧ AW a s (kC 70) ∧ AW a s (kC 71) ∧ AW a s ((kC 72).take 7) := by
  have h0 := AW.of (ns_r (ns_r (ns_l (ns_l h)))) ns_3
  obtain ⟨a0, h0⟩ := h0.app
  obtain ⟨a1, h0⟩ := h0.app
  obtain ⟨a2, h0⟩ := h0.app
  obtain ⟨a3, h0⟩ := h0.app
  obtain ⟨a4, h0⟩ := h0.app
  obtain ⟨a5, h0⟩ := h0.app
  obtain ⟨a6, h0⟩ := h0.app
  obtain ⟨a7, h0⟩ := h0.app
  obtain ⟨a8, h0⟩ := h0.app
  obtain ⟨a9, h0⟩ := h0.app
  obtain ⟨a10, h0⟩ := h0.app
  obtain ⟨a11, h0⟩ := h0.app
  obtain ⟨a12, h0⟩ := h0.app
  obtain ⟨a13, h0⟩ := h0.app
  obtain ⟨a14, h0⟩ := h0.app
  obtain ⟨a15, h0⟩ := h0.app
  obtain ⟨a16, h0⟩ := h0.app
  obtain ⟨a17, h0⟩ := h0.app
  obtain ⟨a18, h0⟩ := h0.app
  obtain ⟨a19, h0⟩ := h0.app
  obtain ⟨a20, h0⟩ := h0.app
  obtain ⟨a21, h0⟩ := h0.app
  obtain ⟨a22, h0⟩ := h0.app
  obtain ⟨a23, h0⟩ := h0.app
  obtain ⟨a24, h0⟩ := h0.app
  exact ⟨a0, a1, a2, a3, a4, a5, a6, a7, a8, a9, a10, a11, a12, a13, a14, a15, a16, a17, a18, a19, a20, a21, a22, a23, a24, h0⟩
theorem ns_c4 {a : Array Value} {s : State} (h : narrow_1.before a s = true) : AW a s ((kC 72).drop 7) ∧ AW a s (kC 73) ∧ AW a s (kC 74) ∧ AW a s nsN ∧ AW a s (sS 0) ∧ AW a s (sS 1) ∧ AW a s (sS 2) ∧ AW a s (sS 3) ∧ AW a s (sS 4) ∧ AW a s (sS 5) ∧ AW a s (sS 6) ∧ AW a s (sS 7) ∧ AW a s (sS 8) ∧ AW a s (sS 9) ∧ AW a s (sS 10) ∧ AW a s (sS 11) ∧ AW a s ((sS 12).take 22) := by
  have h0 := AW.of (ns_l (ns_r (ns_l h))) ns_4
  obtain ⟨a0, h0⟩ := h0.app
  obtain ⟨a1, h0⟩ := h0.app
  obtain ⟨a2, h0⟩ := h0.app
  obtain ⟨a3, h0⟩ := h0.app
  obtain ⟨a4, h0⟩ := h0.app
  obtain ⟨a5, h0⟩ := h0.app
  obtain ⟨a6, h0⟩ := h0.app
  obtain ⟨a7, h0⟩ := h0.app
  obtain ⟨a8, h0⟩ := h0.app
  obtain ⟨a9, h0⟩ := h0.app
  obtain ⟨a10, h0⟩ := h0.app
  obtain ⟨a11, h0⟩ := h0.app
  obtain ⟨a12, h0⟩ := h0.app
  obtain ⟨a13, h0⟩ := h0.app
  obtain ⟨a14, h0⟩ := h0.app
  obtain ⟨a15, h0⟩ := h0.app
  exact ⟨a0, a1, a2, a3, a4, a5, a6, a7, a8, a9, a10, a11, a12, a13, a14, a15, h0⟩
theorem ns_c5 {a : Array Value} {s : State} (h : narrow_1.before a s = true) : AW a s ((sS 12).drop 22) ∧ AW a s (sS 13) ∧ AW a s (sS 14) ∧ AW a s (sS 15) ∧ AW a s (sS 16) ∧ AW a s (sS 17) ∧ AW a s (sS 18) ∧ AW a s (sS 19) ∧ AW a s (sS 20) ∧ AW a s (sS 21) ∧ AW a s (sS 22) ∧ AW a s (sS 23) ∧ AW a s (sS 24) ∧ AW a s (sS 25) ∧ AW a s (sS 26) ∧ AW a s (sS 27) ∧ AW a s (sS 28) ∧ AW a s (sS 29) ∧ AW a s (sS 30) ∧ AW a s ((sS 31).take 3) := by
  have h0 := AW.of (ns_l (ns_r (ns_r (ns_l h)))) ns_5
  obtain ⟨a0, h0⟩ := h0.app
  obtain ⟨a1, h0⟩ := h0.app
  obtain ⟨a2, h0⟩ := h0.app
  obtain ⟨a3, h0⟩ := h0.app
  obtain ⟨a4, h0⟩ := h0.app
  obtain ⟨a5, h0⟩ := h0.app
  obtain ⟨a6, h0⟩ := h0.app
  obtain ⟨a7, h0⟩ := h0.app
  obtain ⟨a8, h0⟩ := h0.app
  obtain ⟨a9, h0⟩ := h0.app
  obtain ⟨a10, h0⟩ := h0.app
  obtain ⟨a11, h0⟩ := h0.app
  obtain ⟨a12, h0⟩ := h0.app
  obtain ⟨a13, h0⟩ := h0.app
  obtain ⟨a14, h0⟩ := h0.app
  obtain ⟨a15, h0⟩ := h0.app
  obtain ⟨a16, h0⟩ := h0.app
  obtain ⟨a17, h0⟩ := h0.app
  obtain ⟨a18, h0⟩ := h0.app
  exact ⟨a0, a1, a2, a3, a4, a5, a6, a7, a8, a9, a10, a11, a12, a13, a14, a15, a16, a17, a18, h0⟩
theorem ns_c6 {a : Array Value} {s : State} (h : narrow_1.before a s = true) : AW a s ((sS 31).drop 3) ∧ AW a s (sS 32) ∧ AW a s (sS 33) ∧ AW a s (sS 34) ∧ AW a s (sS 35) ∧ AW a s (sS 36) ∧ AW a s (sS 37) ∧ AW a s (sS 38) ∧ AW a s (sS 39) ∧ AW a s (sS 40) ∧ AW a s (sS 41) ∧ AW a s (sS 42) ∧ AW a s (sS 43) ∧ AW a s (sS 44) ∧ AW a s (sS 45) ∧ AW a s (sS 46) ∧ AW a s (sS 47) ∧ AW a s (sS 48) ∧ AW a s (sS 49) ∧ AW a s ((sS 50).take 13) := by
  have h0 := AW.of (ns_r (ns_r (ns_r (ns_l h)))) ns_6
  obtain ⟨a0, h0⟩ := h0.app
  obtain ⟨a1, h0⟩ := h0.app
  obtain ⟨a2, h0⟩ := h0.app
  obtain ⟨a3, h0⟩ := h0.app
  obtain ⟨a4, h0⟩ := h0.app
  obtain ⟨a5, h0⟩ := h0.app
  obtain ⟨a6, h0⟩ := h0.app
  obtain ⟨a7, h0⟩ := h0.app
  obtain ⟨a8, h0⟩ := h0.app
  obtain ⟨a9, h0⟩ := h0.app
  obtain ⟨a10, h0⟩ := h0.app
  obtain ⟨a11, h0⟩ := h0.app
  obtain ⟨a12, h0⟩ := h0.app
  obtain ⟨a13, h0⟩ := h0.app
  obtain ⟨a14, h0⟩ := h0.app
  obtain ⟨a15, h0⟩ := h0.app
  obtain ⟨a16, h0⟩ := h0.app
  obtain ⟨a17, h0⟩ := h0.app
  obtain ⟨a18, h0⟩ := h0.app
  exact ⟨a0, a1, a2, a3, a4, a5, a6, a7, a8, a9, a10, a11, a12, a13, a14, a15, a16, a17, a18, h0⟩
theorem ns_c7 {a : Array Value} {s : State} (h : narrow_1.before a s = true) : AW a s ((sS 50).drop 13) ∧ AW a s (sS 51) ∧ AW a s (sS 52) ∧ AW a s (sS 53) ∧ AW a s (sS 54) ∧ AW a s (sS 55) ∧ AW a s (sS 56) ∧ AW a s (sS 57) ∧ AW a s (sS 58) ∧ AW a s (sS 59) ∧ AW a s (sS 60) ∧ AW a s (sS 61) ∧ AW a s (sS 62) ∧ AW a s (sS 63) ∧ AW a s (sS 64) ∧ AW a s (sS 65) ∧ AW a s (sS 66) ∧ AW a s (sS 67) ∧ AW a s ((sS 68).take 18) := by
  have h0 := AW.of (ns_l (ns_l (ns_r h))) ns_7
  obtain ⟨a0, h0⟩ := h0.app
  obtain ⟨a1, h0⟩ := h0.app
  obtain ⟨a2, h0⟩ := h0.app
  obtain ⟨a3, h0⟩ := h0.app
  obtain ⟨a4, h0⟩ := h0.app
  obtain ⟨a5, h0⟩ := h0.app
  obtain ⟨a6, h0⟩ := h0.app
  obtain ⟨a7, h0⟩ := h0.app
  obtain ⟨a8, h0⟩ := h0.app
  obtain ⟨a9, h0⟩ := h0.app
  obtain ⟨a10, h0⟩ := h0.app
  obtain ⟨a11, h0⟩ := h0.app
  obtain ⟨a12, h0⟩ := h0.app
  obtain ⟨a13, h0⟩ := h0.app
  obtain ⟨a14, h0⟩ := h0.app
  obtain ⟨a15, h0⟩ := h0.app
  obtain ⟨a16, h0⟩ := h0.app
  obtain ⟨a17, h0⟩ := h0.app
  exact ⟨a0, a1, a2, a3, a4, a5, a6, a7, a8, a9, a10, a11, a12, a13, a14, a15, a16, a17, h0⟩
theorem ns_c8 {a : Array Value} {s : State} (h : narrow_1.before a s = true) : AW a s ((sS 68).drop 18) ∧ AW a s (sS 69) ∧ AW a s (sS 70) ∧ AW a s (sS 71) ∧ AW a s (sS 72) ∧ AW a s (sS 73) ∧ AW a s (sS 74) ∧ AW a s (sS 75) ∧ AW a s (sS 76) ∧ AW a s (sS 77) ∧ AW a s (sS 78) ∧ AW a s (sS 79) ∧ AW a s (sS 80) ∧ AW a s (sS 81) ∧ AW a s (sS 82) ∧ AW a s (sS 83) ∧ AW a s (sS 84) ∧ AW a s (sS 85) ∧ AW a s ((sS 86).take 31) := by
  have h0 := AW.of (ns_l (ns_r (ns_l (ns_r h)))) ns_8
  obtain ⟨a0, h0⟩ := h0.app
  obtain ⟨a1, h0⟩ := h0.app
  obtain ⟨a2, h0⟩ := h0.app
  obtain ⟨a3, h0⟩ := h0.app
  obtain ⟨a4, h0⟩ := h0.app
  obtain ⟨a5, h0⟩ := h0.app
  obtain ⟨a6, h0⟩ := h0.app
  obtain ⟨a7, h0⟩ := h0.app
  obtain ⟨a8, h0⟩ := h0.app
  obtain ⟨a9, h0⟩ := h0.app
  obtain ⟨a10, h0⟩ := h0.app
  obtain ⟨a11, h0⟩ := h0.app
  obtain ⟨a12, h0⟩ := h0.app
  obtain ⟨a13, h0⟩ := h0.app
  obtain ⟨a14, h0⟩ := h0.app
  obtain ⟨a15, h0⟩ := h0.app
  obtain ⟨a16, h0⟩ := h0.app
  obtain ⟨a17, h0⟩ := h0.app
  exact ⟨a0, a1, a2, a3, a4, a5, a6, a7, a8, a9, a10, a11, a12, a13, a14, a15, a16, a17, h0⟩
theorem ns_c9 {a : Array Value} {s : State} (h : narrow_1.before a s = true) : AW a s ((sS 86).drop 31) ∧ AW a s (sS 87) ∧ AW a s (sS 88) ∧ AW a s (sS 89) ∧ AW a s (sS 90) ∧ AW a s (sS 91) ∧ AW a s (sS 92) ∧ AW a s (sS 93) ∧ AW a s (sS 94) ∧ AW a s (sS 95) ∧ AW a s (sS 96) ∧ AW a s (sS 97) ∧ AW a s (sS 98) ∧ AW a s (sS 99) ∧ AW a s (sS 100) ∧ AW a s (sS 101) ∧ AW a s (sS 102) ∧ AW a s (sS 103) ∧ AW a s ((sS 104).take 34) := by
  have h0 := AW.of (ns_r (ns_r (ns_l (ns_r h)))) ns_9
  obtain ⟨a0, h0⟩ := h0.app
  obtain ⟨a1, h0⟩ := h0.app
  obtain ⟨a2, h0⟩ := h0.app
  obtain ⟨a3, h0⟩ := h0.app
  obtain ⟨a4, h0⟩ := h0.app
  obtain ⟨a5, h0⟩ := h0.app
  obtain ⟨a6, h0⟩ := h0.app
  obtain ⟨a7, h0⟩ := h0.app
  obtain ⟨a8, h0⟩ := h0.app
  obtain ⟨a9, h0⟩ := h0.app
  obtain ⟨a10, h0⟩ := h0.app
  obtain ⟨a11, h0⟩ := h0.app
  obtain ⟨a12, h0⟩ := h0.app
  obtain ⟨a13, h0⟩ := h0.app
  obtain ⟨a14, h0⟩ := h0.app
  obtain ⟨a15, h0⟩ := h0.app
  obtain ⟨a16, h0⟩ := h0.app
  obtain ⟨a17, h0⟩ := h0.app
  exact ⟨a0, a1, a2, a3, a4, a5, a6, a7, a8, a9, a10, a11, a12, a13, a14, a15, a16, a17, h0⟩
theorem ns_c10 {a : Array Value} {s : State} (h : narrow_1.before a s = true) : AW a s ((sS 104).drop 34) ∧ AW a s (sS 105) ∧ AW a s (sS 106) ∧ AW a s (sS 107) ∧ AW a s (sS 108) ∧ AW a s (sS 109) ∧ AW a s (sS 110) ∧ AW a s (sS 111) ∧ AW a s (sS 112) ∧ AW a s (sS 113) ∧ AW a s (sS 114) ∧ AW a s (sS 115) ∧ AW a s (sS 116) ∧ AW a s (sS 117) ∧ AW a s (sS 118) ∧ AW a s (sS 119) ∧ AW a s (sS 120) ∧ AW a s (sS 121) ∧ AW a s (sS 122) ∧ AW a s (sS 123) ∧ AW a s (sS 124) ∧ AW a s (sS 125) ∧ AW a s (sS 126) ∧ AW a s (sS 127) ∧ AW a s (sS 128) ∧ AW a s (sS 129) ∧ AW a s (sS 130) ∧ AW a s (sS 131) ∧ AW a s (sS 132) ∧ AW a s (sS 133) ∧ AW a s ((sS 134).take 2) := by
  have h0 := AW.of (ns_l (ns_r (ns_r h))) ns_10
  obtain ⟨a0, h0⟩ := h0.app
  obtain ⟨a1, h0⟩ := h0.app
  obtain ⟨a2, h0⟩ := h0.app
  obtain ⟨a3, h0⟩ := h0.app
  obtain ⟨a4, h0⟩ := h0.app
  obtain ⟨a5, h0⟩ := h0.app
  obtain ⟨a6, h0⟩ := h0.app
  obtain ⟨a7, h0⟩ := h0.app
  obtain ⟨a8, h0⟩ := h0.app
  obtain ⟨a9, h0⟩ := h0.app
  obtain ⟨a10, h0⟩ := h0.app
  obtain ⟨a11, h0⟩ := h0.app
  obtain ⟨a12, h0⟩ := h0.app
  obtain ⟨a13, h0⟩ := h0.app
  obtain ⟨a14, h0⟩ := h0.app
  obtain ⟨a15, h0⟩ := h0.app
  obtain ⟨a16, h0⟩ := h0.app
  obtain ⟨a17, h0⟩ := h0.app
  obtain ⟨a18, h0⟩ := h0.app
  obtain ⟨a19, h0⟩ := h0.app
  obtain ⟨a20, h0⟩ := h0.app
  obtain ⟨a21, h0⟩ := h0.app
  obtain ⟨a22, h0⟩ := h0.app
  obtain ⟨a23, h0⟩ := h0.app
  obtain ⟨a24, h0⟩ := h0.app
  obtain ⟨a25, h0⟩ := h0.app
  obtain ⟨a26, h0⟩ := h0.app
  obtain ⟨a27, h0⟩ := h0.app
  obtain ⟨a28, h0⟩ := h0.app
  obtain ⟨a29, h0⟩ := h0.app
  exact ⟨a0, a1, a2, a3, a4, a5, a6, a7, a8, a9, a10, a11, a12, a13, a14, a15, a16, a17, a18, a19, a20, a21, a22, a23, a24, a25, a26, a27, a28, a29, h0⟩
theorem ns_c11 {a : Array Value} {s : State} (h : narrow_1.before a s = true) : AW a s ((sS 134).drop 2) ∧ AW a s (sS 135) ∧ AW a s (sS 136) ∧ AW a s (sS 137) ∧ AW a s (sS 138) ∧ AW a s (sS 139) ∧ AW a s (sS 140) ∧ AW a s (sS 141) ∧ AW a s (sS 142) ∧ AW a s (sS 143) ∧ AW a s (sS 144) ∧ AW a s (sS 145) ∧ AW a s (sS 146) ∧ AW a s (sS 147) ∧ AW a s (sS 148) ∧ AW a s (sS 149) ∧ AW a s (sS 150) ∧ AW a s (sS 151) ∧ AW a s (sS 152) ∧ AW a s (sS 153) ∧ AW a s (sS 154) ∧ AW a s (sS 155) ∧ AW a s (sS 156) ∧ AW a s (sS 157) ∧ AW a s (sS 158) ∧ AW a s (sS 159) ∧ AW a s (sS 160) ∧ AW a s (sS 161) ∧ AW a s (sS 162) ∧ AW a s ((sS 163).take 2) := by
  have h0 := AW.of (ns_l (ns_r (ns_r (ns_r h)))) ns_11
  obtain ⟨a0, h0⟩ := h0.app
  obtain ⟨a1, h0⟩ := h0.app
  obtain ⟨a2, h0⟩ := h0.app
  obtain ⟨a3, h0⟩ := h0.app
  obtain ⟨a4, h0⟩ := h0.app
  obtain ⟨a5, h0⟩ := h0.app
  obtain ⟨a6, h0⟩ := h0.app
  obtain ⟨a7, h0⟩ := h0.app
  obtain ⟨a8, h0⟩ := h0.app
  obtain ⟨a9, h0⟩ := h0.app
  obtain ⟨a10, h0⟩ := h0.app
  obtain ⟨a11, h0⟩ := h0.app
  obtain ⟨a12, h0⟩ := h0.app
  obtain ⟨a13, h0⟩ := h0.app
  obtain ⟨a14, h0⟩ := h0.app
  obtain ⟨a15, h0⟩ := h0.app
  obtain ⟨a16, h0⟩ := h0.app
  obtain ⟨a17, h0⟩ := h0.app
  obtain ⟨a18, h0⟩ := h0.app
  obtain ⟨a19, h0⟩ := h0.app
  obtain ⟨a20, h0⟩ := h0.app
  obtain ⟨a21, h0⟩ := h0.app
  obtain ⟨a22, h0⟩ := h0.app
  obtain ⟨a23, h0⟩ := h0.app
  obtain ⟨a24, h0⟩ := h0.app
  obtain ⟨a25, h0⟩ := h0.app
  obtain ⟨a26, h0⟩ := h0.app
  obtain ⟨a27, h0⟩ := h0.app
  obtain ⟨a28, h0⟩ := h0.app
  exact ⟨a0, a1, a2, a3, a4, a5, a6, a7, a8, a9, a10, a11, a12, a13, a14, a15, a16, a17, a18, a19, a20, a21, a22, a23, a24, a25, a26, a27, a28, h0⟩
theorem ns_c12 {a : Array Value} {s : State} (h : narrow_1.before a s = true) : AW a s ((sS 163).drop 2) ∧ AW a s (sS 164) ∧ AW a s (sS 165) ∧ AW a s (sS 166) ∧ AW a s (sS 167) ∧ AW a s (sS 168) ∧ AW a s (sS 169) ∧ AW a s (sS 170) ∧ AW a s (sS 171) ∧ AW a s (sS 172) ∧ AW a s (sS 173) ∧ AW a s (sS 174) ∧ AW a s (sS 175) ∧ AW a s (sS 176) ∧ AW a s (sS 177) ∧ AW a s (sS 178) ∧ AW a s (sS 179) := by
  have h0 := AW.of (ns_r (ns_r (ns_r (ns_r h)))) ns_12
  obtain ⟨a0, h0⟩ := h0.app
  obtain ⟨a1, h0⟩ := h0.app
  obtain ⟨a2, h0⟩ := h0.app
  obtain ⟨a3, h0⟩ := h0.app
  obtain ⟨a4, h0⟩ := h0.app
  obtain ⟨a5, h0⟩ := h0.app
  obtain ⟨a6, h0⟩ := h0.app
  obtain ⟨a7, h0⟩ := h0.app
  obtain ⟨a8, h0⟩ := h0.app
  obtain ⟨a9, h0⟩ := h0.app
  obtain ⟨a10, h0⟩ := h0.app
  obtain ⟨a11, h0⟩ := h0.app
  obtain ⟨a12, h0⟩ := h0.app
  obtain ⟨a13, h0⟩ := h0.app
  obtain ⟨a14, h0⟩ := h0.app
  obtain ⟨a15, h0⟩ := h0.app
  exact ⟨a0, a1, a2, a3, a4, a5, a6, a7, a8, a9, a10, a11, a12, a13, a14, a15, h0⟩
theorem ns_all {a : Array Value} {s : State} (h : narrow_1.before a s = true) : AW a s nsP ∧ AW a s nsN ∧ (∀ i, i < 75 → AW a s (kC i)) ∧ (∀ j, j < 180 → AW a s (sS j)) := by
  obtain ⟨v0, v1, v2, v3, v4, v5, v6, v7, v8, v9, v10, v11, v12, v13, v14, v15, v16, v17, v18, v19, v20, v21⟩ := ns_c1 h
  obtain ⟨v22, v23, v24, v25, v26, v27, v28, v29, v30, v31, v32, v33, v34, v35, v36, v37, v38, v39, v40, v41, v42, v43, v44, v45, v46, v47, v48, v49⟩ := ns_c2 h
  obtain ⟨v50, v51, v52, v53, v54, v55, v56, v57, v58, v59, v60, v61, v62, v63, v64, v65, v66, v67, v68, v69, v70, v71, v72, v73, v74, v75⟩ := ns_c3 h
  obtain ⟨v76, v77, v78, v79, v80, v81, v82, v83, v84, v85, v86, v87, v88, v89, v90, v91, v92⟩ := ns_c4 h
  obtain ⟨v93, v94, v95, v96, v97, v98, v99, v100, v101, v102, v103, v104, v105, v106, v107, v108, v109, v110, v111, v112⟩ := ns_c5 h
  obtain ⟨v113, v114, v115, v116, v117, v118, v119, v120, v121, v122, v123, v124, v125, v126, v127, v128, v129, v130, v131, v132⟩ := ns_c6 h
  obtain ⟨v133, v134, v135, v136, v137, v138, v139, v140, v141, v142, v143, v144, v145, v146, v147, v148, v149, v150, v151⟩ := ns_c7 h
  obtain ⟨v152, v153, v154, v155, v156, v157, v158, v159, v160, v161, v162, v163, v164, v165, v166, v167, v168, v169, v170⟩ := ns_c8 h
  obtain ⟨v171, v172, v173, v174, v175, v176, v177, v178, v179, v180, v181, v182, v183, v184, v185, v186, v187, v188, v189⟩ := ns_c9 h
  obtain ⟨v190, v191, v192, v193, v194, v195, v196, v197, v198, v199, v200, v201, v202, v203, v204, v205, v206, v207, v208, v209, v210, v211, v212, v213, v214, v215, v216, v217, v218, v219, v220⟩ := ns_c10 h
  obtain ⟨v221, v222, v223, v224, v225, v226, v227, v228, v229, v230, v231, v232, v233, v234, v235, v236, v237, v238, v239, v240, v241, v242, v243, v244, v245, v246, v247, v248, v249, v250⟩ := ns_c11 h
  obtain ⟨v251, v252, v253, v254, v255, v256, v257, v258, v259, v260, v261, v262, v263, v264, v265, v266, v267⟩ := ns_c12 h
  refine ⟨v0, v79, fun i hi => ?_, fun j hj => ?_⟩
  · match i, hi with
    | 0, _ => exact v1
    | 1, _ => exact v2
    | 2, _ => exact v3
    | 3, _ => exact v4
    | 4, _ => exact v5
    | 5, _ => exact v6
    | 6, _ => exact v7
    | 7, _ => exact v8
    | 8, _ => exact v9
    | 9, _ => exact v10
    | 10, _ => exact v11
    | 11, _ => exact v12
    | 12, _ => exact v13
    | 13, _ => exact v14
    | 14, _ => exact v15
    | 15, _ => exact v16
    | 16, _ => exact v17
    | 17, _ => exact v18
    | 18, _ => exact v19
    | 19, _ => exact v20
    | 20, _ => exact (AW.glue 11 v21 v22)
    | 21, _ => exact v23
    | 22, _ => exact v24
    | 23, _ => exact v25
    | 24, _ => exact v26
    | 25, _ => exact v27
    | 26, _ => exact v28
    | 27, _ => exact v29
    | 28, _ => exact v30
    | 29, _ => exact v31
    | 30, _ => exact v32
    | 31, _ => exact v33
    | 32, _ => exact v34
    | 33, _ => exact v35
    | 34, _ => exact v36
    | 35, _ => exact v37
    | 36, _ => exact v38
    | 37, _ => exact v39
    | 38, _ => exact v40
    | 39, _ => exact v41
    | 40, _ => exact v42
    | 41, _ => exact v43
    | 42, _ => exact v44
    | 43, _ => exact v45
    | 44, _ => exact v46
    | 45, _ => exact v47
    | 46, _ => exact v48
    | 47, _ => exact (AW.glue 6 v49 v50)
    | 48, _ => exact v51
    | 49, _ => exact v52
    | 50, _ => exact v53
    | 51, _ => exact v54
    | 52, _ => exact v55
    | 53, _ => exact v56
    | 54, _ => exact v57
    | 55, _ => exact v58
    | 56, _ => exact v59
    | 57, _ => exact v60
    | 58, _ => exact v61
    | 59, _ => exact v62
    | 60, _ => exact v63
    | 61, _ => exact v64
    | 62, _ => exact v65
    | 63, _ => exact v66
    | 64, _ => exact v67
    | 65, _ => exact v68
    | 66, _ => exact v69
    | 67, _ => exact v70
    | 68, _ => exact v71
    | 69, _ => exact v72
    | 70, _ => exact v73
    | 71, _ => exact v74
    | 72, _ => exact (AW.glue 7 v75 v76)
    | 73, _ => exact v77
    | 74, _ => exact v78
    | n + 75, hi => exact absurd hi (by omega)
  · match j, hj with
    | 0, _ => exact v80
    | 1, _ => exact v81
    | 2, _ => exact v82
    | 3, _ => exact v83
    | 4, _ => exact v84
    | 5, _ => exact v85
    | 6, _ => exact v86
    | 7, _ => exact v87
    | 8, _ => exact v88
    | 9, _ => exact v89
    | 10, _ => exact v90
    | 11, _ => exact v91
    | 12, _ => exact (AW.glue 22 v92 v93)
    | 13, _ => exact v94
    | 14, _ => exact v95
    | 15, _ => exact v96
    | 16, _ => exact v97
    | 17, _ => exact v98
    | 18, _ => exact v99
    | 19, _ => exact v100
    | 20, _ => exact v101
    | 21, _ => exact v102
    | 22, _ => exact v103
    | 23, _ => exact v104
    | 24, _ => exact v105
    | 25, _ => exact v106
    | 26, _ => exact v107
    | 27, _ => exact v108
    | 28, _ => exact v109
    | 29, _ => exact v110
    | 30, _ => exact v111
    | 31, _ => exact (AW.glue 3 v112 v113)
    | 32, _ => exact v114
    | 33, _ => exact v115
    | 34, _ => exact v116
    | 35, _ => exact v117
    | 36, _ => exact v118
    | 37, _ => exact v119
    | 38, _ => exact v120
    | 39, _ => exact v121
    | 40, _ => exact v122
    | 41, _ => exact v123
    | 42, _ => exact v124
    | 43, _ => exact v125
    | 44, _ => exact v126
    | 45, _ => exact v127
    | 46, _ => exact v128
    | 47, _ => exact v129
    | 48, _ => exact v130
    | 49, _ => exact v131
    | 50, _ => exact (AW.glue 13 v132 v133)
    | 51, _ => exact v134
    | 52, _ => exact v135
    | 53, _ => exact v136
    | 54, _ => exact v137
    | 55, _ => exact v138
    | 56, _ => exact v139
    | 57, _ => exact v140
    | 58, _ => exact v141
    | 59, _ => exact v142
    | 60, _ => exact v143
    | 61, _ => exact v144
    | 62, _ => exact v145
    | 63, _ => exact v146
    | 64, _ => exact v147
    | 65, _ => exact v148
    | 66, _ => exact v149
    | 67, _ => exact v150
    | 68, _ => exact (AW.glue 18 v151 v152)
    | 69, _ => exact v153
    | 70, _ => exact v154
    | 71, _ => exact v155
    | 72, _ => exact v156
    | 73, _ => exact v157
    | 74, _ => exact v158
    | 75, _ => exact v159
    | 76, _ => exact v160
    | 77, _ => exact v161
    | 78, _ => exact v162
    | 79, _ => exact v163
    | 80, _ => exact v164
    | 81, _ => exact v165
    | 82, _ => exact v166
    | 83, _ => exact v167
    | 84, _ => exact v168
    | 85, _ => exact v169
    | 86, _ => exact (AW.glue 31 v170 v171)
    | 87, _ => exact v172
    | 88, _ => exact v173
    | 89, _ => exact v174
    | 90, _ => exact v175
    | 91, _ => exact v176
    | 92, _ => exact v177
    | 93, _ => exact v178
    | 94, _ => exact v179
    | 95, _ => exact v180
    | 96, _ => exact v181
    | 97, _ => exact v182
    | 98, _ => exact v183
    | 99, _ => exact v184
    | 100, _ => exact v185
    | 101, _ => exact v186
    | 102, _ => exact v187
    | 103, _ => exact v188
    | 104, _ => exact (AW.glue 34 v189 v190)
    | 105, _ => exact v191
    | 106, _ => exact v192
    | 107, _ => exact v193
    | 108, _ => exact v194
    | 109, _ => exact v195
    | 110, _ => exact v196
    | 111, _ => exact v197
    | 112, _ => exact v198
    | 113, _ => exact v199
    | 114, _ => exact v200
    | 115, _ => exact v201
    | 116, _ => exact v202
    | 117, _ => exact v203
    | 118, _ => exact v204
    | 119, _ => exact v205
    | 120, _ => exact v206
    | 121, _ => exact v207
    | 122, _ => exact v208
    | 123, _ => exact v209
    | 124, _ => exact v210
    | 125, _ => exact v211
    | 126, _ => exact v212
    | 127, _ => exact v213
    | 128, _ => exact v214
    | 129, _ => exact v215
    | 130, _ => exact v216
    | 131, _ => exact v217
    | 132, _ => exact v218
    | 133, _ => exact v219
    | 134, _ => exact (AW.glue 2 v220 v221)
    | 135, _ => exact v222
    | 136, _ => exact v223
    | 137, _ => exact v224
    | 138, _ => exact v225
    | 139, _ => exact v226
    | 140, _ => exact v227
    | 141, _ => exact v228
    | 142, _ => exact v229
    | 143, _ => exact v230
    | 144, _ => exact v231
    | 145, _ => exact v232
    | 146, _ => exact v233
    | 147, _ => exact v234
    | 148, _ => exact v235
    | 149, _ => exact v236
    | 150, _ => exact v237
    | 151, _ => exact v238
    | 152, _ => exact v239
    | 153, _ => exact v240
    | 154, _ => exact v241
    | 155, _ => exact v242
    | 156, _ => exact v243
    | 157, _ => exact v244
    | 158, _ => exact v245
    | 159, _ => exact v246
    | 160, _ => exact v247
    | 161, _ => exact v248
    | 162, _ => exact v249
    | 163, _ => exact (AW.glue 2 v250 v251)
    | 164, _ => exact v252
    | 165, _ => exact v253
    | 166, _ => exact v254
    | 167, _ => exact v255
    | 168, _ => exact v256
    | 169, _ => exact v257
    | 170, _ => exact v258
    | 171, _ => exact v259
    | 172, _ => exact v260
    | 173, _ => exact v261
    | 174, _ => exact v262
    | 175, _ => exact v263
    | 176, _ => exact v264
    | 177, _ => exact v265
    | 178, _ => exact v266
    | 179, _ => exact v267
    | n + 180, hj => exact absurd hj (by omega)
set_option maxRecDepth 100000 in
theorem zt_sl : ∀ j, j < 180 → sL j < 200 := by decide +kernel
set_option maxRecDepth 100000 in
theorem zt_ki : ∀ i, i < 75 → k_title i < 180 ∧ k_layout i < 180 ∧ (48 ≤ i → k_slots i < 180) := by decide +kernel
theorem st_S {a : Array Value} {s : State} {A : Nat → Prop} {j : Nat} (hj : j < 180) (h : AW a s (sS j)) (hA : ∀ a : Nat, a < s.heap.size → ¬ A a) : ∃ k v : Nat, (sT j).eval a s none [] s = some (.ref k) ∧ va_O "java/lang/String" k A s s.heap ∧ va_OF "java/lang/String" "coder" "B" (.int 0) k A s s.heap ∧ va_OF "java/lang/String" "value" "[B" (.ref v) k A s s.heap ∧ va_T .byte v (sL j) (fun q => .int (sC j q)) A s s.heap := by
  have e0 : (Cond.exactly (sT j) "java/lang/String").before a s = true := h _ (List.mem_append_left _ (List.mem_cons_self ..))
  have e1 : (Cond.eq (.field (sT j) "java/lang/String" "coder" "B") (.int 0)).before a s = true := h _ (List.mem_append_left _ (List.mem_cons_of_mem _ (List.mem_cons_self ..)))
  have e2 : (Cond.arrayOf (sTv j) .byte).before a s = true := h _ (List.mem_append_left _ (List.mem_cons_of_mem _ (List.mem_cons_of_mem _ (List.mem_cons_self ..))))
  have e3 : (Cond.eq (.length (sTv j)) (.int (Int32.ofNat (sL j)))).before a s = true := h _ (List.mem_append_left _ (List.mem_cons_of_mem _ (List.mem_cons_of_mem _ (List.mem_cons_of_mem _ (List.mem_cons_self ..)))))
  have e4 : ∀ q, q < sL j → (Cond.eq (.elem (sTv j) (.int (Int32.ofNat q))) (.int (sC j q))).before a s = true := fun q hq => h _ (List.mem_append_right _ (List.mem_map.mpr ⟨q, List.mem_range.mpr hq, rfl⟩))
  obtain ⟨k, c, cell, kk, q1, q2, q3, q4, q5, q6, -⟩ := Cond.exactly_spec e0
  obtain ⟨v, t1, t2⟩ := va_Tof (N := sL j) (f := fun q => .int (sC j q)) (A := A) (by have := zt_sl j hj; omega) e2 (va_eqt e3) (fun q hq => va_eqt (e4 q hq)) hA
  exact ⟨k, v, q1, ⟨cell, q3, q5, by rw [q6]; exact q2, hA k (Array.getElem?_eq_some_iff.mp q3).1⟩, vk_OFof q1 (va_eqt e1) hA, vk_OFof q1 t1 hA, t2⟩
theorem st_K {a : Array Value} {s : State} {A : Nat → Prop} {i : Nat} (hi : i < 75) (h : AW a s (kC i)) (hA : ∀ a : Nat, a < s.heap.size → ¬ A a) {sk : Nat → Nat} (hs : ∀ j, j < 180 → (sT j).eval a s none [] s = some (.ref (sk j))) : ∃ d : Nat, (kT i).eval a s none [] s = some (.ref d) ∧ tbK (fun _ => d) sk i A s s.heap := by
  obtain ⟨z1, z2, z3⟩ := zt_ki i hi
  have e0 : (Cond.exactly (kT i) "CodeWords$Kind").before a s = true := h _ (List.mem_append_left _ (List.mem_cons_self ..))
  have e2 : (Cond.eq (.field (kT i) "CodeWords$Kind" "title" "Ljava/lang/String;") (sT (k_title i))).before a s = true := h _ (List.mem_append_left _ (List.mem_cons_of_mem _ (List.mem_cons_of_mem _ (List.mem_cons_self ..))))
  have e3 : (Cond.eq (.field (kT i) "CodeWords$Kind" "layout" "Ljava/lang/String;") (sT (k_layout i))).before a s = true := h _ (List.mem_append_left _ (List.mem_cons_of_mem _ (List.mem_cons_of_mem _ (List.mem_cons_of_mem _ (List.mem_cons_self ..)))))
  have e4 : 48 ≤ i → (Cond.eq (.field (kT i) "CodeWords$Kind" "slots" "Ljava/lang/String;") (sT (k_slots i))).before a s = true := fun h48 => h _ (List.mem_append_right _ (List.mem_append_left _ (by rw [if_pos h48]; exact List.mem_cons_self ..)))
  have f0 : (Cond.eq (.field (kT i) "CodeWords$Kind" "pattern" "I") (.int (k_pattern i))).before a s = true := h _ (List.mem_append_right _ (List.mem_append_right _ (List.mem_cons_self ..)))
  have f1 : (Cond.eq (.field (kT i) "CodeWords$Kind" "stands" "I") (.int (k_stands i))).before a s = true := h _ (List.mem_append_right _ (List.mem_append_right _ (List.mem_cons_of_mem _ (List.mem_cons_self ..))))
  have f2 : (Cond.eq (.field (kT i) "CodeWords$Kind" "parts" "I") (.int (k_parts i))).before a s = true := h _ (List.mem_append_right _ (List.mem_append_right _ (List.mem_cons_of_mem _ (List.mem_cons_of_mem _ (List.mem_cons_self ..)))))
  have f3 : (Cond.eq (.field (kT i) "CodeWords$Kind" "traits" "I") (.int (k_traits i))).before a s = true := h _ (List.mem_append_right _ (List.mem_append_right _ (List.mem_cons_of_mem _ (List.mem_cons_of_mem _ (List.mem_cons_of_mem _ (List.mem_cons_self ..))))))
  have f4 : (Cond.eq (.field (kT i) "CodeWords$Kind" "ownMask" "I") (.int (k_ownMask i))).before a s = true := h _ (List.mem_append_right _ (List.mem_append_right _ (List.mem_cons_of_mem _ (List.mem_cons_of_mem _ (List.mem_cons_of_mem _ (List.mem_cons_of_mem _ (List.mem_cons_self ..)))))))
  have f5 : (Cond.eq (.field (kT i) "CodeWords$Kind" "ownBits" "I") (.int (k_ownBits i))).before a s = true := h _ (List.mem_append_right _ (List.mem_append_right _ (List.mem_cons_of_mem _ (List.mem_cons_of_mem _ (List.mem_cons_of_mem _ (List.mem_cons_of_mem _ (List.mem_cons_of_mem _ (List.mem_cons_self ..))))))))
  have f6 : (Cond.eq (.field (kT i) "CodeWords$Kind" "placeD" "I") (.int (k_placeD i))).before a s = true := h _ (List.mem_append_right _ (List.mem_append_right _ (List.mem_cons_of_mem _ (List.mem_cons_of_mem _ (List.mem_cons_of_mem _ (List.mem_cons_of_mem _ (List.mem_cons_of_mem _ (List.mem_cons_of_mem _ (List.mem_cons_self ..)))))))))
  have f7 : (Cond.eq (.field (kT i) "CodeWords$Kind" "placeA" "I") (.int (k_placeA i))).before a s = true := h _ (List.mem_append_right _ (List.mem_append_right _ (List.mem_cons_of_mem _ (List.mem_cons_of_mem _ (List.mem_cons_of_mem _ (List.mem_cons_of_mem _ (List.mem_cons_of_mem _ (List.mem_cons_of_mem _ (List.mem_cons_of_mem _ (List.mem_cons_self ..))))))))))
  have f8 : (Cond.eq (.field (kT i) "CodeWords$Kind" "placeB" "I") (.int (k_placeB i))).before a s = true := h _ (List.mem_append_right _ (List.mem_append_right _ (List.mem_cons_of_mem _ (List.mem_cons_of_mem _ (List.mem_cons_of_mem _ (List.mem_cons_of_mem _ (List.mem_cons_of_mem _ (List.mem_cons_of_mem _ (List.mem_cons_of_mem _ (List.mem_cons_of_mem _ (List.mem_cons_self ..)))))))))))
  have f9 : (Cond.eq (.field (kT i) "CodeWords$Kind" "lowestBit" "I") (.int (k_lowestBit i))).before a s = true := h _ (List.mem_append_right _ (List.mem_append_right _ (List.mem_cons_of_mem _ (List.mem_cons_of_mem _ (List.mem_cons_of_mem _ (List.mem_cons_of_mem _ (List.mem_cons_of_mem _ (List.mem_cons_of_mem _ (List.mem_cons_of_mem _ (List.mem_cons_of_mem _ (List.mem_cons_of_mem _ (List.mem_cons_self ..))))))))))))
  have f10 : (Cond.eq (.field (kT i) "CodeWords$Kind" "highestBit" "I") (.int (k_highestBit i))).before a s = true := h _ (List.mem_append_right _ (List.mem_append_right _ (List.mem_cons_of_mem _ (List.mem_cons_of_mem _ (List.mem_cons_of_mem _ (List.mem_cons_of_mem _ (List.mem_cons_of_mem _ (List.mem_cons_of_mem _ (List.mem_cons_of_mem _ (List.mem_cons_of_mem _ (List.mem_cons_of_mem _ (List.mem_cons_of_mem _ (List.mem_cons_self ..)))))))))))))
  obtain ⟨d, c, cell, kk, q1, q2, q3, q4, q5, q6, -⟩ := Cond.exactly_spec e0
  refine ⟨d, q1, ⟨cell, q3, q5, by rw [q6]; exact q2, hA d (Array.getElem?_eq_some_iff.mp q3).1⟩, vk_OFof q1 (va_eqt f0) hA, vk_OFof q1 (va_eqt f1) hA, vk_OFof q1 (va_eqt f2) hA, vk_OFof q1 (va_eqt f3) hA, vk_OFof q1 (va_eqt f4) hA, vk_OFof q1 (va_eqt f5) hA, vk_OFof q1 (va_eqt f6) hA, vk_OFof q1 (va_eqt f7) hA, vk_OFof q1 (va_eqt f8) hA, vk_OFof q1 (va_eqt f9) hA, vk_OFof q1 (va_eqt f10) hA, vk_OFof q1 (va_eqv e2 (hs _ z1)) hA, vk_OFof q1 (va_eqv e3 (hs _ z2)) hA, fun h48 => vk_OFof q1 (va_eqv (e4 h48) (hs _ (z3 h48))) hA⟩
theorem st_tb {a : Array Value} {s : State} {A : Nat → Prop} (hn : narrow_1.before a s = true) (ht : ∀ w ∈ lw_tbl, w.before a s = true) (hA : ∀ a : Nat, a < s.heap.size → ¬ A a) : ∃ (ad sk sv : Nat → Nat) (tK : Nat), tb ad sk sv tK A s s.heap := by
  obtain ⟨n1, n2, n3, n4⟩ := ns_all hn
  have hs0 : ∀ j, ∃ kv : Nat × Nat, j < 180 → (sT j).eval a s none [] s = some (.ref kv.1) ∧ va_O "java/lang/String" kv.1 A s s.heap ∧ va_OF "java/lang/String" "coder" "B" (.int 0) kv.1 A s s.heap ∧ va_OF "java/lang/String" "value" "[B" (.ref kv.2) kv.1 A s s.heap ∧ va_T .byte kv.2 (sL j) (fun q => .int (sC j q)) A s s.heap := by
    intro j
    by_cases hj : j < 180
    · obtain ⟨k, v, r⟩ := st_S hj (n4 j hj) hA
      exact ⟨(k, v), fun _ => r⟩
    · exact ⟨(0, 0), fun z => absurd z hj⟩
  obtain ⟨kv, hkv⟩ := Classical.axiomOfChoice hs0
  have hk0 : ∀ i, ∃ d : Nat, i < 75 → (kT i).eval a s none [] s = some (.ref d) ∧ tbK (fun _ => d) (fun j => (kv j).1) i A s s.heap := by
    intro i
    by_cases hi : i < 75
    · obtain ⟨d, r⟩ := st_K hi (n3 i hi) hA (sk := fun j => (kv j).1) (fun j hj => (hkv j hj).1)
      exact ⟨d, fun _ => r⟩
    · exact ⟨0, fun z => absurd z hi⟩
  obtain ⟨ad, had⟩ := Classical.axiomOfChoice hk0
  have w4 : (Cond.arrayOf tKK (.object "CodeWords$Kind")).before a s = true := n1 _ (List.mem_append_left _ (List.mem_cons_of_mem _ (List.mem_cons_of_mem _ (List.mem_cons_of_mem _ (List.mem_cons_of_mem _ (List.mem_cons_self ..))))))
  have w5 : (Cond.eq (.length tKK) (.int 75)).before a s = true := n1 _ (List.mem_append_left _ (List.mem_cons_of_mem _ (List.mem_cons_of_mem _ (List.mem_cons_of_mem _ (List.mem_cons_of_mem _ (List.mem_cons_of_mem _ (List.mem_cons_self ..)))))))
  have w6 : ∀ i, i < 75 → (Cond.eq (.elem tKK (.int (Int32.ofNat i))) (kT i)).before a s = true := fun i hi => n1 _ (List.mem_append_right _ (List.mem_append_left _ (List.mem_map.mpr ⟨i, List.mem_range.mpr hi, rfl⟩)))
  have w7 : (Cond.eq (.static "java/lang/String" "COMPACT_STRINGS" "Z") (.int 1)).before a s = true := n1 _ (List.mem_append_right _ (List.mem_append_right _ (List.mem_cons_self ..)))
  have w8 : (Cond.isRef (.static "jdk/internal/util/Preconditions" "SIOOBE_FORMATTER" "Ljava/util/function/BiFunction;")).before a s = true := n1 _ (List.mem_append_right _ (List.mem_append_right _ (List.mem_cons_of_mem _ (List.mem_cons_self ..))))
  obtain ⟨tK, t1, t2⟩ := va_Tof (N := 75) (f := fun j => .ref (ad j)) (A := A) (by decide) w4 (va_eqt w5) (fun j hj => va_eqv (w6 j hj) (had j hj).1) hA
  refine ⟨ad, fun j => (kv j).1, fun j => (kv j).2, tK, va_Zref (ht _ (tw_1 39 rfl)) (ht _ (tw_1 1 rfl)) t1 hA, t2, fun i hi => (had i hi).2, fun j hj => (hkv j hj).2, va_Zof (ht _ (tw_1 70 rfl)) (ht _ (tw_1 7 rfl)) (va_eqi w7) hA, va_Zqof (ht _ (tw_1 86 rfl)) (ht _ (tw_1 9 rfl)) w8 hA, vk_R.of (ht _ (tw_2 62 rfl)) (hkv 7 (by omega)).1, vk_R.of (ht _ (tw_2 97 rfl)) (hkv 8 (by omega)).1, vk_R.of (ht _ (tw_2 121 rfl)) (hkv 9 (by omega)).1, vk_R.of (ht _ (tw_2 128 rfl)) (hkv 10 (by omega)).1, vk_R.of (ht _ (tw_2 136 rfl)) (hkv 11 (by omega)).1, vk_R.of (ht _ (tw_2 144 rfl)) (hkv 12 (by omega)).1, vk_R.of (ht _ (tw_1 193 rfl)) (hkv 0 (by omega)).1, vk_R.of (ht _ (tw_1 207 rfl)) (hkv 2 (by omega)).1, vk_R.of (ht _ (tw_1 217 rfl)) (hkv 4 (by omega)).1, vk_R.of (ht _ (tw_1 218 rfl)) (hkv 5 (by omega)).1, vk_R.of (ht _ (tw_1 216 rfl)) (hkv 3 (by omega)).1, vk_R.of (ht _ (tw_1 227 rfl)) (hkv 6 (by omega)).1, vk_R.of (ht _ (tw_1 206 rfl)) (hkv 1 (by omega)).1⟩
theorem st_xb {a : Array Value} {s : State} {A : Nat → Prop} (hn : narrow_1.before a s = true) (ht : ∀ w ∈ lw_tbl, w.before a s = true) (hA : ∀ a : Nat, a < s.heap.size → ¬ A a) : xb A s s.heap := by
  obtain ⟨n1, n2, n3, n4⟩ := ns_all hn
  have w1 : (Cond.isRef (.static Bundle.tN "UNASSIGNED_STACK" Bundle.steD)).before a s = true := n1 _ (List.mem_append_right _ (List.mem_append_right _ (List.mem_cons_of_mem _ (List.mem_cons_of_mem _ (List.mem_cons_of_mem _ (List.mem_cons_of_mem _ (List.mem_cons_of_mem _ (List.mem_cons_self ..))))))))
  have w2 : (Cond.isRef (.static Bundle.tN "SUPPRESSED_SENTINEL" Bundle.listD)).before a s = true := n1 _ (List.mem_append_right _ (List.mem_append_right _ (List.mem_cons_of_mem _ (List.mem_cons_of_mem _ (List.mem_cons_of_mem _ (List.mem_cons_of_mem _ (List.mem_cons_of_mem _ (List.mem_cons_of_mem _ (List.mem_cons_self ..)))))))))
  exact ⟨va_Zqof (ht _ (tw_2 48 rfl)) (ht _ (tw_1 3 rfl)) w1 hA, va_Zqof (ht _ (tw_2 50 rfl)) (ht _ (tw_1 3 rfl)) w2 hA, xL.of (ht _ (tw_2 48 rfl)) hA, xL.of (ht _ (tw_2 50 rfl)) hA, va_Nw.of rfl (ht _ (tw_2 25 rfl)), va_Nw.of rfl (ht _ (tw_2 27 rfl)), va_Nw.of rfl (ht _ (tw_2 29 rfl))⟩
theorem st_xN {a : Array Value} {s : State} (hn : narrow_1.before a s = true) (ht : ∀ w ∈ lw_tbl, w.before a s = true) : xN s := by
  obtain ⟨n1, n2, n3, n4⟩ := ns_all hn
  have w1 : (Cond.not (.castable "java/lang/IllegalArgumentException" "java/lang/IndexOutOfBoundsException")).before a s = true := n2 _ (List.mem_cons_of_mem _ (List.mem_cons_of_mem _ (List.mem_cons_of_mem _ (List.mem_cons_self ..))))
  exact ⟨va_Nw.of rfl (ht _ (tw_2 23 rfl)), va_Nw.of rfl (ht _ (tw_2 90 rfl)), va_Nw.of rfl (ht _ (tw_2 114 rfl)), va_Nc.of w1⟩
