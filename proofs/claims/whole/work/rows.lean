section
-- ===== PART A: goes FIRST, ahead of the names: the tables' words, and 'selects' of the private methods out of them =====
/-- a private method of a class that the tables say can be made, by its rows of tables_1 -/
def lw_okq (q : MethodName × Nat) : Prop := (q.1.cls ≠ "java/lang/invoke/MethodHandle" ∧ q.1.cls ≠ "java/lang/invoke/VarHandle") ∧ Cond.instantiable q.1.cls q.2 ∈ tables_1 ∧ Cond.privateMethod q.1 ∈ tables_1 ∧ Cond.instanceMethod q.1 ∈ tables_1
theorem lw_p0 : lw_okq (⟨"CodeWords$Kind", "placeOf", "(I)I"⟩, 17) := ⟨⟨by decide +kernel, by decide +kernel⟩, List.mem_of_getElem? (i := 55) (by decide +kernel), List.mem_of_getElem? (i := 53) (by decide +kernel), List.mem_of_getElem? (i := 54) (by decide +kernel)⟩
theorem lw_p1 : lw_okq (⟨"CodeWords$Kind", "isNarrow", "(I)Z"⟩, 17) := ⟨⟨by decide +kernel, by decide +kernel⟩, List.mem_of_getElem? (i := 55) (by decide +kernel), List.mem_of_getElem? (i := 58) (by decide +kernel), List.mem_of_getElem? (i := 59) (by decide +kernel)⟩
theorem lw_p2 : lw_okq (⟨"CodeWords$Kind", "is", "(I)Z"⟩, 17) := ⟨⟨by decide +kernel, by decide +kernel⟩, List.mem_of_getElem? (i := 55) (by decide +kernel), List.mem_of_getElem? (i := 117) (by decide +kernel), List.mem_of_getElem? (i := 118) (by decide +kernel)⟩
theorem lw_p3 : lw_okq (⟨"CodeWords$Kind", "allowsRegister", "(II)Z"⟩, 17) := ⟨⟨by decide +kernel, by decide +kernel⟩, List.mem_of_getElem? (i := 55) (by decide +kernel), List.mem_of_getElem? (i := 126) (by decide +kernel), List.mem_of_getElem? (i := 127) (by decide +kernel)⟩
theorem lw_p4 : lw_okq (⟨"CodeWords$Kind", "registerBits", "(II)I"⟩, 17) := ⟨⟨by decide +kernel, by decide +kernel⟩, List.mem_of_getElem? (i := 55) (by decide +kernel), List.mem_of_getElem? (i := 160) (by decide +kernel), List.mem_of_getElem? (i := 161) (by decide +kernel)⟩
theorem lw_p5 : lw_okq (⟨"CodeWords$Kind", "immediateBits", "(I)I"⟩, 17) := ⟨⟨by decide +kernel, by decide +kernel⟩, List.mem_of_getElem? (i := 55) (by decide +kernel), List.mem_of_getElem? (i := 164) (by decide +kernel), List.mem_of_getElem? (i := 165) (by decide +kernel)⟩
theorem lw_p6 : lw_okq (⟨"CodeWords", "writeIllegal", "(I)V"⟩, 2) := ⟨⟨by decide +kernel, by decide +kernel⟩, List.mem_of_getElem? (i := 16) (by decide +kernel), List.mem_of_getElem? (i := 190) (by decide +kernel), List.mem_of_getElem? (i := 191) (by decide +kernel)⟩
theorem lw_p7 : lw_okq (⟨"CodeWords", "writeString", "(Ljava/lang/String;)V"⟩, 2) := ⟨⟨by decide +kernel, by decide +kernel⟩, List.mem_of_getElem? (i := 16) (by decide +kernel), List.mem_of_getElem? (i := 195) (by decide +kernel), List.mem_of_getElem? (i := 196) (by decide +kernel)⟩
theorem lw_p8 : lw_okq (⟨"CodeWords", "write", "(C)V"⟩, 2) := ⟨⟨by decide +kernel, by decide +kernel⟩, List.mem_of_getElem? (i := 16) (by decide +kernel), List.mem_of_getElem? (i := 199) (by decide +kernel), List.mem_of_getElem? (i := 200) (by decide +kernel)⟩
theorem lw_p9 : lw_okq (⟨"CodeWords", "writeHex", "(I)V"⟩, 2) := ⟨⟨by decide +kernel, by decide +kernel⟩, List.mem_of_getElem? (i := 16) (by decide +kernel), List.mem_of_getElem? (i := 203) (by decide +kernel), List.mem_of_getElem? (i := 204) (by decide +kernel)⟩
theorem lw_p10 : lw_okq (⟨"CodeWords", "writeLegal", "(LCodeWords$Kind;II)V"⟩, 2) := ⟨⟨by decide +kernel, by decide +kernel⟩, List.mem_of_getElem? (i := 16) (by decide +kernel), List.mem_of_getElem? (i := 210) (by decide +kernel), List.mem_of_getElem? (i := 211) (by decide +kernel)⟩
theorem lw_p11 : lw_okq (⟨"CodeWords", "writeOperand", "(ILCodeWords$Kind;II)V"⟩, 2) := ⟨⟨by decide +kernel, by decide +kernel⟩, List.mem_of_getElem? (i := 16) (by decide +kernel), List.mem_of_getElem? (i := 220) (by decide +kernel), List.mem_of_getElem? (i := 221) (by decide +kernel)⟩
theorem lw_p12 : lw_okq (⟨"CodeWords", "writeRegister", "(I)V"⟩, 2) := ⟨⟨by decide +kernel, by decide +kernel⟩, List.mem_of_getElem? (i := 16) (by decide +kernel), List.mem_of_getElem? (i := 224) (by decide +kernel), List.mem_of_getElem? (i := 225) (by decide +kernel)⟩
theorem lw_p13 : lw_okq (⟨"CodeWords", "writeDecimal", "(I)V"⟩, 2) := ⟨⟨by decide +kernel, by decide +kernel⟩, List.mem_of_getElem? (i := 16) (by decide +kernel), List.mem_of_getElem? (i := 229) (by decide +kernel), List.mem_of_getElem? (i := 230) (by decide +kernel)⟩
theorem lw_p14 : lw_okq (⟨"CodeWords", "writeOffset", "(II)V"⟩, 2) := ⟨⟨by decide +kernel, by decide +kernel⟩, List.mem_of_getElem? (i := 16) (by decide +kernel), List.mem_of_getElem? (i := 233) (by decide +kernel), List.mem_of_getElem? (i := 234) (by decide +kernel)⟩
theorem lw_p15 : lw_okq (⟨"java/lang/Throwable", "fillInStackTrace", "(I)Ljava/lang/Throwable;"⟩, 6) := ⟨⟨by decide +kernel, by decide +kernel⟩, List.mem_of_getElem? (i := 300) (by decide +kernel), List.mem_of_getElem? (i := 298) (by decide +kernel), List.mem_of_getElem? (i := 299) (by decide +kernel)⟩
def lw_privs_1 : List (MethodName × Nat) := [(⟨"CodeWords$Kind", "placeOf", "(I)I"⟩, 17), (⟨"CodeWords$Kind", "isNarrow", "(I)Z"⟩, 17), (⟨"CodeWords$Kind", "is", "(I)Z"⟩, 17), (⟨"CodeWords$Kind", "allowsRegister", "(II)Z"⟩, 17), (⟨"CodeWords$Kind", "registerBits", "(II)I"⟩, 17), (⟨"CodeWords$Kind", "immediateBits", "(I)I"⟩, 17), (⟨"CodeWords", "writeIllegal", "(I)V"⟩, 2), (⟨"CodeWords", "writeString", "(Ljava/lang/String;)V"⟩, 2), (⟨"CodeWords", "write", "(C)V"⟩, 2), (⟨"CodeWords", "writeHex", "(I)V"⟩, 2), (⟨"CodeWords", "writeLegal", "(LCodeWords$Kind;II)V"⟩, 2), (⟨"CodeWords", "writeOperand", "(ILCodeWords$Kind;II)V"⟩, 2), (⟨"CodeWords", "writeRegister", "(I)V"⟩, 2), (⟨"CodeWords", "writeDecimal", "(I)V"⟩, 2), (⟨"CodeWords", "writeOffset", "(II)V"⟩, 2), (⟨"java/lang/Throwable", "fillInStackTrace", "(I)Ljava/lang/Throwable;"⟩, 6)]
theorem lw_r1 : ∀ q ∈ lw_privs_1, lw_okq q := List.forall_mem_cons.mpr ⟨lw_p0, List.forall_mem_cons.mpr ⟨lw_p1, List.forall_mem_cons.mpr ⟨lw_p2, List.forall_mem_cons.mpr ⟨lw_p3, List.forall_mem_cons.mpr ⟨lw_p4, List.forall_mem_cons.mpr ⟨lw_p5, List.forall_mem_cons.mpr ⟨lw_p6, List.forall_mem_cons.mpr ⟨lw_p7, List.forall_mem_cons.mpr ⟨lw_p8, List.forall_mem_cons.mpr ⟨lw_p9, List.forall_mem_cons.mpr ⟨lw_p10, List.forall_mem_cons.mpr ⟨lw_p11, List.forall_mem_cons.mpr ⟨lw_p12, List.forall_mem_cons.mpr ⟨lw_p13, List.forall_mem_cons.mpr ⟨lw_p14, List.forall_mem_cons.mpr ⟨lw_p15, fun _ h => absurd h List.not_mem_nil⟩⟩⟩⟩⟩⟩⟩⟩⟩⟩⟩⟩⟩⟩⟩⟩
theorem lw_p16 : lw_okq (⟨"CodeWordsModel", "layLong", "(I)V"⟩, 6) := ⟨⟨by decide +kernel, by decide +kernel⟩, List.mem_of_getElem? (i := 386) (by decide +kernel), List.mem_of_getElem? (i := 392) (by decide +kernel), List.mem_of_getElem? (i := 393) (by decide +kernel)⟩
theorem lw_p17 : lw_okq (⟨"CodeWordsModel", "fix", "(IIII)V"⟩, 6) := ⟨⟨by decide +kernel, by decide +kernel⟩, List.mem_of_getElem? (i := 386) (by decide +kernel), List.mem_of_getElem? (i := 398) (by decide +kernel), List.mem_of_getElem? (i := 399) (by decide +kernel)⟩
theorem lw_p18 : lw_okq (⟨"CodeWordsModel", "lay", "(IIIII)V"⟩, 6) := ⟨⟨by decide +kernel, by decide +kernel⟩, List.mem_of_getElem? (i := 386) (by decide +kernel), List.mem_of_getElem? (i := 405) (by decide +kernel), List.mem_of_getElem? (i := 406) (by decide +kernel)⟩
theorem lw_p19 : lw_okq (⟨"CodeWordsModel", "layShort", "()V"⟩, 6) := ⟨⟨by decide +kernel, by decide +kernel⟩, List.mem_of_getElem? (i := 386) (by decide +kernel), List.mem_of_getElem? (i := 424) (by decide +kernel), List.mem_of_getElem? (i := 425) (by decide +kernel)⟩
theorem lw_p20 : lw_okq (⟨"CodeWordsModel", "ends", "(III)V"⟩, 6) := ⟨⟨by decide +kernel, by decide +kernel⟩, List.mem_of_getElem? (i := 386) (by decide +kernel), List.mem_of_getElem? (i := 428) (by decide +kernel), List.mem_of_getElem? (i := 429) (by decide +kernel)⟩
theorem lw_p21 : lw_okq (⟨"CodeWordsModel", "one", "(III)V"⟩, 6) := ⟨⟨by decide +kernel, by decide +kernel⟩, List.mem_of_getElem? (i := 386) (by decide +kernel), List.mem_of_getElem? (i := 432) (by decide +kernel), List.mem_of_getElem? (i := 433) (by decide +kernel)⟩
theorem lw_p22 : lw_okq (⟨"CodeWordsModel", "layJump", "(II)V"⟩, 6) := ⟨⟨by decide +kernel, by decide +kernel⟩, List.mem_of_getElem? (i := 386) (by decide +kernel), List.mem_of_getElem? (i := 436) (by decide +kernel), List.mem_of_getElem? (i := 437) (by decide +kernel)⟩
theorem lw_p23 : lw_okq (⟨"CodeWordsModel", "areGood", "(I)Z"⟩, 6) := ⟨⟨by decide +kernel, by decide +kernel⟩, List.mem_of_getElem? (i := 386) (by decide +kernel), List.mem_of_getElem? (i := 471) (by decide +kernel), List.mem_of_getElem? (i := 472) (by decide +kernel)⟩
theorem lw_p24 : lw_okq (⟨"CodeWordsModel", "has", "(II)Z"⟩, 6) := ⟨⟨by decide +kernel, by decide +kernel⟩, List.mem_of_getElem? (i := 386) (by decide +kernel), List.mem_of_getElem? (i := 475) (by decide +kernel), List.mem_of_getElem? (i := 476) (by decide +kernel)⟩
theorem lw_p25 : lw_okq (⟨"CodeWordsModel", "isRegister", "(III)Z"⟩, 6) := ⟨⟨by decide +kernel, by decide +kernel⟩, List.mem_of_getElem? (i := 386) (by decide +kernel), List.mem_of_getElem? (i := 482) (by decide +kernel), List.mem_of_getElem? (i := 483) (by decide +kernel)⟩
theorem lw_p26 : lw_okq (⟨"CodeWordsModel", "isShortPart", "(II)Z"⟩, 6) := ⟨⟨by decide +kernel, by decide +kernel⟩, List.mem_of_getElem? (i := 386) (by decide +kernel), List.mem_of_getElem? (i := 486) (by decide +kernel), List.mem_of_getElem? (i := 487) (by decide +kernel)⟩
theorem lw_p27 : lw_okq (⟨"CodeWordsModel", "put", "(I)I"⟩, 6) := ⟨⟨by decide +kernel, by decide +kernel⟩, List.mem_of_getElem? (i := 386) (by decide +kernel), List.mem_of_getElem? (i := 517) (by decide +kernel), List.mem_of_getElem? (i := 518) (by decide +kernel)⟩
theorem lw_p28 : lw_okq (⟨"CodeWordsModel", "find", "(I)I"⟩, 6) := ⟨⟨by decide +kernel, by decide +kernel⟩, List.mem_of_getElem? (i := 386) (by decide +kernel), List.mem_of_getElem? (i := 525) (by decide +kernel), List.mem_of_getElem? (i := 526) (by decide +kernel)⟩
theorem lw_p29 : lw_okq (⟨"CodeWordsModel", "take", "(II)Z"⟩, 6) := ⟨⟨by decide +kernel, by decide +kernel⟩, List.mem_of_getElem? (i := 386) (by decide +kernel), List.mem_of_getElem? (i := 532) (by decide +kernel), List.mem_of_getElem? (i := 533) (by decide +kernel)⟩
theorem lw_p30 : lw_okq (⟨"CodeWordsModel", "stretch", "(I)I"⟩, 6) := ⟨⟨by decide +kernel, by decide +kernel⟩, List.mem_of_getElem? (i := 386) (by decide +kernel), List.mem_of_getElem? (i := 552) (by decide +kernel), List.mem_of_getElem? (i := 553) (by decide +kernel)⟩
theorem lw_p31 : lw_okq (⟨"CodeWordsModel", "shrink", "(I)I"⟩, 6) := ⟨⟨by decide +kernel, by decide +kernel⟩, List.mem_of_getElem? (i := 386) (by decide +kernel), List.mem_of_getElem? (i := 563) (by decide +kernel), List.mem_of_getElem? (i := 564) (by decide +kernel)⟩
def lw_privs_2 : List (MethodName × Nat) := [(⟨"CodeWordsModel", "layLong", "(I)V"⟩, 6), (⟨"CodeWordsModel", "fix", "(IIII)V"⟩, 6), (⟨"CodeWordsModel", "lay", "(IIIII)V"⟩, 6), (⟨"CodeWordsModel", "layShort", "()V"⟩, 6), (⟨"CodeWordsModel", "ends", "(III)V"⟩, 6), (⟨"CodeWordsModel", "one", "(III)V"⟩, 6), (⟨"CodeWordsModel", "layJump", "(II)V"⟩, 6), (⟨"CodeWordsModel", "areGood", "(I)Z"⟩, 6), (⟨"CodeWordsModel", "has", "(II)Z"⟩, 6), (⟨"CodeWordsModel", "isRegister", "(III)Z"⟩, 6), (⟨"CodeWordsModel", "isShortPart", "(II)Z"⟩, 6), (⟨"CodeWordsModel", "put", "(I)I"⟩, 6), (⟨"CodeWordsModel", "find", "(I)I"⟩, 6), (⟨"CodeWordsModel", "take", "(II)Z"⟩, 6), (⟨"CodeWordsModel", "stretch", "(I)I"⟩, 6), (⟨"CodeWordsModel", "shrink", "(I)I"⟩, 6)]
theorem lw_r2 : ∀ q ∈ lw_privs_2, lw_okq q := List.forall_mem_cons.mpr ⟨lw_p16, List.forall_mem_cons.mpr ⟨lw_p17, List.forall_mem_cons.mpr ⟨lw_p18, List.forall_mem_cons.mpr ⟨lw_p19, List.forall_mem_cons.mpr ⟨lw_p20, List.forall_mem_cons.mpr ⟨lw_p21, List.forall_mem_cons.mpr ⟨lw_p22, List.forall_mem_cons.mpr ⟨lw_p23, List.forall_mem_cons.mpr ⟨lw_p24, List.forall_mem_cons.mpr ⟨lw_p25, List.forall_mem_cons.mpr ⟨lw_p26, List.forall_mem_cons.mpr ⟨lw_p27, List.forall_mem_cons.mpr ⟨lw_p28, List.forall_mem_cons.mpr ⟨lw_p29, List.forall_mem_cons.mpr ⟨lw_p30, List.forall_mem_cons.mpr ⟨lw_p31, fun _ h => absurd h List.not_mem_nil⟩⟩⟩⟩⟩⟩⟩⟩⟩⟩⟩⟩⟩⟩⟩⟩
theorem lw_p32 : lw_okq (⟨"CodeWordsModel", "sayName", "(J)V"⟩, 6) := ⟨⟨by decide +kernel, by decide +kernel⟩, List.mem_of_getElem? (i := 386) (by decide +kernel), List.mem_of_getElem? (i := 657) (by decide +kernel), List.mem_of_getElem? (i := 658) (by decide +kernel)⟩
theorem lw_p33 : lw_okq (⟨"CodeWordsModel", "say", "(I)V"⟩, 6) := ⟨⟨by decide +kernel, by decide +kernel⟩, List.mem_of_getElem? (i := 386) (by decide +kernel), List.mem_of_getElem? (i := 665) (by decide +kernel), List.mem_of_getElem? (i := 666) (by decide +kernel)⟩
theorem lw_p34 : lw_okq (⟨"CodeWordsModel", "operands", "(II)V"⟩, 6) := ⟨⟨by decide +kernel, by decide +kernel⟩, List.mem_of_getElem? (i := 386) (by decide +kernel), List.mem_of_getElem? (i := 672) (by decide +kernel), List.mem_of_getElem? (i := 673) (by decide +kernel)⟩
theorem lw_p35 : lw_okq (⟨"CodeWordsModel", "register", "(I)V"⟩, 6) := ⟨⟨by decide +kernel, by decide +kernel⟩, List.mem_of_getElem? (i := 386) (by decide +kernel), List.mem_of_getElem? (i := 676) (by decide +kernel), List.mem_of_getElem? (i := 677) (by decide +kernel)⟩
theorem lw_p36 : lw_okq (⟨"CodeWordsModel", "ahead", "()V"⟩, 6) := ⟨⟨by decide +kernel, by decide +kernel⟩, List.mem_of_getElem? (i := 386) (by decide +kernel), List.mem_of_getElem? (i := 680) (by decide +kernel), List.mem_of_getElem? (i := 681) (by decide +kernel)⟩
theorem lw_p37 : lw_okq (⟨"CodeWordsModel", "offset", "(I)V"⟩, 6) := ⟨⟨by decide +kernel, by decide +kernel⟩, List.mem_of_getElem? (i := 386) (by decide +kernel), List.mem_of_getElem? (i := 719) (by decide +kernel), List.mem_of_getElem? (i := 720) (by decide +kernel)⟩
theorem lw_p38 : lw_okq (⟨"CodeWordsModel", "sayDecimal", "(I)V"⟩, 6) := ⟨⟨by decide +kernel, by decide +kernel⟩, List.mem_of_getElem? (i := 386) (by decide +kernel), List.mem_of_getElem? (i := 723) (by decide +kernel), List.mem_of_getElem? (i := 724) (by decide +kernel)⟩
theorem lw_p39 : lw_okq (⟨"CodeWordsModel", "number", "()V"⟩, 6) := ⟨⟨by decide +kernel, by decide +kernel⟩, List.mem_of_getElem? (i := 386) (by decide +kernel), List.mem_of_getElem? (i := 729) (by decide +kernel), List.mem_of_getElem? (i := 730) (by decide +kernel)⟩
theorem lw_p40 : lw_okq (⟨"CodeWordsModel", "place", "(I)V"⟩, 6) := ⟨⟨by decide +kernel, by decide +kernel⟩, List.mem_of_getElem? (i := 386) (by decide +kernel), List.mem_of_getElem? (i := 733) (by decide +kernel), List.mem_of_getElem? (i := 734) (by decide +kernel)⟩
theorem lw_p41 : lw_okq (⟨"CodeWordsModel", "sayHexadecimal", "(I)V"⟩, 6) := ⟨⟨by decide +kernel, by decide +kernel⟩, List.mem_of_getElem? (i := 386) (by decide +kernel), List.mem_of_getElem? (i := 737) (by decide +kernel), List.mem_of_getElem? (i := 738) (by decide +kernel)⟩
def lw_privs_3 : List (MethodName × Nat) := [(⟨"CodeWordsModel", "sayName", "(J)V"⟩, 6), (⟨"CodeWordsModel", "say", "(I)V"⟩, 6), (⟨"CodeWordsModel", "operands", "(II)V"⟩, 6), (⟨"CodeWordsModel", "register", "(I)V"⟩, 6), (⟨"CodeWordsModel", "ahead", "()V"⟩, 6), (⟨"CodeWordsModel", "offset", "(I)V"⟩, 6), (⟨"CodeWordsModel", "sayDecimal", "(I)V"⟩, 6), (⟨"CodeWordsModel", "number", "()V"⟩, 6), (⟨"CodeWordsModel", "place", "(I)V"⟩, 6), (⟨"CodeWordsModel", "sayHexadecimal", "(I)V"⟩, 6)]
theorem lw_r3 : ∀ q ∈ lw_privs_3, lw_okq q := List.forall_mem_cons.mpr ⟨lw_p32, List.forall_mem_cons.mpr ⟨lw_p33, List.forall_mem_cons.mpr ⟨lw_p34, List.forall_mem_cons.mpr ⟨lw_p35, List.forall_mem_cons.mpr ⟨lw_p36, List.forall_mem_cons.mpr ⟨lw_p37, List.forall_mem_cons.mpr ⟨lw_p38, List.forall_mem_cons.mpr ⟨lw_p39, List.forall_mem_cons.mpr ⟨lw_p40, List.forall_mem_cons.mpr ⟨lw_p41, fun _ h => absurd h List.not_mem_nil⟩⟩⟩⟩⟩⟩⟩⟩⟩⟩
def lw_privs : List (MethodName × Nat) := lw_privs_1 ++ (lw_privs_2 ++ (lw_privs_3))
def lw_tbl : List Cond := k2_sels lw_privs ++ tables_1
theorem lw_privs_ok : ∀ q ∈ lw_privs, lw_okq q := by
  show ∀ q ∈ lw_privs_1 ++ (lw_privs_2 ++ (lw_privs_3)), lw_okq q
  exact List.forall_mem_append.mpr ⟨lw_r1, List.forall_mem_append.mpr ⟨lw_r2, lw_r3⟩⟩
/-- the words that a method may take along to its callees -/
def aw : List Cond := lw_tbl.filter goodWord
theorem aw_in (i : Nat) {w : Cond} (h : lw_tbl[i]? = some w) (g : goodWord w = true) : w ∈ aw := List.mem_filter.mpr ⟨List.mem_of_getElem? h, g⟩
theorem awl_p {w : Cond} (i : Nat) (h : (k2_sels lw_privs)[i]? = some w) (g : goodWord w = true) : w ∈ aw := List.mem_filter.mpr ⟨List.mem_append_left _ (List.mem_of_getElem? h), g⟩
theorem awl_1 {w : Cond} (i : Nat) (h : tables_1_1[i]? = some w) (g : goodWord w = true) : w ∈ aw := List.mem_filter.mpr ⟨List.mem_append_right _ (List.mem_append_left _ (List.mem_of_getElem? h)), g⟩
theorem awl_2 {w : Cond} (i : Nat) (h : tables_1_2[i]? = some w) (g : goodWord w = true) : w ∈ aw := List.mem_filter.mpr ⟨List.mem_append_right _ (List.mem_append_right _ (List.mem_append_left _ (List.mem_of_getElem? h))), g⟩
theorem awl_3 {w : Cond} (i : Nat) (h : tables_1_3[i]? = some w) (g : goodWord w = true) : w ∈ aw := List.mem_filter.mpr ⟨List.mem_append_right _ (List.mem_append_right _ (List.mem_append_right _ (List.mem_append_left _ (List.mem_of_getElem? h)))), g⟩
theorem awl_4 {w : Cond} (i : Nat) (h : tables_1_4[i]? = some w) (g : goodWord w = true) : w ∈ aw := List.mem_filter.mpr ⟨List.mem_append_right _ (List.mem_append_right _ (List.mem_append_right _ (List.mem_append_right _ (List.mem_append_left _ (List.mem_of_getElem? h))))), g⟩
theorem awl_5 {w : Cond} (i : Nat) (h : tables_1_5[i]? = some w) (g : goodWord w = true) : w ∈ aw := List.mem_filter.mpr ⟨List.mem_append_right _ (List.mem_append_right _ (List.mem_append_right _ (List.mem_append_right _ (List.mem_append_right _ (List.mem_of_getElem? h))))), g⟩
theorem aw_good {w : Cond} (h : w ∈ aw) : (w.onTables && w.keeps) = true ∨ ∃ ty, w = .arrayClass ty := good_of_word (List.mem_filter.mp h).2
theorem aw_tbl {w : Cond} (h : w ∈ aw) : w ∈ lw_tbl := (List.mem_filter.mp h).1
theorem aw_sub {c0 : Cond} {ws : List Cond} (h : ∀ w ∈ ws, w ∈ aw) : GoodIn (c0 :: aw) ws := fun w hw => ⟨List.mem_cons_of_mem _ (h w hw), aw_good (h w hw)⟩
theorem aw_V {c0 cy : Cond} {own C : String} {idx : Nat} {y : MethodName} (h1 : Cond.methodLink own idx y ∈ aw) (h2 : Cond.instanceMethod y ∈ aw) (h3 : Cond.selects C y y ∈ aw) (h4 : Cond.initialized C ∈ aw) (h5 : cy ∈ aw) : GoodIn (c0 :: aw) (wsV own idx C y (cy :: aw)) := by
  refine aw_sub (fun w hw => ?_)
  simp only [wsV, List.cons_append, List.nil_append, List.mem_cons] at hw
  rcases hw with rfl | rfl | rfl | rfl | rfl | hw
  · exact h1
  · exact h2
  · exact h3
  · exact h4
  · exact h5
  · exact hw
theorem aw_S {c0 cy : Cond} {own : String} {idx : Nat} {y : MethodName} (h1 : Cond.methodLink own idx y ∈ aw) (h2 : Cond.static y ∈ aw) (h4 : Cond.initialized y.cls ∈ aw) (h5 : cy ∈ aw) : GoodIn (c0 :: aw) (va_wsS own idx y (cy :: aw)) := by
  refine aw_sub (fun w hw => ?_)
  simp only [va_wsS, List.cons_append, List.nil_append, List.mem_cons] at hw
  rcases hw with rfl | rfl | rfl | rfl | hw
  · exact h1
  · exact h2
  · exact h4
  · exact h5
  · exact hw
theorem aw_C {c0 cy : Cond} (h5 : cy ∈ aw) : GoodIn (c0 :: aw) (cy :: aw) := by
  refine aw_sub (fun w hw => ?_)
  rcases List.mem_cons.mp hw with rfl | hw
  · exact h5
  · exact hw
end
section
abbrev b_C_init : ByteArray := prog_1_method_1_code
def y_C_init : MethodName := ⟨"CodeWords", "<init>", "()V"⟩
abbrev b_C_kind : ByteArray := prog_1_method_3_code
def y_C_kind : MethodName := ⟨"CodeWords", "kind", "(I)I"⟩
abbrev b_C_numberOf : ByteArray := prog_1_method_16_code
def y_C_numberOf : MethodName := ⟨"CodeWords", "numberOf", "(I)I"⟩
abbrev b_K_admits : ByteArray := prog_2_method_11_code
def y_K_admits : MethodName := ⟨"CodeWords$Kind", "admits", "(I)Z"⟩
abbrev b_K_register : ByteArray := prog_2_method_15_code
def y_K_register : MethodName := ⟨"CodeWords$Kind", "register", "(II)I"⟩
abbrev b_K_has : ByteArray := prog_2_method_7_code
def y_K_has : MethodName := ⟨"CodeWords$Kind", "has", "(I)Z"⟩
abbrev b_K_placeOf : ByteArray := prog_2_method_9_code
def y_K_placeOf : MethodName := ⟨"CodeWords$Kind", "placeOf", "(I)I"⟩
abbrev b_K_isNarrow : ByteArray := prog_2_method_10_code
def y_K_isNarrow : MethodName := ⟨"CodeWords$Kind", "isNarrow", "(I)Z"⟩
abbrev b_S_length : ByteArray := prog_10_method_54_code
def y_S_length : MethodName := ⟨"java/lang/String", "length", "()I"⟩
abbrev b_S_coder : ByteArray := prog_10_method_152_code
def y_S_coder : MethodName := ⟨"java/lang/String", "coder", "()B"⟩
abbrev b_S_charAt : ByteArray := prog_10_method_56_code
def y_S_charAt : MethodName := ⟨"java/lang/String", "charAt", "(I)C"⟩
abbrev b_S_isLatin1 : ByteArray := prog_10_method_154_code
def y_S_isLatin1 : MethodName := ⟨"java/lang/String", "isLatin1", "()Z"⟩
abbrev b_S1_charAt : ByteArray := prog_11_method_2_code
def y_S1_charAt : MethodName := ⟨"java/lang/StringLatin1", "charAt", "([BI)C"⟩
abbrev b_S_checkIndex : ByteArray := prog_10_method_155_code
def y_S_checkIndex : MethodName := ⟨"java/lang/String", "checkIndex", "(II)V"⟩
abbrev b_Pq_checkIndex : ByteArray := prog_15_method_11_code
def y_Pq_checkIndex : MethodName := ⟨"jdk/internal/util/Preconditions", "checkIndex", "(IILjava/util/function/BiFunction;)I"⟩
abbrev b_S2_charAt : ByteArray := prog_12_method_83_code
def y_S2_charAt : MethodName := ⟨"java/lang/StringUTF16", "charAt", "([BI)C"⟩
abbrev b_S2_checkIndex : ByteArray := prog_12_method_91_code
def y_S2_checkIndex : MethodName := ⟨"java/lang/StringUTF16", "checkIndex", "(I[B)V"⟩
abbrev b_S2_length : ByteArray := prog_12_method_6_code
def y_S2_length : MethodName := ⟨"java/lang/StringUTF16", "length", "([B)I"⟩
abbrev b_S2_getChar : ByteArray := prog_12_method_5_code
def y_S2_getChar : MethodName := ⟨"java/lang/StringUTF16", "getChar", "([BI)C"⟩
abbrev b_K_partOf : ByteArray := prog_2_method_5_code
def y_K_partOf : MethodName := ⟨"CodeWords$Kind", "partOf", "(C)I"⟩
abbrev b_K_immediate : ByteArray := prog_2_method_16_code
def y_K_immediate : MethodName := ⟨"CodeWords$Kind", "immediate", "(I)I"⟩
abbrev b_K_is : ByteArray := prog_2_method_8_code
def y_K_is : MethodName := ⟨"CodeWords$Kind", "is", "(I)Z"⟩
abbrev b_K_allows : ByteArray := prog_2_method_12_code
def y_K_allows : MethodName := ⟨"CodeWords$Kind", "allows", "(IIII)Z"⟩
abbrev b_K_allowsRegister : ByteArray := prog_2_method_13_code
def y_K_allowsRegister : MethodName := ⟨"CodeWords$Kind", "allowsRegister", "(II)Z"⟩
abbrev b_K_allowsImmediate : ByteArray := prog_2_method_14_code
def y_K_allowsImmediate : MethodName := ⟨"CodeWords$Kind", "allowsImmediate", "(J)Z"⟩
abbrev b_C_size : ByteArray := prog_1_method_4_code
def y_C_size : MethodName := ⟨"CodeWords", "size", "(I)I"⟩
abbrev b_C_isLong : ByteArray := prog_1_method_15_code
def y_C_isLong : MethodName := ⟨"CodeWords", "isLong", "(I)Z"⟩
abbrev b_C_shorter : ByteArray := prog_1_method_7_code
def y_C_shorter : MethodName := ⟨"CodeWords", "shorter", "(I)I"⟩
abbrev b_C_shortOf : ByteArray := prog_1_method_20_code
def y_C_shortOf : MethodName := ⟨"CodeWords", "shortOf", "(IIIII)I"⟩
abbrev b_C_isKind : ByteArray := prog_1_method_14_code
def y_C_isKind : MethodName := ⟨"CodeWords", "isKind", "(I)Z"⟩
abbrev b_K_compose : ByteArray := prog_2_method_17_code
def y_K_compose : MethodName := ⟨"CodeWords$Kind", "compose", "(IIII)I"⟩
abbrev b_K_registerBits : ByteArray := prog_2_method_18_code
def y_K_registerBits : MethodName := ⟨"CodeWords$Kind", "registerBits", "(II)I"⟩
abbrev b_K_immediateBits : ByteArray := prog_2_method_19_code
def y_K_immediateBits : MethodName := ⟨"CodeWords$Kind", "immediateBits", "(I)I"⟩
abbrev b_C_longOf : ByteArray := prog_1_method_18_code
def y_C_longOf : MethodName := ⟨"CodeWords", "longOf", "(LCodeWords$Kind;IIII)I"⟩
abbrev b_C_slotRegister : ByteArray := prog_1_method_19_code
def y_C_slotRegister : MethodName := ⟨"CodeWords", "slotRegister", "(Ljava/lang/String;IIII)I"⟩
abbrev b_C_exchanges : ByteArray := prog_1_method_17_code
def y_C_exchanges : MethodName := ⟨"CodeWords", "exchanges", "(I)Z"⟩
abbrev b_C_may : ByteArray := prog_1_method_9_code
def y_C_may : MethodName := ⟨"CodeWords", "may", "(IJ)Z"⟩
abbrev b_C_tell : ByteArray := prog_1_method_10_code
def y_C_tell : MethodName := ⟨"CodeWords", "tell", "(II)I"⟩
abbrev b_C_writeIllegal : ByteArray := prog_1_method_22_code
def y_C_writeIllegal : MethodName := ⟨"CodeWords", "writeIllegal", "(I)V"⟩
abbrev b_C_writeString : ByteArray := prog_1_method_30_code
def y_C_writeString : MethodName := ⟨"CodeWords", "writeString", "(Ljava/lang/String;)V"⟩
abbrev b_C_write : ByteArray := prog_1_method_31_code
def y_C_write : MethodName := ⟨"CodeWords", "write", "(C)V"⟩
abbrev b_C_writeHex : ByteArray := prog_1_method_29_code
def y_C_writeHex : MethodName := ⟨"CodeWords", "writeHex", "(I)V"⟩
abbrev b_C_writeLegal : ByteArray := prog_1_method_23_code
def y_C_writeLegal : MethodName := ⟨"CodeWords", "writeLegal", "(LCodeWords$Kind;II)V"⟩
abbrev b_C_operandAt : ByteArray := prog_1_method_24_code
def y_C_operandAt : MethodName := ⟨"CodeWords", "operandAt", "(I)C"⟩
abbrev b_C_writeOperand : ByteArray := prog_1_method_25_code
def y_C_writeOperand : MethodName := ⟨"CodeWords", "writeOperand", "(ILCodeWords$Kind;II)V"⟩
abbrev b_C_writeRegister : ByteArray := prog_1_method_27_code
def y_C_writeRegister : MethodName := ⟨"CodeWords", "writeRegister", "(I)V"⟩
abbrev b_C_writeDecimal : ByteArray := prog_1_method_28_code
def y_C_writeDecimal : MethodName := ⟨"CodeWords", "writeDecimal", "(I)V"⟩
abbrev b_C_writeOffset : ByteArray := prog_1_method_26_code
def y_C_writeOffset : MethodName := ⟨"CodeWords", "writeOffset", "(II)V"⟩
abbrev b_C_letter : ByteArray := prog_1_method_11_code
def y_C_letter : MethodName := ⟨"CodeWords", "letter", "(I)I"⟩
abbrev b_C_named : ByteArray := prog_1_method_12_code
def y_C_named : MethodName := ⟨"CodeWords", "named", "(JJ)I"⟩
abbrev b_C_spells : ByteArray := prog_1_method_21_code
def y_C_spells : MethodName := ⟨"CodeWords", "spells", "(Ljava/lang/String;JJ)Z"⟩
abbrev b_C_about : ByteArray := prog_1_method_13_code
def y_C_about : MethodName := ⟨"CodeWords", "about", "(II)I"⟩
abbrev b_L_word : ByteArray := method_3_code
def y_L_word : MethodName := ⟨"CodeWordsLaw", "word", "(LCodeWords;IIIII[J)I"⟩
abbrev b_C_word : ByteArray := prog_1_method_2_code
def y_C_word : MethodName := ⟨"CodeWords", "word", "(IIIII)I"⟩
abbrev b_L_part : ByteArray := method_4_code
def y_L_part : MethodName := ⟨"CodeWordsLaw", "part", "(LCodeWords;II[J)I"⟩
abbrev b_C_part : ByteArray := prog_1_method_5_code
def y_C_part : MethodName := ⟨"CodeWords", "part", "(II)I"⟩
abbrev b_L_longer : ByteArray := method_5_code
def y_L_longer : MethodName := ⟨"CodeWordsLaw", "longer", "(LCodeWords;I[J)I"⟩
abbrev b_C_longer : ByteArray := prog_1_method_6_code
def y_C_longer : MethodName := ⟨"CodeWords", "longer", "(I)I"⟩
abbrev b_L_fit : ByteArray := method_6_code
def y_L_fit : MethodName := ⟨"CodeWordsLaw", "fit", "(LCodeWords;IJ[J)I"⟩
abbrev b_C_fit : ByteArray := prog_1_method_8_code
def y_C_fit : MethodName := ⟨"CodeWords", "fit", "(IJ)I"⟩
abbrev b_M_init : ByteArray := prog_4_method_1_code
def y_M_init : MethodName := ⟨"CodeWordsModel", "<init>", "()V"⟩
abbrev b_M_layLong : ByteArray := prog_4_method_11_code
def y_M_layLong : MethodName := ⟨"CodeWordsModel", "layLong", "(I)V"⟩
abbrev b_M_fix : ByteArray := prog_4_method_4_code
def y_M_fix : MethodName := ⟨"CodeWordsModel", "fix", "(IIII)V"⟩
abbrev b_M_opcodeOf : ByteArray := prog_4_method_5_code
def y_M_opcodeOf : MethodName := ⟨"CodeWordsModel", "opcodeOf", "(I)I"⟩
abbrev b_M_lay : ByteArray := prog_4_method_3_code
def y_M_lay : MethodName := ⟨"CodeWordsModel", "lay", "(IIIII)V"⟩
abbrev b_M_thirdOf : ByteArray := prog_4_method_6_code
def y_M_thirdOf : MethodName := ⟨"CodeWordsModel", "thirdOf", "(I)I"⟩
abbrev b_M_isBranch : ByteArray := prog_4_method_8_code
def y_M_isBranch : MethodName := ⟨"CodeWordsModel", "isBranch", "(I)Z"⟩
abbrev b_M_isStore : ByteArray := prog_4_method_9_code
def y_M_isStore : MethodName := ⟨"CodeWordsModel", "isStore", "(I)Z"⟩
abbrev b_M_seventhOf : ByteArray := prog_4_method_7_code
def y_M_seventhOf : MethodName := ⟨"CodeWordsModel", "seventhOf", "(I)I"⟩
abbrev b_M_isShift : ByteArray := prog_4_method_10_code
def y_M_isShift : MethodName := ⟨"CodeWordsModel", "isShift", "(I)Z"⟩
abbrev b_M_layShort : ByteArray := prog_4_method_14_code
def y_M_layShort : MethodName := ⟨"CodeWordsModel", "layShort", "()V"⟩
abbrev b_M_ends : ByteArray := prog_4_method_13_code
def y_M_ends : MethodName := ⟨"CodeWordsModel", "ends", "(III)V"⟩
abbrev b_M_one : ByteArray := prog_4_method_12_code
def y_M_one : MethodName := ⟨"CodeWordsModel", "one", "(III)V"⟩
abbrev b_M_layJump : ByteArray := prog_4_method_15_code
def y_M_layJump : MethodName := ⟨"CodeWordsModel", "layJump", "(II)V"⟩
abbrev b_M_thrown : ByteArray := prog_4_method_2_code
def y_M_thrown : MethodName := ⟨"CodeWordsModel", "thrown", "()I"⟩
abbrev b_M_word : ByteArray := prog_4_method_29_code
def y_M_word : MethodName := ⟨"CodeWordsModel", "word", "(IIIII)I"⟩
abbrev b_M_isKind : ByteArray := prog_4_method_16_code
def y_M_isKind : MethodName := ⟨"CodeWordsModel", "isKind", "(I)Z"⟩
abbrev b_M_areGood : ByteArray := prog_4_method_24_code
def y_M_areGood : MethodName := ⟨"CodeWordsModel", "areGood", "(I)Z"⟩
abbrev b_M_has : ByteArray := prog_4_method_18_code
def y_M_has : MethodName := ⟨"CodeWordsModel", "has", "(II)Z"⟩
abbrev b_M_bitsOf : ByteArray := prog_4_method_17_code
def y_M_bitsOf : MethodName := ⟨"CodeWordsModel", "bitsOf", "(I)I"⟩
abbrev b_M_isRegister : ByteArray := prog_4_method_20_code
def y_M_isRegister : MethodName := ⟨"CodeWordsModel", "isRegister", "(III)Z"⟩
abbrev b_M_isShortPart : ByteArray := prog_4_method_19_code
def y_M_isShortPart : MethodName := ⟨"CodeWordsModel", "isShortPart", "(II)Z"⟩
abbrev b_M_isImmediate : ByteArray := prog_4_method_22_code
def y_M_isImmediate : MethodName := ⟨"CodeWordsModel", "isImmediate", "(IJ)Z"⟩
abbrev b_M_isStep : ByteArray := prog_4_method_21_code
def y_M_isStep : MethodName := ⟨"CodeWordsModel", "isStep", "(JJJJ)Z"⟩
abbrev b_M_put : ByteArray := prog_4_method_25_code
def y_M_put : MethodName := ⟨"CodeWordsModel", "put", "(I)I"⟩
abbrev b_M_kind : ByteArray := prog_4_method_30_code
def y_M_kind : MethodName := ⟨"CodeWordsModel", "kind", "(I)I"⟩
abbrev b_M_find : ByteArray := prog_4_method_28_code
def y_M_find : MethodName := ⟨"CodeWordsModel", "find", "(I)I"⟩
abbrev b_M_isLong : ByteArray := prog_4_method_27_code
def y_M_isLong : MethodName := ⟨"CodeWordsModel", "isLong", "(I)Z"⟩
abbrev b_M_take : ByteArray := prog_4_method_26_code
def y_M_take : MethodName := ⟨"CodeWordsModel", "take", "(II)Z"⟩
abbrev b_M_signOf : ByteArray := prog_4_method_23_code
def y_M_signOf : MethodName := ⟨"CodeWordsModel", "signOf", "(I)I"⟩
abbrev b_M_size : ByteArray := prog_4_method_31_code
def y_M_size : MethodName := ⟨"CodeWordsModel", "size", "(I)I"⟩
abbrev b_M_part : ByteArray := prog_4_method_32_code
def y_M_part : MethodName := ⟨"CodeWordsModel", "part", "(II)I"⟩
abbrev b_M_longer : ByteArray := prog_4_method_35_code
def y_M_longer : MethodName := ⟨"CodeWordsModel", "longer", "(I)I"⟩
abbrev b_M_stretch : ByteArray := prog_4_method_34_code
def y_M_stretch : MethodName := ⟨"CodeWordsModel", "stretch", "(I)I"⟩
abbrev b_M_longKind : ByteArray := prog_4_method_33_code
def y_M_longKind : MethodName := ⟨"CodeWordsModel", "longKind", "(I)I"⟩
abbrev b_M_shorter : ByteArray := prog_4_method_37_code
def y_M_shorter : MethodName := ⟨"CodeWordsModel", "shorter", "(I)I"⟩
abbrev b_M_shrink : ByteArray := prog_4_method_36_code
def y_M_shrink : MethodName := ⟨"CodeWordsModel", "shrink", "(I)I"⟩
abbrev b_M_may : ByteArray := prog_4_method_38_code
def y_M_may : MethodName := ⟨"CodeWordsModel", "may", "(IJ)Z"⟩
abbrev b_M_fit : ByteArray := prog_4_method_39_code
def y_M_fit : MethodName := ⟨"CodeWordsModel", "fit", "(IJ)I"⟩
abbrev b_M_tell : ByteArray := prog_4_method_54_code
def y_M_tell : MethodName := ⟨"CodeWordsModel", "tell", "(II)I"⟩
abbrev b_M_nameOf : ByteArray := prog_4_method_40_code
def y_M_nameOf : MethodName := ⟨"CodeWordsModel", "nameOf", "(I)J"⟩
abbrev b_M_sayName : ByteArray := prog_4_method_44_code
def y_M_sayName : MethodName := ⟨"CodeWordsModel", "sayName", "(J)V"⟩
abbrev b_M_lettersOf : ByteArray := prog_4_method_42_code
def y_M_lettersOf : MethodName := ⟨"CodeWordsModel", "lettersOf", "(J)I"⟩
abbrev b_M_say : ByteArray := prog_4_method_43_code
def y_M_say : MethodName := ⟨"CodeWordsModel", "say", "(I)V"⟩
abbrev b_M_patternOf : ByteArray := prog_4_method_47_code
def y_M_patternOf : MethodName := ⟨"CodeWordsModel", "patternOf", "(I)I"⟩
abbrev b_M_operands : ByteArray := prog_4_method_53_code
def y_M_operands : MethodName := ⟨"CodeWordsModel", "operands", "(II)V"⟩
abbrev b_M_register : ByteArray := prog_4_method_49_code
def y_M_register : MethodName := ⟨"CodeWordsModel", "register", "(I)V"⟩
abbrev b_M_ahead : ByteArray := prog_4_method_48_code
def y_M_ahead : MethodName := ⟨"CodeWordsModel", "ahead", "()V"⟩
abbrev b_M_registerOf : ByteArray := prog_4_method_41_code
def y_M_registerOf : MethodName := ⟨"CodeWordsModel", "registerOf", "(I)J"⟩
abbrev b_M_offset : ByteArray := prog_4_method_50_code
def y_M_offset : MethodName := ⟨"CodeWordsModel", "offset", "(I)V"⟩
abbrev b_M_sayDecimal : ByteArray := prog_4_method_45_code
def y_M_sayDecimal : MethodName := ⟨"CodeWordsModel", "sayDecimal", "(I)V"⟩
abbrev b_M_number : ByteArray := prog_4_method_51_code
def y_M_number : MethodName := ⟨"CodeWordsModel", "number", "()V"⟩
abbrev b_M_place : ByteArray := prog_4_method_52_code
def y_M_place : MethodName := ⟨"CodeWordsModel", "place", "(I)V"⟩
abbrev b_M_sayHexadecimal : ByteArray := prog_4_method_46_code
def y_M_sayHexadecimal : MethodName := ⟨"CodeWordsModel", "sayHexadecimal", "(I)V"⟩
abbrev b_M_letter : ByteArray := prog_4_method_55_code
def y_M_letter : MethodName := ⟨"CodeWordsModel", "letter", "(I)I"⟩
abbrev b_M_named : ByteArray := prog_4_method_57_code
def y_M_named : MethodName := ⟨"CodeWordsModel", "named", "(JJ)I"⟩
abbrev b_M_codeOf : ByteArray := prog_4_method_56_code
def y_M_codeOf : MethodName := ⟨"CodeWordsModel", "codeOf", "(I)I"⟩
abbrev b_M_about : ByteArray := prog_4_method_58_code
def y_M_about : MethodName := ⟨"CodeWordsModel", "about", "(II)I"⟩
theorem aw_p0 : Cond.selects "CodeWords$Kind" y_K_placeOf y_K_placeOf ∈ aw := awl_p 0 rfl rfl
theorem aw_p1 : Cond.selects "CodeWords$Kind" y_K_isNarrow y_K_isNarrow ∈ aw := awl_p 1 rfl rfl
theorem aw_p2 : Cond.selects "CodeWords$Kind" y_K_is y_K_is ∈ aw := awl_p 2 rfl rfl
theorem aw_p3 : Cond.selects "CodeWords$Kind" y_K_allowsRegister y_K_allowsRegister ∈ aw := awl_p 3 rfl rfl
theorem aw_p4 : Cond.selects "CodeWords$Kind" y_K_registerBits y_K_registerBits ∈ aw := awl_p 4 rfl rfl
theorem aw_p5 : Cond.selects "CodeWords$Kind" y_K_immediateBits y_K_immediateBits ∈ aw := awl_p 5 rfl rfl
theorem aw_p6 : Cond.selects "CodeWords" y_C_writeIllegal y_C_writeIllegal ∈ aw := awl_p 6 rfl rfl
theorem aw_p7 : Cond.selects "CodeWords" y_C_writeString y_C_writeString ∈ aw := awl_p 7 rfl rfl
theorem aw_p8 : Cond.selects "CodeWords" y_C_write y_C_write ∈ aw := awl_p 8 rfl rfl
theorem aw_p9 : Cond.selects "CodeWords" y_C_writeHex y_C_writeHex ∈ aw := awl_p 9 rfl rfl
theorem aw_p10 : Cond.selects "CodeWords" y_C_writeLegal y_C_writeLegal ∈ aw := awl_p 10 rfl rfl
theorem aw_p11 : Cond.selects "CodeWords" y_C_writeOperand y_C_writeOperand ∈ aw := awl_p 11 rfl rfl
theorem aw_p12 : Cond.selects "CodeWords" y_C_writeRegister y_C_writeRegister ∈ aw := awl_p 12 rfl rfl
theorem aw_p13 : Cond.selects "CodeWords" y_C_writeDecimal y_C_writeDecimal ∈ aw := awl_p 13 rfl rfl
theorem aw_p14 : Cond.selects "CodeWords" y_C_writeOffset y_C_writeOffset ∈ aw := awl_p 14 rfl rfl
theorem aw_p16 : Cond.selects "CodeWordsModel" y_M_layLong y_M_layLong ∈ aw := awl_p 16 rfl rfl
theorem aw_p17 : Cond.selects "CodeWordsModel" y_M_fix y_M_fix ∈ aw := awl_p 17 rfl rfl
theorem aw_p18 : Cond.selects "CodeWordsModel" y_M_lay y_M_lay ∈ aw := awl_p 18 rfl rfl
theorem aw_p19 : Cond.selects "CodeWordsModel" y_M_layShort y_M_layShort ∈ aw := awl_p 19 rfl rfl
theorem aw_p20 : Cond.selects "CodeWordsModel" y_M_ends y_M_ends ∈ aw := awl_p 20 rfl rfl
theorem aw_p21 : Cond.selects "CodeWordsModel" y_M_one y_M_one ∈ aw := awl_p 21 rfl rfl
theorem aw_p22 : Cond.selects "CodeWordsModel" y_M_layJump y_M_layJump ∈ aw := awl_p 22 rfl rfl
theorem aw_p23 : Cond.selects "CodeWordsModel" y_M_areGood y_M_areGood ∈ aw := awl_p 23 rfl rfl
theorem aw_p24 : Cond.selects "CodeWordsModel" y_M_has y_M_has ∈ aw := awl_p 24 rfl rfl
theorem aw_p25 : Cond.selects "CodeWordsModel" y_M_isRegister y_M_isRegister ∈ aw := awl_p 25 rfl rfl
theorem aw_p26 : Cond.selects "CodeWordsModel" y_M_isShortPart y_M_isShortPart ∈ aw := awl_p 26 rfl rfl
theorem aw_p27 : Cond.selects "CodeWordsModel" y_M_put y_M_put ∈ aw := awl_p 27 rfl rfl
theorem aw_p28 : Cond.selects "CodeWordsModel" y_M_find y_M_find ∈ aw := awl_p 28 rfl rfl
theorem aw_p29 : Cond.selects "CodeWordsModel" y_M_take y_M_take ∈ aw := awl_p 29 rfl rfl
theorem aw_p30 : Cond.selects "CodeWordsModel" y_M_stretch y_M_stretch ∈ aw := awl_p 30 rfl rfl
theorem aw_p31 : Cond.selects "CodeWordsModel" y_M_shrink y_M_shrink ∈ aw := awl_p 31 rfl rfl
theorem aw_p32 : Cond.selects "CodeWordsModel" y_M_sayName y_M_sayName ∈ aw := awl_p 32 rfl rfl
theorem aw_p33 : Cond.selects "CodeWordsModel" y_M_say y_M_say ∈ aw := awl_p 33 rfl rfl
theorem aw_p34 : Cond.selects "CodeWordsModel" y_M_operands y_M_operands ∈ aw := awl_p 34 rfl rfl
theorem aw_p35 : Cond.selects "CodeWordsModel" y_M_register y_M_register ∈ aw := awl_p 35 rfl rfl
theorem aw_p36 : Cond.selects "CodeWordsModel" y_M_ahead y_M_ahead ∈ aw := awl_p 36 rfl rfl
theorem aw_p37 : Cond.selects "CodeWordsModel" y_M_offset y_M_offset ∈ aw := awl_p 37 rfl rfl
theorem aw_p38 : Cond.selects "CodeWordsModel" y_M_sayDecimal y_M_sayDecimal ∈ aw := awl_p 38 rfl rfl
theorem aw_p39 : Cond.selects "CodeWordsModel" y_M_number y_M_number ∈ aw := awl_p 39 rfl rfl
theorem aw_p40 : Cond.selects "CodeWordsModel" y_M_place y_M_place ∈ aw := awl_p 40 rfl rfl
theorem aw_p41 : Cond.selects "CodeWordsModel" y_M_sayHexadecimal y_M_sayHexadecimal ∈ aw := awl_p 41 rfl rfl
theorem aw_0 : Jvm.Cond.initialized "CodeWordsLaw" ∈ aw := awl_1 0 rfl rfl
theorem aw_1 : Jvm.Cond.initialized "CodeWords" ∈ aw := awl_1 1 rfl rfl
theorem aw_2 : Jvm.Cond.initialized "CodeWordsModel" ∈ aw := awl_1 2 rfl rfl
theorem aw_3 : Jvm.Cond.initialized "java/lang/Throwable" ∈ aw := awl_1 3 rfl rfl
theorem aw_4 : Jvm.Cond.initialized "java/lang/Exception" ∈ aw := awl_1 4 rfl rfl
theorem aw_5 : Jvm.Cond.initialized "java/lang/RuntimeException" ∈ aw := awl_1 5 rfl rfl
theorem aw_6 : Jvm.Cond.initialized "java/lang/IndexOutOfBoundsException" ∈ aw := awl_1 6 rfl rfl
theorem aw_7 : Jvm.Cond.initialized "java/lang/String" ∈ aw := awl_1 7 rfl rfl
theorem aw_8 : Jvm.Cond.initialized "java/lang/StringLatin1" ∈ aw := awl_1 8 rfl rfl
theorem aw_9 : Jvm.Cond.initialized "jdk/internal/util/Preconditions" ∈ aw := awl_1 9 rfl rfl
theorem aw_10 : Jvm.Cond.initialized "java/lang/StringUTF16" ∈ aw := awl_1 10 rfl rfl
theorem aw_11 : Jvm.Cond.initialized "java/lang/Enum" ∈ aw := awl_1 11 rfl rfl
theorem aw_12 : Jvm.Cond.initialized "CodeWords$Kind" ∈ aw := awl_1 12 rfl rfl
theorem aw_13 : Jvm.Cond.initialized "java/lang/IllegalArgumentException" ∈ aw := awl_1 13 rfl rfl
theorem aw_14 : Jvm.Cond.initialized "java/util/NoSuchElementException" ∈ aw := awl_1 14 rfl rfl
theorem aw_15 : Jvm.Cond.classLink "CodeWordsLaw" (8 : Nat) "CodeWords" ∈ aw := awl_1 15 rfl rfl
theorem aw_16 : Jvm.Cond.instantiable "CodeWords" (2 : Nat) ∈ aw := awl_1 16 rfl rfl
theorem aw_17 : Jvm.Cond.methodLink "CodeWordsLaw" (31 : Nat) y_C_init ∈ aw := awl_1 17 rfl rfl
theorem aw_18 : Jvm.Cond.instanceMethod y_C_init ∈ aw := awl_1 18 rfl rfl
theorem aw_19 : Jvm.Cond.code y_C_init b_C_init (1 : Nat) (Option.none : Option Jvm.ClassFile.FieldType) ∈ aw := awl_1 19 rfl rfl
theorem aw_20 : Jvm.Cond.methodLink "CodeWords" (1 : Nat) ({ cls := "java/lang/Object", name := "<init>", desc := "()V" } : Jvm.MethodName) ∈ aw := awl_1 20 rfl rfl
theorem aw_21 : Jvm.Cond.instanceMethod ({ cls := "java/lang/Object", name := "<init>", desc := "()V" } : Jvm.MethodName) ∈ aw := awl_1 21 rfl rfl
theorem aw_22 : Jvm.Cond.code ({ cls := "java/lang/Object", name := "<init>", desc := "()V" } : Jvm.MethodName) object_method_1_code (1 : Nat) (Option.none : Option Jvm.ClassFile.FieldType) ∈ aw := awl_1 22 rfl rfl
theorem aw_23 : Jvm.Cond.fieldLink "CodeWords" (9 : Nat) "CodeWords" "out" "[C" ∈ aw := awl_1 23 rfl rfl
theorem aw_24 : Jvm.Cond.fieldLink "CodeWords" (13 : Nat) "CodeWords" "outLength" "I" ∈ aw := awl_1 24 rfl rfl
theorem aw_25 : Jvm.Cond.laysFinal "CodeWords" "CodeWords" "out" "[C" ∈ aw := awl_1 25 rfl rfl
theorem aw_26 : Jvm.Cond.soleField "CodeWords" "out" ∈ aw := awl_1 26 rfl rfl
theorem aw_27 : Jvm.Cond.lays "CodeWords" "CodeWords" "outLength" "I" ∈ aw := awl_1 27 rfl rfl
theorem aw_28 : Jvm.Cond.soleField "CodeWords" "outLength" ∈ aw := awl_1 28 rfl rfl
theorem aw_29 : Jvm.Cond.superclass "CodeWords" "java/lang/Object" ∈ aw := awl_1 29 rfl rfl
theorem aw_30 : Jvm.Cond.arrayClass Jvm.ClassFile.FieldType.char ∈ aw := awl_1 30 rfl rfl
theorem aw_31 : Jvm.Cond.methodLink "CodeWordsLaw" (45 : Nat) y_C_kind ∈ aw := awl_1 31 rfl rfl
theorem aw_32 : Jvm.Cond.instanceMethod y_C_kind ∈ aw := awl_1 32 rfl rfl
theorem aw_33 : Jvm.Cond.selects "CodeWords" y_C_kind y_C_kind ∈ aw := awl_1 33 rfl rfl
theorem aw_34 : Jvm.Cond.code y_C_kind b_C_kind (2 : Nat) (Option.some Jvm.ClassFile.FieldType.int) ∈ aw := awl_1 34 rfl rfl
theorem aw_35 : Jvm.Cond.methodLink "CodeWords" (47 : Nat) y_C_numberOf ∈ aw := awl_1 35 rfl rfl
theorem aw_36 : Jvm.Cond.static y_C_numberOf ∈ aw := awl_1 36 rfl rfl
theorem aw_37 : Jvm.Cond.code y_C_numberOf b_C_numberOf (2 : Nat) (Option.some Jvm.ClassFile.FieldType.int) ∈ aw := awl_1 37 rfl rfl
theorem aw_38 : Jvm.Cond.fieldLink "CodeWords" (28 : Nat) "CodeWords" "KINDS" "[LCodeWords$Kind;" ∈ aw := awl_1 38 rfl rfl
theorem aw_40 : Jvm.Cond.methodLink "CodeWords" (124 : Nat) y_K_admits ∈ aw := awl_1 40 rfl rfl
theorem aw_41 : Jvm.Cond.instanceMethod y_K_admits ∈ aw := awl_1 41 rfl rfl
theorem aw_42 : Jvm.Cond.selects "CodeWords$Kind" y_K_admits y_K_admits ∈ aw := awl_1 42 rfl rfl
theorem aw_43 : Jvm.Cond.code y_K_admits b_K_admits (2 : Nat) (Option.some Jvm.ClassFile.FieldType.boolean) ∈ aw := awl_1 43 rfl rfl
theorem aw_44 : Jvm.Cond.methodLink "CodeWords$Kind" (330 : Nat) y_K_register ∈ aw := awl_1 44 rfl rfl
theorem aw_45 : Jvm.Cond.instanceMethod y_K_register ∈ aw := awl_1 45 rfl rfl
theorem aw_46 : Jvm.Cond.selects "CodeWords$Kind" y_K_register y_K_register ∈ aw := awl_1 46 rfl rfl
theorem aw_47 : Jvm.Cond.code y_K_register b_K_register (4 : Nat) (Option.some Jvm.ClassFile.FieldType.int) ∈ aw := awl_1 47 rfl rfl
theorem aw_48 : Jvm.Cond.methodLink "CodeWords$Kind" (344 : Nat) y_K_has ∈ aw := awl_1 48 rfl rfl
theorem aw_49 : Jvm.Cond.instanceMethod y_K_has ∈ aw := awl_1 49 rfl rfl
theorem aw_50 : Jvm.Cond.selects "CodeWords$Kind" y_K_has y_K_has ∈ aw := awl_1 50 rfl rfl
theorem aw_51 : Jvm.Cond.code y_K_has b_K_has (2 : Nat) (Option.some Jvm.ClassFile.FieldType.boolean) ∈ aw := awl_1 51 rfl rfl
theorem aw_52 : Jvm.Cond.methodLink "CodeWords$Kind" (326 : Nat) y_K_placeOf ∈ aw := awl_1 52 rfl rfl
theorem aw_54 : Jvm.Cond.instanceMethod y_K_placeOf ∈ aw := awl_1 54 rfl rfl
theorem aw_55 : Jvm.Cond.instantiable "CodeWords$Kind" (17 : Nat) ∈ aw := awl_1 55 rfl rfl
theorem aw_56 : Jvm.Cond.code y_K_placeOf b_K_placeOf (2 : Nat) (Option.some Jvm.ClassFile.FieldType.int) ∈ aw := awl_1 56 rfl rfl
theorem aw_57 : Jvm.Cond.methodLink "CodeWords$Kind" (352 : Nat) y_K_isNarrow ∈ aw := awl_1 57 rfl rfl
theorem aw_59 : Jvm.Cond.instanceMethod y_K_isNarrow ∈ aw := awl_1 59 rfl rfl
theorem aw_60 : Jvm.Cond.code y_K_isNarrow b_K_isNarrow (3 : Nat) (Option.some Jvm.ClassFile.FieldType.boolean) ∈ aw := awl_1 60 rfl rfl
theorem aw_61 : Jvm.Cond.methodLink "CodeWords$Kind" (275 : Nat) y_S_length ∈ aw := awl_1 61 rfl rfl
theorem aw_62 : Jvm.Cond.instanceMethod y_S_length ∈ aw := awl_1 62 rfl rfl
theorem aw_63 : Jvm.Cond.selects "java/lang/String" y_S_length y_S_length ∈ aw := awl_1 63 rfl rfl
theorem aw_64 : Jvm.Cond.code y_S_length b_S_length (1 : Nat) (Option.some Jvm.ClassFile.FieldType.int) ∈ aw := awl_1 64 rfl rfl
theorem aw_65 : Jvm.Cond.methodLink "java/lang/String" (335 : Nat) y_S_coder ∈ aw := awl_1 65 rfl rfl
theorem aw_66 : Jvm.Cond.instanceMethod y_S_coder ∈ aw := awl_1 66 rfl rfl
theorem aw_67 : Jvm.Cond.selects "java/lang/String" y_S_coder y_S_coder ∈ aw := awl_1 67 rfl rfl
theorem aw_68 : Jvm.Cond.code y_S_coder b_S_coder (1 : Nat) (Option.some Jvm.ClassFile.FieldType.byte) ∈ aw := awl_1 68 rfl rfl
theorem aw_69 : Jvm.Cond.fieldLink "java/lang/String" (38 : Nat) "java/lang/String" "COMPACT_STRINGS" "Z" ∈ aw := awl_1 69 rfl rfl
theorem aw_71 : Jvm.Cond.methodLink "CodeWords$Kind" (281 : Nat) y_S_charAt ∈ aw := awl_1 71 rfl rfl
theorem aw_72 : Jvm.Cond.instanceMethod y_S_charAt ∈ aw := awl_1 72 rfl rfl
theorem aw_73 : Jvm.Cond.selects "java/lang/String" y_S_charAt y_S_charAt ∈ aw := awl_1 73 rfl rfl
theorem aw_74 : Jvm.Cond.code y_S_charAt b_S_charAt (2 : Nat) (Option.some Jvm.ClassFile.FieldType.char) ∈ aw := awl_1 74 rfl rfl
theorem aw_75 : Jvm.Cond.methodLink "java/lang/String" (492 : Nat) y_S_isLatin1 ∈ aw := awl_1 75 rfl rfl
theorem aw_76 : Jvm.Cond.instanceMethod y_S_isLatin1 ∈ aw := awl_1 76 rfl rfl
theorem aw_77 : Jvm.Cond.selects "java/lang/String" y_S_isLatin1 y_S_isLatin1 ∈ aw := awl_1 77 rfl rfl
theorem aw_78 : Jvm.Cond.code y_S_isLatin1 b_S_isLatin1 (1 : Nat) (Option.some Jvm.ClassFile.FieldType.boolean) ∈ aw := awl_1 78 rfl rfl
theorem aw_79 : Jvm.Cond.methodLink "java/lang/String" (495 : Nat) y_S1_charAt ∈ aw := awl_1 79 rfl rfl
theorem aw_80 : Jvm.Cond.static y_S1_charAt ∈ aw := awl_1 80 rfl rfl
theorem aw_81 : Jvm.Cond.code y_S1_charAt b_S1_charAt (2 : Nat) (Option.some Jvm.ClassFile.FieldType.char) ∈ aw := awl_1 81 rfl rfl
theorem aw_82 : Jvm.Cond.methodLink "java/lang/StringLatin1" (9 : Nat) y_S_checkIndex ∈ aw := awl_1 82 rfl rfl
theorem aw_83 : Jvm.Cond.static y_S_checkIndex ∈ aw := awl_1 83 rfl rfl
theorem aw_84 : Jvm.Cond.code y_S_checkIndex b_S_checkIndex (2 : Nat) (Option.none : Option Jvm.ClassFile.FieldType) ∈ aw := awl_1 84 rfl rfl
theorem aw_85 : Jvm.Cond.fieldLink "java/lang/String" (1053 : Nat) "jdk/internal/util/Preconditions" "SIOOBE_FORMATTER" "Ljava/util/function/BiFunction;" ∈ aw := awl_1 85 rfl rfl
theorem aw_87 : Jvm.Cond.methodLink "java/lang/String" (1059 : Nat) y_Pq_checkIndex ∈ aw := awl_1 87 rfl rfl
theorem aw_88 : Jvm.Cond.static y_Pq_checkIndex ∈ aw := awl_1 88 rfl rfl
theorem aw_89 : Jvm.Cond.code y_Pq_checkIndex b_Pq_checkIndex (3 : Nat) (Option.some Jvm.ClassFile.FieldType.int) ∈ aw := awl_1 89 rfl rfl
theorem aw_90 : Jvm.Cond.methodLink "java/lang/String" (498 : Nat) y_S2_charAt ∈ aw := awl_1 90 rfl rfl
theorem aw_91 : Jvm.Cond.static y_S2_charAt ∈ aw := awl_1 91 rfl rfl
theorem aw_92 : Jvm.Cond.code y_S2_charAt b_S2_charAt (2 : Nat) (Option.some Jvm.ClassFile.FieldType.char) ∈ aw := awl_1 92 rfl rfl
theorem aw_93 : Jvm.Cond.methodLink "java/lang/StringUTF16" (67 : Nat) y_S2_checkIndex ∈ aw := awl_1 93 rfl rfl
theorem aw_94 : Jvm.Cond.static y_S2_checkIndex ∈ aw := awl_1 94 rfl rfl
theorem aw_95 : Jvm.Cond.code y_S2_checkIndex b_S2_checkIndex (2 : Nat) (Option.none : Option Jvm.ClassFile.FieldType) ∈ aw := awl_1 95 rfl rfl
theorem aw_96 : Jvm.Cond.methodLink "java/lang/StringUTF16" (48 : Nat) y_S2_length ∈ aw := awl_1 96 rfl rfl
theorem aw_97 : Jvm.Cond.static y_S2_length ∈ aw := awl_1 97 rfl rfl
theorem aw_98 : Jvm.Cond.code y_S2_length b_S2_length (1 : Nat) (Option.some Jvm.ClassFile.FieldType.int) ∈ aw := awl_1 98 rfl rfl
theorem aw_99 : Jvm.Cond.methodLink "java/lang/StringUTF16" (414 : Nat) y_S_checkIndex ∈ aw := awl_1 99 rfl rfl
theorem aw_100 : Jvm.Cond.methodLink "java/lang/StringUTF16" (71 : Nat) y_S2_getChar ∈ aw := awl_1 100 rfl rfl
theorem aw_101 : Jvm.Cond.static y_S2_getChar ∈ aw := awl_1 101 rfl rfl
theorem aw_102 : Jvm.Cond.code y_S2_getChar b_S2_getChar (2 : Nat) (Option.some Jvm.ClassFile.FieldType.char) ∈ aw := awl_1 102 rfl rfl
theorem aw_103 : Jvm.Cond.fieldLink "java/lang/StringUTF16" (44 : Nat) "java/lang/StringUTF16" "$assertionsDisabled" "Z" ∈ aw := awl_1 103 rfl rfl
theorem aw_105 : Jvm.Cond.fieldLink "java/lang/StringUTF16" (59 : Nat) "java/lang/StringUTF16" "HI_BYTE_SHIFT" "I" ∈ aw := awl_1 105 rfl rfl
theorem aw_107 : Jvm.Cond.fieldLink "java/lang/StringUTF16" (63 : Nat) "java/lang/StringUTF16" "LO_BYTE_SHIFT" "I" ∈ aw := awl_1 107 rfl rfl
theorem aw_109 : Jvm.Cond.methodLink "CodeWords$Kind" (285 : Nat) y_K_partOf ∈ aw := awl_1 109 rfl rfl
theorem aw_110 : Jvm.Cond.static y_K_partOf ∈ aw := awl_1 110 rfl rfl
theorem aw_111 : Jvm.Cond.code y_K_partOf b_K_partOf (1 : Nat) (Option.some Jvm.ClassFile.FieldType.int) ∈ aw := awl_1 111 rfl rfl
theorem aw_112 : Jvm.Cond.methodLink "CodeWords$Kind" (333 : Nat) y_K_immediate ∈ aw := awl_1 112 rfl rfl
theorem aw_113 : Jvm.Cond.instanceMethod y_K_immediate ∈ aw := awl_1 113 rfl rfl
theorem aw_114 : Jvm.Cond.selects "CodeWords$Kind" y_K_immediate y_K_immediate ∈ aw := awl_1 114 rfl rfl
theorem aw_115 : Jvm.Cond.code y_K_immediate b_K_immediate (5 : Nat) (Option.some Jvm.ClassFile.FieldType.int) ∈ aw := awl_1 115 rfl rfl
theorem aw_116 : Jvm.Cond.methodLink "CodeWords$Kind" (355 : Nat) y_K_is ∈ aw := awl_1 116 rfl rfl
theorem aw_118 : Jvm.Cond.instanceMethod y_K_is ∈ aw := awl_1 118 rfl rfl
theorem aw_119 : Jvm.Cond.code y_K_is b_K_is (2 : Nat) (Option.some Jvm.ClassFile.FieldType.boolean) ∈ aw := awl_1 119 rfl rfl
theorem aw_120 : Jvm.Cond.constant "CodeWords$Kind" (364 : Nat) (1048575 : Int32) ∈ aw := awl_1 120 rfl rfl
theorem aw_121 : Jvm.Cond.methodLink "CodeWords$Kind" (336 : Nat) y_K_allows ∈ aw := awl_1 121 rfl rfl
theorem aw_122 : Jvm.Cond.instanceMethod y_K_allows ∈ aw := awl_1 122 rfl rfl
theorem aw_123 : Jvm.Cond.selects "CodeWords$Kind" y_K_allows y_K_allows ∈ aw := awl_1 123 rfl rfl
theorem aw_124 : Jvm.Cond.code y_K_allows b_K_allows (5 : Nat) (Option.some Jvm.ClassFile.FieldType.boolean) ∈ aw := awl_1 124 rfl rfl
theorem aw_125 : Jvm.Cond.methodLink "CodeWords$Kind" (340 : Nat) y_K_allowsRegister ∈ aw := awl_1 125 rfl rfl
theorem aw_127 : Jvm.Cond.instanceMethod y_K_allowsRegister ∈ aw := awl_1 127 rfl rfl
theorem aw_128 : Jvm.Cond.code y_K_allowsRegister b_K_allowsRegister (3 : Nat) (Option.some Jvm.ClassFile.FieldType.boolean) ∈ aw := awl_1 128 rfl rfl
theorem aw_129 : Jvm.Cond.methodLink "CodeWords$Kind" (348 : Nat) y_K_allowsImmediate ∈ aw := awl_1 129 rfl rfl
theorem aw_130 : Jvm.Cond.instanceMethod y_K_allowsImmediate ∈ aw := awl_1 130 rfl rfl
theorem aw_131 : Jvm.Cond.selects "CodeWords$Kind" y_K_allowsImmediate y_K_allowsImmediate ∈ aw := awl_1 131 rfl rfl
theorem aw_132 : Jvm.Cond.code y_K_allowsImmediate b_K_allowsImmediate (9 : Nat) (Option.some Jvm.ClassFile.FieldType.boolean) ∈ aw := awl_1 132 rfl rfl
theorem aw_133 : Jvm.Cond.constantLong "CodeWords$Kind" (358 : Nat) (1048576 : Int64) ∈ aw := awl_1 133 rfl rfl
theorem aw_134 : Jvm.Cond.constantLong "CodeWords$Kind" (360 : Nat) (524288 : Int64) ∈ aw := awl_1 134 rfl rfl
theorem aw_135 : Jvm.Cond.constantLong "CodeWords$Kind" (362 : Nat) (2 : Int64) ∈ aw := awl_1 135 rfl rfl
theorem aw_136 : Jvm.Cond.methodLink "CodeWordsLaw" (49 : Nat) y_C_size ∈ aw := awl_1 136 rfl rfl
theorem aw_137 : Jvm.Cond.instanceMethod y_C_size ∈ aw := awl_1 137 rfl rfl
theorem aw_138 : Jvm.Cond.selects "CodeWords" y_C_size y_C_size ∈ aw := awl_1 138 rfl rfl
theorem aw_139 : Jvm.Cond.code y_C_size b_C_size (2 : Nat) (Option.some Jvm.ClassFile.FieldType.int) ∈ aw := awl_1 139 rfl rfl
theorem aw_140 : Jvm.Cond.methodLink "CodeWords" (51 : Nat) y_C_isLong ∈ aw := awl_1 140 rfl rfl
theorem aw_141 : Jvm.Cond.static y_C_isLong ∈ aw := awl_1 141 rfl rfl
theorem aw_142 : Jvm.Cond.code y_C_isLong b_C_isLong (1 : Nat) (Option.some Jvm.ClassFile.FieldType.boolean) ∈ aw := awl_1 142 rfl rfl
theorem aw_143 : Jvm.Cond.methodLink "CodeWordsLaw" (61 : Nat) y_C_shorter ∈ aw := awl_1 143 rfl rfl
theorem aw_144 : Jvm.Cond.instanceMethod y_C_shorter ∈ aw := awl_1 144 rfl rfl
theorem aw_145 : Jvm.Cond.selects "CodeWords" y_C_shorter y_C_shorter ∈ aw := awl_1 145 rfl rfl
theorem aw_146 : Jvm.Cond.code y_C_shorter b_C_shorter (9 : Nat) (Option.some Jvm.ClassFile.FieldType.int) ∈ aw := awl_1 146 rfl rfl
theorem aw_147 : Jvm.Cond.methodLink "CodeWords" (67 : Nat) y_K_register ∈ aw := awl_1 147 rfl rfl
theorem aw_148 : Jvm.Cond.methodLink "CodeWords" (64 : Nat) y_K_immediate ∈ aw := awl_1 148 rfl rfl
theorem aw_149 : Jvm.Cond.methodLink "CodeWords" (80 : Nat) y_C_shortOf ∈ aw := awl_1 149 rfl rfl
theorem aw_150 : Jvm.Cond.static y_C_shortOf ∈ aw := awl_1 150 rfl rfl
theorem aw_151 : Jvm.Cond.code y_C_shortOf b_C_shortOf (8 : Nat) (Option.some Jvm.ClassFile.FieldType.int) ∈ aw := awl_1 151 rfl rfl
theorem aw_152 : Jvm.Cond.methodLink "CodeWords" (17 : Nat) y_C_isKind ∈ aw := awl_1 152 rfl rfl
theorem aw_153 : Jvm.Cond.static y_C_isKind ∈ aw := awl_1 153 rfl rfl
theorem aw_154 : Jvm.Cond.code y_C_isKind b_C_isKind (1 : Nat) (Option.some Jvm.ClassFile.FieldType.boolean) ∈ aw := awl_1 154 rfl rfl
theorem aw_155 : Jvm.Cond.methodLink "CodeWords" (43 : Nat) y_K_compose ∈ aw := awl_1 155 rfl rfl
theorem aw_156 : Jvm.Cond.instanceMethod y_K_compose ∈ aw := awl_1 156 rfl rfl
theorem aw_157 : Jvm.Cond.selects "CodeWords$Kind" y_K_compose y_K_compose ∈ aw := awl_1 157 rfl rfl
theorem aw_158 : Jvm.Cond.code y_K_compose b_K_compose (5 : Nat) (Option.some Jvm.ClassFile.FieldType.int) ∈ aw := awl_1 158 rfl rfl
theorem aw_159 : Jvm.Cond.methodLink "CodeWords$Kind" (365 : Nat) y_K_registerBits ∈ aw := awl_1 159 rfl rfl
theorem aw_161 : Jvm.Cond.instanceMethod y_K_registerBits ∈ aw := awl_1 161 rfl rfl
theorem aw_162 : Jvm.Cond.code y_K_registerBits b_K_registerBits (3 : Nat) (Option.some Jvm.ClassFile.FieldType.int) ∈ aw := awl_1 162 rfl rfl
theorem aw_163 : Jvm.Cond.methodLink "CodeWords$Kind" (368 : Nat) y_K_immediateBits ∈ aw := awl_1 163 rfl rfl
theorem aw_165 : Jvm.Cond.instanceMethod y_K_immediateBits ∈ aw := awl_1 165 rfl rfl
theorem aw_166 : Jvm.Cond.code y_K_immediateBits b_K_immediateBits (5 : Nat) (Option.some Jvm.ClassFile.FieldType.int) ∈ aw := awl_1 166 rfl rfl
theorem aw_167 : Jvm.Cond.methodLink "CodeWords" (32 : Nat) y_K_allows ∈ aw := awl_1 167 rfl rfl
theorem aw_168 : Jvm.Cond.methodLink "CodeWords" (76 : Nat) y_C_longOf ∈ aw := awl_1 168 rfl rfl
theorem aw_169 : Jvm.Cond.static y_C_longOf ∈ aw := awl_1 169 rfl rfl
theorem aw_170 : Jvm.Cond.code y_C_longOf b_C_longOf (8 : Nat) (Option.some Jvm.ClassFile.FieldType.int) ∈ aw := awl_1 170 rfl rfl
theorem aw_171 : Jvm.Cond.methodLink "CodeWords" (130 : Nat) y_C_slotRegister ∈ aw := awl_1 171 rfl rfl
theorem aw_172 : Jvm.Cond.static y_C_slotRegister ∈ aw := awl_1 172 rfl rfl
theorem aw_173 : Jvm.Cond.code y_C_slotRegister b_C_slotRegister (6 : Nat) (Option.some Jvm.ClassFile.FieldType.int) ∈ aw := awl_1 173 rfl rfl
theorem aw_174 : Jvm.Cond.methodLink "CodeWords" (118 : Nat) y_S_length ∈ aw := awl_1 174 rfl rfl
theorem aw_175 : Jvm.Cond.methodLink "CodeWords" (134 : Nat) y_S_charAt ∈ aw := awl_1 175 rfl rfl
theorem aw_176 : Jvm.Cond.methodLink "CodeWords" (59 : Nat) y_K_has ∈ aw := awl_1 176 rfl rfl
theorem aw_177 : Jvm.Cond.methodLink "CodeWords" (84 : Nat) y_C_exchanges ∈ aw := awl_1 177 rfl rfl
theorem aw_178 : Jvm.Cond.static y_C_exchanges ∈ aw := awl_1 178 rfl rfl
theorem aw_179 : Jvm.Cond.code y_C_exchanges b_C_exchanges (1 : Nat) (Option.some Jvm.ClassFile.FieldType.boolean) ∈ aw := awl_1 179 rfl rfl
theorem aw_180 : Jvm.Cond.methodLink "CodeWordsLaw" (71 : Nat) y_C_may ∈ aw := awl_1 180 rfl rfl
theorem aw_181 : Jvm.Cond.instanceMethod y_C_may ∈ aw := awl_1 181 rfl rfl
theorem aw_182 : Jvm.Cond.selects "CodeWords" y_C_may y_C_may ∈ aw := awl_1 182 rfl rfl
theorem aw_183 : Jvm.Cond.code y_C_may b_C_may (4 : Nat) (Option.some Jvm.ClassFile.FieldType.boolean) ∈ aw := awl_1 183 rfl rfl
theorem aw_184 : Jvm.Cond.methodLink "CodeWords" (87 : Nat) y_K_allowsImmediate ∈ aw := awl_1 184 rfl rfl
theorem aw_185 : Jvm.Cond.methodLink "CodeWordsLaw" (76 : Nat) y_C_tell ∈ aw := awl_1 185 rfl rfl
theorem aw_186 : Jvm.Cond.instanceMethod y_C_tell ∈ aw := awl_1 186 rfl rfl
theorem aw_187 : Jvm.Cond.selects "CodeWords" y_C_tell y_C_tell ∈ aw := awl_1 187 rfl rfl
theorem aw_188 : Jvm.Cond.code y_C_tell b_C_tell (4 : Nat) (Option.some Jvm.ClassFile.FieldType.int) ∈ aw := awl_1 188 rfl rfl
theorem aw_189 : Jvm.Cond.methodLink "CodeWords" (93 : Nat) y_C_writeIllegal ∈ aw := awl_1 189 rfl rfl
theorem aw_191 : Jvm.Cond.instanceMethod y_C_writeIllegal ∈ aw := awl_1 191 rfl rfl
theorem aw_192 : Jvm.Cond.code y_C_writeIllegal b_C_writeIllegal (2 : Nat) (Option.none : Option Jvm.ClassFile.FieldType) ∈ aw := awl_1 192 rfl rfl
theorem aw_194 : Jvm.Cond.methodLink "CodeWords" (140 : Nat) y_C_writeString ∈ aw := awl_1 194 rfl rfl
theorem aw_196 : Jvm.Cond.instanceMethod y_C_writeString ∈ aw := awl_1 196 rfl rfl
theorem aw_197 : Jvm.Cond.code y_C_writeString b_C_writeString (3 : Nat) (Option.none : Option Jvm.ClassFile.FieldType) ∈ aw := awl_1 197 rfl rfl
theorem aw_198 : Jvm.Cond.methodLink "CodeWords" (172 : Nat) y_C_write ∈ aw := awl_1 198 rfl rfl
theorem aw_200 : Jvm.Cond.instanceMethod y_C_write ∈ aw := awl_1 200 rfl rfl
theorem aw_201 : Jvm.Cond.code y_C_write b_C_write (2 : Nat) (Option.none : Option Jvm.ClassFile.FieldType) ∈ aw := awl_1 201 rfl rfl
theorem aw_202 : Jvm.Cond.methodLink "CodeWords" (143 : Nat) y_C_writeHex ∈ aw := awl_1 202 rfl rfl
theorem aw_204 : Jvm.Cond.instanceMethod y_C_writeHex ∈ aw := awl_1 204 rfl rfl
theorem aw_205 : Jvm.Cond.code y_C_writeHex b_C_writeHex (4 : Nat) (Option.none : Option Jvm.ClassFile.FieldType) ∈ aw := awl_1 205 rfl rfl
theorem aw_208 : Jvm.Cond.constant "CodeWords" (148 : Nat) (65535 : Int32) ∈ aw := awl_1 208 rfl rfl
theorem aw_209 : Jvm.Cond.methodLink "CodeWords" (97 : Nat) y_C_writeLegal ∈ aw := awl_1 209 rfl rfl
theorem aw_211 : Jvm.Cond.instanceMethod y_C_writeLegal ∈ aw := awl_1 211 rfl rfl
theorem aw_212 : Jvm.Cond.code y_C_writeLegal b_C_writeLegal (6 : Nat) (Option.none : Option Jvm.ClassFile.FieldType) ∈ aw := awl_1 212 rfl rfl
theorem aw_213 : Jvm.Cond.methodLink "CodeWords" (149 : Nat) y_C_operandAt ∈ aw := awl_1 213 rfl rfl
theorem aw_214 : Jvm.Cond.static y_C_operandAt ∈ aw := awl_1 214 rfl rfl
theorem aw_215 : Jvm.Cond.code y_C_operandAt b_C_operandAt (1 : Nat) (Option.some Jvm.ClassFile.FieldType.char) ∈ aw := awl_1 215 rfl rfl
theorem aw_219 : Jvm.Cond.methodLink "CodeWords" (156 : Nat) y_C_writeOperand ∈ aw := awl_1 219 rfl rfl
theorem aw_221 : Jvm.Cond.instanceMethod y_C_writeOperand ∈ aw := awl_1 221 rfl rfl
theorem aw_222 : Jvm.Cond.code y_C_writeOperand b_C_writeOperand (5 : Nat) (Option.none : Option Jvm.ClassFile.FieldType) ∈ aw := awl_1 222 rfl rfl
theorem aw_223 : Jvm.Cond.methodLink "CodeWords" (162 : Nat) y_C_writeRegister ∈ aw := awl_1 223 rfl rfl
theorem aw_225 : Jvm.Cond.instanceMethod y_C_writeRegister ∈ aw := awl_1 225 rfl rfl
theorem aw_226 : Jvm.Cond.code y_C_writeRegister b_C_writeRegister (4 : Nat) (Option.none : Option Jvm.ClassFile.FieldType) ∈ aw := awl_1 226 rfl rfl
theorem aw_228 : Jvm.Cond.methodLink "CodeWords" (165 : Nat) y_C_writeDecimal ∈ aw := awl_1 228 rfl rfl
theorem aw_230 : Jvm.Cond.instanceMethod y_C_writeDecimal ∈ aw := awl_1 230 rfl rfl
theorem aw_231 : Jvm.Cond.code y_C_writeDecimal b_C_writeDecimal (4 : Nat) (Option.none : Option Jvm.ClassFile.FieldType) ∈ aw := awl_1 231 rfl rfl
theorem aw_232 : Jvm.Cond.methodLink "CodeWords" (168 : Nat) y_C_writeOffset ∈ aw := awl_1 232 rfl rfl
theorem aw_234 : Jvm.Cond.instanceMethod y_C_writeOffset ∈ aw := awl_1 234 rfl rfl
theorem aw_235 : Jvm.Cond.code y_C_writeOffset b_C_writeOffset (3 : Nat) (Option.none : Option Jvm.ClassFile.FieldType) ∈ aw := awl_1 235 rfl rfl
theorem aw_236 : Jvm.Cond.arrayClass Jvm.ClassFile.FieldType.byte ∈ aw := awl_1 236 rfl rfl
theorem aw_237 : Jvm.Cond.methodLink "CodeWordsLaw" (80 : Nat) y_C_letter ∈ aw := awl_1 237 rfl rfl
theorem aw_238 : Jvm.Cond.instanceMethod y_C_letter ∈ aw := awl_1 238 rfl rfl
theorem aw_239 : Jvm.Cond.selects "CodeWords" y_C_letter y_C_letter ∈ aw := awl_1 239 rfl rfl
theorem aw_240 : Jvm.Cond.code y_C_letter b_C_letter (2 : Nat) (Option.some Jvm.ClassFile.FieldType.int) ∈ aw := awl_2 0 rfl rfl
theorem aw_241 : Jvm.Cond.methodLink "CodeWordsLaw" (84 : Nat) y_C_named ∈ aw := awl_2 1 rfl rfl
theorem aw_242 : Jvm.Cond.instanceMethod y_C_named ∈ aw := awl_2 2 rfl rfl
theorem aw_243 : Jvm.Cond.selects "CodeWords" y_C_named y_C_named ∈ aw := awl_2 3 rfl rfl
theorem aw_244 : Jvm.Cond.code y_C_named b_C_named (6 : Nat) (Option.some Jvm.ClassFile.FieldType.int) ∈ aw := awl_2 4 rfl rfl
theorem aw_245 : Jvm.Cond.methodLink "CodeWords" (105 : Nat) y_C_spells ∈ aw := awl_2 5 rfl rfl
theorem aw_246 : Jvm.Cond.static y_C_spells ∈ aw := awl_2 6 rfl rfl
theorem aw_247 : Jvm.Cond.code y_C_spells b_C_spells (10 : Nat) (Option.some Jvm.ClassFile.FieldType.boolean) ∈ aw := awl_2 7 rfl rfl
theorem aw_248 : Jvm.Cond.methodLink "CodeWordsLaw" (89 : Nat) y_C_about ∈ aw := awl_2 8 rfl rfl
theorem aw_249 : Jvm.Cond.instanceMethod y_C_about ∈ aw := awl_2 9 rfl rfl
theorem aw_250 : Jvm.Cond.selects "CodeWords" y_C_about y_C_about ∈ aw := awl_2 10 rfl rfl
theorem aw_251 : Jvm.Cond.code y_C_about b_C_about (3 : Nat) (Option.some Jvm.ClassFile.FieldType.int) ∈ aw := awl_2 11 rfl rfl
theorem aw_252 : Jvm.Cond.methodLink "CodeWordsLaw" (35 : Nat) y_L_word ∈ aw := awl_2 12 rfl rfl
theorem aw_253 : Jvm.Cond.static y_L_word ∈ aw := awl_2 13 rfl rfl
theorem aw_254 : Jvm.Cond.codeWith y_L_word b_L_word (8 : Nat) (Option.some Jvm.ClassFile.FieldType.int) [((0 : Nat), (16 : Nat), (19 : Nat), (13 : Nat)), ((0 : Nat), (16 : Nat), (23 : Nat), (15 : Nat))] ∈ aw := awl_2 14 rfl rfl
theorem aw_255 : Jvm.Cond.classLink "CodeWordsLaw" (13 : Nat) "java/lang/IndexOutOfBoundsException" ∈ aw := awl_2 15 rfl rfl
theorem aw_256 : Jvm.Cond.classLink "CodeWordsLaw" (15 : Nat) "java/lang/IllegalArgumentException" ∈ aw := awl_2 16 rfl rfl
theorem aw_257 : Jvm.Cond.methodLink "CodeWordsLaw" (7 : Nat) y_C_word ∈ aw := awl_2 17 rfl rfl
theorem aw_258 : Jvm.Cond.instanceMethod y_C_word ∈ aw := awl_2 18 rfl rfl
theorem aw_259 : Jvm.Cond.selects "CodeWords" y_C_word y_C_word ∈ aw := awl_2 19 rfl rfl
theorem aw_260 : Jvm.Cond.code y_C_word b_C_word (6 : Nat) (Option.some Jvm.ClassFile.FieldType.int) ∈ aw := awl_2 20 rfl rfl
theorem aw_261 : Jvm.Cond.classLink "CodeWords" (21 : Nat) "java/lang/IndexOutOfBoundsException" ∈ aw := awl_2 21 rfl rfl
theorem aw_262 : Jvm.Cond.instantiable "java/lang/IndexOutOfBoundsException" (6 : Nat) ∈ aw := awl_2 22 rfl rfl
theorem aw_270 : Jvm.Cond.selects "java/lang/IndexOutOfBoundsException" ({ cls := "java/lang/Throwable", name := "fillInStackTrace", desc := "(I)Ljava/lang/Throwable;" } : Jvm.MethodName) ({ cls := "java/lang/Throwable", name := "fillInStackTrace", desc := "(I)Ljava/lang/Throwable;" } : Jvm.MethodName) ∈ aw := awl_2 30 rfl rfl
theorem aw_271 : Jvm.Cond.selects "java/lang/IndexOutOfBoundsException" ({ cls := "java/lang/Throwable", name := "fillInStackTrace", desc := "()Ljava/lang/Throwable;" } : Jvm.MethodName) ({ cls := "java/lang/Throwable", name := "fillInStackTrace", desc := "()Ljava/lang/Throwable;" } : Jvm.MethodName) ∈ aw := awl_2 31 rfl rfl
theorem aw_272 : Jvm.Cond.lays "java/lang/IndexOutOfBoundsException" "java/lang/Throwable" "cause" "Ljava/lang/Throwable;" ∈ aw := awl_2 32 rfl rfl
theorem aw_273 : Jvm.Cond.lays "java/lang/Throwable" "java/lang/Throwable" "cause" "Ljava/lang/Throwable;" ∈ aw := awl_2 33 rfl rfl
theorem aw_274 : Jvm.Cond.lays "java/lang/IndexOutOfBoundsException" "java/lang/Throwable" "stackTrace" "[Ljava/lang/StackTraceElement;" ∈ aw := awl_2 34 rfl rfl
theorem aw_275 : Jvm.Cond.lays "java/lang/Throwable" "java/lang/Throwable" "stackTrace" "[Ljava/lang/StackTraceElement;" ∈ aw := awl_2 35 rfl rfl
theorem aw_276 : Jvm.Cond.lays "java/lang/IndexOutOfBoundsException" "java/lang/Throwable" "suppressedExceptions" "Ljava/util/List;" ∈ aw := awl_2 36 rfl rfl
theorem aw_277 : Jvm.Cond.lays "java/lang/Throwable" "java/lang/Throwable" "suppressedExceptions" "Ljava/util/List;" ∈ aw := awl_2 37 rfl rfl
theorem aw_278 : Jvm.Cond.lays "java/lang/IndexOutOfBoundsException" "java/lang/Throwable" "detailMessage" "Ljava/lang/String;" ∈ aw := awl_2 38 rfl rfl
theorem aw_279 : Jvm.Cond.lays "java/lang/Throwable" "java/lang/Throwable" "detailMessage" "Ljava/lang/String;" ∈ aw := awl_2 39 rfl rfl
theorem aw_280 : Jvm.Cond.lays "java/lang/IndexOutOfBoundsException" "java/lang/Throwable" "backtrace" "Ljava/lang/Object;" ∈ aw := awl_2 40 rfl rfl
theorem aw_281 : Jvm.Cond.lays "java/lang/Throwable" "java/lang/Throwable" "backtrace" "Ljava/lang/Object;" ∈ aw := awl_2 41 rfl rfl
theorem aw_282 : Jvm.Cond.fieldLink "java/lang/Throwable" (198 : Nat) "java/lang/Throwable" "backtrace" "Ljava/lang/Object;" ∈ aw := awl_2 42 rfl rfl
theorem aw_283 : Jvm.Cond.superclass "java/lang/Throwable" "java/lang/Object" ∈ aw := awl_2 43 rfl rfl
theorem aw_284 : Jvm.Cond.instanceMethod ({ cls := "java/lang/Throwable", name := "<init>", desc := "()V" } : Jvm.MethodName) ∈ aw := awl_2 44 rfl rfl
theorem aw_285 : Jvm.Cond.code ({ cls := "java/lang/Throwable", name := "<init>", desc := "()V" } : Jvm.MethodName) prog_13_method_1_code (1 : Nat) (Option.none : Option Jvm.ClassFile.FieldType) ∈ aw := awl_2 45 rfl rfl
theorem aw_286 : Jvm.Cond.methodLink "java/lang/Throwable" (1 : Nat) ({ cls := "java/lang/Object", name := "<init>", desc := "()V" } : Jvm.MethodName) ∈ aw := awl_2 46 rfl rfl
theorem aw_287 : Jvm.Cond.fieldLink "java/lang/Throwable" (13 : Nat) "java/lang/Throwable" "UNASSIGNED_STACK" "[Ljava/lang/StackTraceElement;" ∈ aw := awl_2 47 rfl rfl
theorem aw_289 : Jvm.Cond.fieldLink "java/lang/Throwable" (20 : Nat) "java/lang/Throwable" "SUPPRESSED_SENTINEL" "Ljava/util/List;" ∈ aw := awl_2 49 rfl rfl
theorem aw_291 : Jvm.Cond.methodLink "java/lang/Throwable" (27 : Nat) ({ cls := "java/lang/Throwable", name := "fillInStackTrace", desc := "()Ljava/lang/Throwable;" } : Jvm.MethodName) ∈ aw := awl_2 51 rfl rfl
theorem aw_292 : Jvm.Cond.instanceMethod ({ cls := "java/lang/Throwable", name := "fillInStackTrace", desc := "()Ljava/lang/Throwable;" } : Jvm.MethodName) ∈ aw := awl_2 52 rfl rfl
theorem aw_293 : Jvm.Cond.sameMethod "java/lang/Throwable" "java/lang/Throwable" "fillInStackTrace" "()Ljava/lang/Throwable;" ∈ aw := awl_2 53 rfl rfl
theorem aw_294 : Jvm.Cond.selects "java/lang/IllegalArgumentException" ({ cls := "java/lang/Throwable", name := "fillInStackTrace", desc := "()Ljava/lang/Throwable;" } : Jvm.MethodName) ({ cls := "java/lang/Throwable", name := "fillInStackTrace", desc := "()Ljava/lang/Throwable;" } : Jvm.MethodName) ∈ aw := awl_2 54 rfl rfl
theorem aw_295 : Jvm.Cond.selects "java/util/NoSuchElementException" ({ cls := "java/lang/Throwable", name := "fillInStackTrace", desc := "()Ljava/lang/Throwable;" } : Jvm.MethodName) ({ cls := "java/lang/Throwable", name := "fillInStackTrace", desc := "()Ljava/lang/Throwable;" } : Jvm.MethodName) ∈ aw := awl_2 55 rfl rfl
theorem aw_296 : Jvm.Cond.codeSync ({ cls := "java/lang/Throwable", name := "fillInStackTrace", desc := "()Ljava/lang/Throwable;" } : Jvm.MethodName) prog_13_method_18_code (1 : Nat) (Option.some (Jvm.ClassFile.FieldType.object "java/lang/Throwable")) ∈ aw := awl_2 56 rfl rfl
theorem aw_297 : Jvm.Cond.methodLink "java/lang/Throwable" (202 : Nat) ({ cls := "java/lang/Throwable", name := "fillInStackTrace", desc := "(I)Ljava/lang/Throwable;" } : Jvm.MethodName) ∈ aw := awl_2 57 rfl rfl
theorem aw_299 : Jvm.Cond.instanceMethod ({ cls := "java/lang/Throwable", name := "fillInStackTrace", desc := "(I)Ljava/lang/Throwable;" } : Jvm.MethodName) ∈ aw := awl_2 59 rfl rfl
theorem aw_300 : Jvm.Cond.instantiable "java/lang/Throwable" (6 : Nat) ∈ aw := awl_2 60 rfl rfl
theorem aw_303 : Jvm.Cond.methodLink "CodeWords" (25 : Nat) ({ cls := "java/lang/IndexOutOfBoundsException", name := "<init>", desc := "(Ljava/lang/String;)V" } : Jvm.MethodName) ∈ aw := awl_2 63 rfl rfl
theorem aw_304 : Jvm.Cond.instanceMethod ({ cls := "java/lang/IndexOutOfBoundsException", name := "<init>", desc := "(Ljava/lang/String;)V" } : Jvm.MethodName) ∈ aw := awl_2 64 rfl rfl
theorem aw_305 : Jvm.Cond.code ({ cls := "java/lang/IndexOutOfBoundsException", name := "<init>", desc := "(Ljava/lang/String;)V" } : Jvm.MethodName) prog_8_method_2_code (2 : Nat) (Option.none : Option Jvm.ClassFile.FieldType) ∈ aw := awl_2 65 rfl rfl
theorem aw_306 : Jvm.Cond.methodLink "java/lang/IndexOutOfBoundsException" (7 : Nat) ({ cls := "java/lang/RuntimeException", name := "<init>", desc := "(Ljava/lang/String;)V" } : Jvm.MethodName) ∈ aw := awl_2 66 rfl rfl
theorem aw_307 : Jvm.Cond.instanceMethod ({ cls := "java/lang/RuntimeException", name := "<init>", desc := "(Ljava/lang/String;)V" } : Jvm.MethodName) ∈ aw := awl_2 67 rfl rfl
theorem aw_308 : Jvm.Cond.code ({ cls := "java/lang/RuntimeException", name := "<init>", desc := "(Ljava/lang/String;)V" } : Jvm.MethodName) prog_9_method_2_code (2 : Nat) (Option.none : Option Jvm.ClassFile.FieldType) ∈ aw := awl_2 68 rfl rfl
theorem aw_309 : Jvm.Cond.methodLink "java/lang/RuntimeException" (7 : Nat) ({ cls := "java/lang/Exception", name := "<init>", desc := "(Ljava/lang/String;)V" } : Jvm.MethodName) ∈ aw := awl_2 69 rfl rfl
theorem aw_310 : Jvm.Cond.instanceMethod ({ cls := "java/lang/Exception", name := "<init>", desc := "(Ljava/lang/String;)V" } : Jvm.MethodName) ∈ aw := awl_2 70 rfl rfl
theorem aw_311 : Jvm.Cond.code ({ cls := "java/lang/Exception", name := "<init>", desc := "(Ljava/lang/String;)V" } : Jvm.MethodName) prog_6_method_2_code (2 : Nat) (Option.none : Option Jvm.ClassFile.FieldType) ∈ aw := awl_2 71 rfl rfl
theorem aw_312 : Jvm.Cond.methodLink "java/lang/Exception" (7 : Nat) ({ cls := "java/lang/Throwable", name := "<init>", desc := "(Ljava/lang/String;)V" } : Jvm.MethodName) ∈ aw := awl_2 72 rfl rfl
theorem aw_313 : Jvm.Cond.instanceMethod ({ cls := "java/lang/Throwable", name := "<init>", desc := "(Ljava/lang/String;)V" } : Jvm.MethodName) ∈ aw := awl_2 73 rfl rfl
theorem aw_314 : Jvm.Cond.code ({ cls := "java/lang/Throwable", name := "<init>", desc := "(Ljava/lang/String;)V" } : Jvm.MethodName) prog_13_method_2_code (2 : Nat) (Option.none : Option Jvm.ClassFile.FieldType) ∈ aw := awl_2 74 rfl rfl
theorem aw_315 : Jvm.Cond.fieldLink "java/lang/Throwable" (198 : Nat) "java/lang/Throwable" "backtrace" "Ljava/lang/Object;" ∈ aw := awl_2 75 rfl rfl
theorem aw_316 : Jvm.Cond.fieldLink "java/lang/Throwable" (31 : Nat) "java/lang/Throwable" "detailMessage" "Ljava/lang/String;" ∈ aw := awl_2 76 rfl rfl
theorem aw_317 : Jvm.Cond.fieldLink "java/lang/Throwable" (7 : Nat) "java/lang/Throwable" "cause" "Ljava/lang/Throwable;" ∈ aw := awl_2 77 rfl rfl
theorem aw_318 : Jvm.Cond.fieldLink "java/lang/Throwable" (17 : Nat) "java/lang/Throwable" "stackTrace" "[Ljava/lang/StackTraceElement;" ∈ aw := awl_2 78 rfl rfl
theorem aw_319 : Jvm.Cond.fieldLink "java/lang/Throwable" (24 : Nat) "java/lang/Throwable" "suppressedExceptions" "Ljava/util/List;" ∈ aw := awl_2 79 rfl rfl
theorem aw_320 : Jvm.Cond.soleField "java/lang/Throwable" "backtrace" ∈ aw := awl_2 80 rfl rfl
theorem aw_321 : Jvm.Cond.soleField "java/lang/Throwable" "detailMessage" ∈ aw := awl_2 81 rfl rfl
theorem aw_322 : Jvm.Cond.soleField "java/lang/Throwable" "cause" ∈ aw := awl_2 82 rfl rfl
theorem aw_323 : Jvm.Cond.soleField "java/lang/Throwable" "stackTrace" ∈ aw := awl_2 83 rfl rfl
theorem aw_324 : Jvm.Cond.lays "java/lang/IndexOutOfBoundsException" "java/lang/Throwable" "depth" "I" ∈ aw := awl_2 84 rfl rfl
theorem aw_325 : Jvm.Cond.soleField "java/lang/Throwable" "depth" ∈ aw := awl_2 85 rfl rfl
theorem aw_326 : Jvm.Cond.soleField "java/lang/Throwable" "suppressedExceptions" ∈ aw := awl_2 86 rfl rfl
theorem aw_327 : Jvm.Cond.superclass "java/lang/IndexOutOfBoundsException" "java/lang/RuntimeException" ∈ aw := awl_2 87 rfl rfl
theorem aw_328 : Jvm.Cond.classLink "CodeWords" (38 : Nat) "java/lang/IllegalArgumentException" ∈ aw := awl_2 88 rfl rfl
theorem aw_329 : Jvm.Cond.instantiable "java/lang/IllegalArgumentException" (6 : Nat) ∈ aw := awl_2 89 rfl rfl
theorem aw_331 : Jvm.Cond.selects "java/lang/IllegalArgumentException" ({ cls := "java/lang/Throwable", name := "fillInStackTrace", desc := "(I)Ljava/lang/Throwable;" } : Jvm.MethodName) ({ cls := "java/lang/Throwable", name := "fillInStackTrace", desc := "(I)Ljava/lang/Throwable;" } : Jvm.MethodName) ∈ aw := awl_2 91 rfl rfl
theorem aw_332 : Jvm.Cond.lays "java/lang/IllegalArgumentException" "java/lang/Throwable" "cause" "Ljava/lang/Throwable;" ∈ aw := awl_2 92 rfl rfl
theorem aw_333 : Jvm.Cond.lays "java/lang/IllegalArgumentException" "java/lang/Throwable" "stackTrace" "[Ljava/lang/StackTraceElement;" ∈ aw := awl_2 93 rfl rfl
theorem aw_334 : Jvm.Cond.lays "java/lang/IllegalArgumentException" "java/lang/Throwable" "suppressedExceptions" "Ljava/util/List;" ∈ aw := awl_2 94 rfl rfl
theorem aw_335 : Jvm.Cond.lays "java/lang/IllegalArgumentException" "java/lang/Throwable" "detailMessage" "Ljava/lang/String;" ∈ aw := awl_2 95 rfl rfl
theorem aw_336 : Jvm.Cond.lays "java/lang/IllegalArgumentException" "java/lang/Throwable" "backtrace" "Ljava/lang/Object;" ∈ aw := awl_2 96 rfl rfl
theorem aw_338 : Jvm.Cond.methodLink "CodeWords" (42 : Nat) ({ cls := "java/lang/IllegalArgumentException", name := "<init>", desc := "(Ljava/lang/String;)V" } : Jvm.MethodName) ∈ aw := awl_2 98 rfl rfl
theorem aw_339 : Jvm.Cond.instanceMethod ({ cls := "java/lang/IllegalArgumentException", name := "<init>", desc := "(Ljava/lang/String;)V" } : Jvm.MethodName) ∈ aw := awl_2 99 rfl rfl
theorem aw_340 : Jvm.Cond.code ({ cls := "java/lang/IllegalArgumentException", name := "<init>", desc := "(Ljava/lang/String;)V" } : Jvm.MethodName) prog_7_method_2_code (2 : Nat) (Option.none : Option Jvm.ClassFile.FieldType) ∈ aw := awl_2 100 rfl rfl
theorem aw_341 : Jvm.Cond.methodLink "java/lang/IllegalArgumentException" (7 : Nat) ({ cls := "java/lang/RuntimeException", name := "<init>", desc := "(Ljava/lang/String;)V" } : Jvm.MethodName) ∈ aw := awl_2 101 rfl rfl
theorem aw_342 : Jvm.Cond.lays "java/lang/IllegalArgumentException" "java/lang/Throwable" "depth" "I" ∈ aw := awl_2 102 rfl rfl
theorem aw_343 : Jvm.Cond.superclass "java/lang/IllegalArgumentException" "java/lang/RuntimeException" ∈ aw := awl_2 103 rfl rfl
theorem aw_344 : Jvm.Cond.methodLink "CodeWordsLaw" (53 : Nat) y_L_part ∈ aw := awl_2 104 rfl rfl
theorem aw_345 : Jvm.Cond.static y_L_part ∈ aw := awl_2 105 rfl rfl
theorem aw_346 : Jvm.Cond.codeWith y_L_part b_L_part (5 : Nat) (Option.some Jvm.ClassFile.FieldType.int) [((0 : Nat), (10 : Nat), (13 : Nat), (21 : Nat))] ∈ aw := awl_2 106 rfl rfl
theorem aw_347 : Jvm.Cond.classLink "CodeWordsLaw" (21 : Nat) "java/util/NoSuchElementException" ∈ aw := awl_2 107 rfl rfl
theorem aw_348 : Jvm.Cond.methodLink "CodeWordsLaw" (17 : Nat) y_C_part ∈ aw := awl_2 108 rfl rfl
theorem aw_349 : Jvm.Cond.instanceMethod y_C_part ∈ aw := awl_2 109 rfl rfl
theorem aw_350 : Jvm.Cond.selects "CodeWords" y_C_part y_C_part ∈ aw := awl_2 110 rfl rfl
theorem aw_351 : Jvm.Cond.code y_C_part b_C_part (4 : Nat) (Option.some Jvm.ClassFile.FieldType.int) ∈ aw := awl_2 111 rfl rfl
theorem aw_352 : Jvm.Cond.classLink "CodeWords" (54 : Nat) "java/util/NoSuchElementException" ∈ aw := awl_2 112 rfl rfl
theorem aw_353 : Jvm.Cond.instantiable "java/util/NoSuchElementException" (6 : Nat) ∈ aw := awl_2 113 rfl rfl
theorem aw_355 : Jvm.Cond.selects "java/util/NoSuchElementException" ({ cls := "java/lang/Throwable", name := "fillInStackTrace", desc := "(I)Ljava/lang/Throwable;" } : Jvm.MethodName) ({ cls := "java/lang/Throwable", name := "fillInStackTrace", desc := "(I)Ljava/lang/Throwable;" } : Jvm.MethodName) ∈ aw := awl_2 115 rfl rfl
theorem aw_356 : Jvm.Cond.lays "java/util/NoSuchElementException" "java/lang/Throwable" "cause" "Ljava/lang/Throwable;" ∈ aw := awl_2 116 rfl rfl
theorem aw_357 : Jvm.Cond.lays "java/util/NoSuchElementException" "java/lang/Throwable" "stackTrace" "[Ljava/lang/StackTraceElement;" ∈ aw := awl_2 117 rfl rfl
theorem aw_358 : Jvm.Cond.lays "java/util/NoSuchElementException" "java/lang/Throwable" "suppressedExceptions" "Ljava/util/List;" ∈ aw := awl_2 118 rfl rfl
theorem aw_359 : Jvm.Cond.lays "java/util/NoSuchElementException" "java/lang/Throwable" "detailMessage" "Ljava/lang/String;" ∈ aw := awl_2 119 rfl rfl
theorem aw_360 : Jvm.Cond.lays "java/util/NoSuchElementException" "java/lang/Throwable" "backtrace" "Ljava/lang/Object;" ∈ aw := awl_2 120 rfl rfl
theorem aw_362 : Jvm.Cond.methodLink "CodeWords" (58 : Nat) ({ cls := "java/util/NoSuchElementException", name := "<init>", desc := "(Ljava/lang/String;)V" } : Jvm.MethodName) ∈ aw := awl_2 122 rfl rfl
theorem aw_363 : Jvm.Cond.instanceMethod ({ cls := "java/util/NoSuchElementException", name := "<init>", desc := "(Ljava/lang/String;)V" } : Jvm.MethodName) ∈ aw := awl_2 123 rfl rfl
theorem aw_364 : Jvm.Cond.code ({ cls := "java/util/NoSuchElementException", name := "<init>", desc := "(Ljava/lang/String;)V" } : Jvm.MethodName) prog_14_method_4_code (2 : Nat) (Option.none : Option Jvm.ClassFile.FieldType) ∈ aw := awl_2 124 rfl rfl
theorem aw_365 : Jvm.Cond.methodLink "java/util/NoSuchElementException" (13 : Nat) ({ cls := "java/lang/RuntimeException", name := "<init>", desc := "(Ljava/lang/String;)V" } : Jvm.MethodName) ∈ aw := awl_2 125 rfl rfl
theorem aw_366 : Jvm.Cond.lays "java/util/NoSuchElementException" "java/lang/Throwable" "depth" "I" ∈ aw := awl_2 126 rfl rfl
theorem aw_367 : Jvm.Cond.superclass "java/util/NoSuchElementException" "java/lang/RuntimeException" ∈ aw := awl_2 127 rfl rfl
theorem aw_369 : Jvm.Cond.methodLink "CodeWordsLaw" (57 : Nat) y_L_longer ∈ aw := awl_2 129 rfl rfl
theorem aw_370 : Jvm.Cond.static y_L_longer ∈ aw := awl_2 130 rfl rfl
theorem aw_371 : Jvm.Cond.codeWith y_L_longer b_L_longer (4 : Nat) (Option.some Jvm.ClassFile.FieldType.int) [((0 : Nat), (9 : Nat), (12 : Nat), (21 : Nat))] ∈ aw := awl_2 131 rfl rfl
theorem aw_372 : Jvm.Cond.methodLink "CodeWordsLaw" (23 : Nat) y_C_longer ∈ aw := awl_2 132 rfl rfl
theorem aw_373 : Jvm.Cond.instanceMethod y_C_longer ∈ aw := awl_2 133 rfl rfl
theorem aw_374 : Jvm.Cond.selects "CodeWords" y_C_longer y_C_longer ∈ aw := awl_2 134 rfl rfl
theorem aw_375 : Jvm.Cond.code y_C_longer b_C_longer (4 : Nat) (Option.some Jvm.ClassFile.FieldType.int) ∈ aw := awl_2 135 rfl rfl
theorem aw_377 : Jvm.Cond.methodLink "CodeWordsLaw" (67 : Nat) y_L_fit ∈ aw := awl_2 137 rfl rfl
theorem aw_378 : Jvm.Cond.static y_L_fit ∈ aw := awl_2 138 rfl rfl
theorem aw_379 : Jvm.Cond.codeWith y_L_fit b_L_fit (6 : Nat) (Option.some Jvm.ClassFile.FieldType.int) [((0 : Nat), (11 : Nat), (14 : Nat), (15 : Nat))] ∈ aw := awl_2 139 rfl rfl
theorem aw_380 : Jvm.Cond.methodLink "CodeWordsLaw" (27 : Nat) y_C_fit ∈ aw := awl_2 140 rfl rfl
theorem aw_381 : Jvm.Cond.instanceMethod y_C_fit ∈ aw := awl_2 141 rfl rfl
theorem aw_382 : Jvm.Cond.selects "CodeWords" y_C_fit y_C_fit ∈ aw := awl_2 142 rfl rfl
theorem aw_383 : Jvm.Cond.code y_C_fit b_C_fit (6 : Nat) (Option.some Jvm.ClassFile.FieldType.int) ∈ aw := awl_2 143 rfl rfl
theorem aw_385 : Jvm.Cond.classLink "CodeWordsLaw" (32 : Nat) "CodeWordsModel" ∈ aw := awl_2 145 rfl rfl
theorem aw_386 : Jvm.Cond.instantiable "CodeWordsModel" (6 : Nat) ∈ aw := awl_2 146 rfl rfl
theorem aw_387 : Jvm.Cond.methodLink "CodeWordsLaw" (34 : Nat) y_M_init ∈ aw := awl_2 147 rfl rfl
theorem aw_388 : Jvm.Cond.instanceMethod y_M_init ∈ aw := awl_2 148 rfl rfl
theorem aw_389 : Jvm.Cond.code y_M_init b_M_init (2 : Nat) (Option.none : Option Jvm.ClassFile.FieldType) ∈ aw := awl_2 149 rfl rfl
theorem aw_390 : Jvm.Cond.methodLink "CodeWordsModel" (1 : Nat) ({ cls := "java/lang/Object", name := "<init>", desc := "()V" } : Jvm.MethodName) ∈ aw := awl_2 150 rfl rfl
theorem aw_391 : Jvm.Cond.methodLink "CodeWordsModel" (19 : Nat) y_M_layLong ∈ aw := awl_2 151 rfl rfl
theorem aw_393 : Jvm.Cond.instanceMethod y_M_layLong ∈ aw := awl_2 153 rfl rfl
theorem aw_394 : Jvm.Cond.code y_M_layLong b_M_layLong (2 : Nat) (Option.none : Option Jvm.ClassFile.FieldType) ∈ aw := awl_2 154 rfl rfl
theorem aw_395 : Jvm.Cond.constant "CodeWordsModel" (30 : Nat) (267386895 : Int32) ∈ aw := awl_2 155 rfl rfl
theorem aw_396 : Jvm.Cond.constant "CodeWordsModel" (31 : Nat) (1048691 : Int32) ∈ aw := awl_2 156 rfl rfl
theorem aw_397 : Jvm.Cond.methodLink "CodeWordsModel" (32 : Nat) y_M_fix ∈ aw := awl_2 157 rfl rfl
theorem aw_399 : Jvm.Cond.instanceMethod y_M_fix ∈ aw := awl_2 159 rfl rfl
theorem aw_400 : Jvm.Cond.code y_M_fix b_M_fix (6 : Nat) (Option.none : Option Jvm.ClassFile.FieldType) ∈ aw := awl_2 160 rfl rfl
theorem aw_401 : Jvm.Cond.methodLink "CodeWordsModel" (36 : Nat) y_M_opcodeOf ∈ aw := awl_2 161 rfl rfl
theorem aw_402 : Jvm.Cond.static y_M_opcodeOf ∈ aw := awl_2 162 rfl rfl
theorem aw_403 : Jvm.Cond.code y_M_opcodeOf b_M_opcodeOf (1 : Nat) (Option.some Jvm.ClassFile.FieldType.int) ∈ aw := awl_2 163 rfl rfl
theorem aw_404 : Jvm.Cond.methodLink "CodeWordsModel" (40 : Nat) y_M_lay ∈ aw := awl_2 164 rfl rfl
theorem aw_406 : Jvm.Cond.instanceMethod y_M_lay ∈ aw := awl_2 166 rfl rfl
theorem aw_407 : Jvm.Cond.code y_M_lay b_M_lay (7 : Nat) (Option.none : Option Jvm.ClassFile.FieldType) ∈ aw := awl_2 167 rfl rfl
theorem aw_408 : Jvm.Cond.methodLink "CodeWordsModel" (44 : Nat) y_M_thirdOf ∈ aw := awl_2 168 rfl rfl
theorem aw_409 : Jvm.Cond.static y_M_thirdOf ∈ aw := awl_2 169 rfl rfl
theorem aw_410 : Jvm.Cond.code y_M_thirdOf b_M_thirdOf (1 : Nat) (Option.some Jvm.ClassFile.FieldType.int) ∈ aw := awl_2 170 rfl rfl
theorem aw_411 : Jvm.Cond.methodLink "CodeWordsModel" (47 : Nat) y_M_isBranch ∈ aw := awl_2 171 rfl rfl
theorem aw_412 : Jvm.Cond.static y_M_isBranch ∈ aw := awl_2 172 rfl rfl
theorem aw_413 : Jvm.Cond.code y_M_isBranch b_M_isBranch (1 : Nat) (Option.some Jvm.ClassFile.FieldType.boolean) ∈ aw := awl_2 173 rfl rfl
theorem aw_414 : Jvm.Cond.methodLink "CodeWordsModel" (51 : Nat) y_M_isStore ∈ aw := awl_2 174 rfl rfl
theorem aw_415 : Jvm.Cond.static y_M_isStore ∈ aw := awl_2 175 rfl rfl
theorem aw_416 : Jvm.Cond.code y_M_isStore b_M_isStore (1 : Nat) (Option.some Jvm.ClassFile.FieldType.boolean) ∈ aw := awl_2 176 rfl rfl
theorem aw_417 : Jvm.Cond.methodLink "CodeWordsModel" (54 : Nat) y_M_seventhOf ∈ aw := awl_2 177 rfl rfl
theorem aw_418 : Jvm.Cond.static y_M_seventhOf ∈ aw := awl_2 178 rfl rfl
theorem aw_419 : Jvm.Cond.code y_M_seventhOf b_M_seventhOf (1 : Nat) (Option.some Jvm.ClassFile.FieldType.int) ∈ aw := awl_2 179 rfl rfl
theorem aw_420 : Jvm.Cond.methodLink "CodeWordsModel" (57 : Nat) y_M_isShift ∈ aw := awl_2 180 rfl rfl
theorem aw_421 : Jvm.Cond.static y_M_isShift ∈ aw := awl_2 181 rfl rfl
theorem aw_422 : Jvm.Cond.code y_M_isShift b_M_isShift (1 : Nat) (Option.some Jvm.ClassFile.FieldType.boolean) ∈ aw := awl_2 182 rfl rfl
theorem aw_423 : Jvm.Cond.methodLink "CodeWordsModel" (23 : Nat) y_M_layShort ∈ aw := awl_2 183 rfl rfl
theorem aw_425 : Jvm.Cond.instanceMethod y_M_layShort ∈ aw := awl_2 185 rfl rfl
theorem aw_426 : Jvm.Cond.code y_M_layShort b_M_layShort (2 : Nat) (Option.none : Option Jvm.ClassFile.FieldType) ∈ aw := awl_2 186 rfl rfl
theorem aw_427 : Jvm.Cond.methodLink "CodeWordsModel" (60 : Nat) y_M_ends ∈ aw := awl_2 187 rfl rfl
theorem aw_429 : Jvm.Cond.instanceMethod y_M_ends ∈ aw := awl_2 189 rfl rfl
theorem aw_430 : Jvm.Cond.code y_M_ends b_M_ends (4 : Nat) (Option.none : Option Jvm.ClassFile.FieldType) ∈ aw := awl_2 190 rfl rfl
theorem aw_431 : Jvm.Cond.methodLink "CodeWordsModel" (64 : Nat) y_M_one ∈ aw := awl_2 191 rfl rfl
theorem aw_433 : Jvm.Cond.instanceMethod y_M_one ∈ aw := awl_2 193 rfl rfl
theorem aw_434 : Jvm.Cond.code y_M_one b_M_one (4 : Nat) (Option.none : Option Jvm.ClassFile.FieldType) ∈ aw := awl_2 194 rfl rfl
theorem aw_435 : Jvm.Cond.methodLink "CodeWordsModel" (67 : Nat) y_M_layJump ∈ aw := awl_2 195 rfl rfl
theorem aw_437 : Jvm.Cond.instanceMethod y_M_layJump ∈ aw := awl_2 197 rfl rfl
theorem aw_438 : Jvm.Cond.code y_M_layJump b_M_layJump (3 : Nat) (Option.none : Option Jvm.ClassFile.FieldType) ∈ aw := awl_2 198 rfl rfl
theorem aw_439 : Jvm.Cond.fieldLink "CodeWordsModel" (26 : Nat) "CodeWordsModel" "thrown" "I" ∈ aw := awl_2 199 rfl rfl
theorem aw_440 : Jvm.Cond.fieldLink "CodeWordsModel" (7 : Nat) "CodeWordsModel" "row" "[I" ∈ aw := awl_2 200 rfl rfl
theorem aw_441 : Jvm.Cond.fieldLink "CodeWordsModel" (13 : Nat) "CodeWordsModel" "part" "[I" ∈ aw := awl_2 201 rfl rfl
theorem aw_442 : Jvm.Cond.fieldLink "CodeWordsModel" (16 : Nat) "CodeWordsModel" "out" "[I" ∈ aw := awl_2 202 rfl rfl
theorem aw_443 : Jvm.Cond.fieldLink "CodeWordsModel" (382 : Nat) "CodeWordsModel" "size" "I" ∈ aw := awl_2 203 rfl rfl
theorem aw_444 : Jvm.Cond.fieldLink "CodeWordsModel" (396 : Nat) "CodeWordsModel" "begun" "Z" ∈ aw := awl_2 204 rfl rfl
theorem aw_445 : Jvm.Cond.lays "CodeWordsModel" "CodeWordsModel" "thrown" "I" ∈ aw := awl_2 205 rfl rfl
theorem aw_446 : Jvm.Cond.soleField "CodeWordsModel" "thrown" ∈ aw := awl_2 206 rfl rfl
theorem aw_447 : Jvm.Cond.laysFinal "CodeWordsModel" "CodeWordsModel" "row" "[I" ∈ aw := awl_2 207 rfl rfl
theorem aw_448 : Jvm.Cond.soleField "CodeWordsModel" "row" ∈ aw := awl_2 208 rfl rfl
theorem aw_449 : Jvm.Cond.laysFinal "CodeWordsModel" "CodeWordsModel" "part" "[I" ∈ aw := awl_2 209 rfl rfl
theorem aw_450 : Jvm.Cond.soleField "CodeWordsModel" "part" ∈ aw := awl_2 210 rfl rfl
theorem aw_451 : Jvm.Cond.laysFinal "CodeWordsModel" "CodeWordsModel" "out" "[I" ∈ aw := awl_2 211 rfl rfl
theorem aw_452 : Jvm.Cond.soleField "CodeWordsModel" "out" ∈ aw := awl_2 212 rfl rfl
theorem aw_453 : Jvm.Cond.lays "CodeWordsModel" "CodeWordsModel" "size" "I" ∈ aw := awl_2 213 rfl rfl
theorem aw_454 : Jvm.Cond.soleField "CodeWordsModel" "size" ∈ aw := awl_2 214 rfl rfl
theorem aw_455 : Jvm.Cond.lays "CodeWordsModel" "CodeWordsModel" "begun" "Z" ∈ aw := awl_2 215 rfl rfl
theorem aw_456 : Jvm.Cond.soleField "CodeWordsModel" "begun" ∈ aw := awl_2 216 rfl rfl
theorem aw_457 : Jvm.Cond.superclass "CodeWordsModel" "java/lang/Object" ∈ aw := awl_2 217 rfl rfl
theorem aw_458 : Jvm.Cond.arrayClass Jvm.ClassFile.FieldType.int ∈ aw := awl_2 218 rfl rfl
theorem aw_459 : Jvm.Cond.methodLink "CodeWordsLaw" (41 : Nat) y_M_thrown ∈ aw := awl_2 219 rfl rfl
theorem aw_460 : Jvm.Cond.instanceMethod y_M_thrown ∈ aw := awl_2 220 rfl rfl
theorem aw_461 : Jvm.Cond.selects "CodeWordsModel" y_M_thrown y_M_thrown ∈ aw := awl_2 221 rfl rfl
theorem aw_462 : Jvm.Cond.code y_M_thrown b_M_thrown (1 : Nat) (Option.some Jvm.ClassFile.FieldType.int) ∈ aw := awl_2 222 rfl rfl
theorem aw_463 : Jvm.Cond.methodLink "CodeWordsLaw" (40 : Nat) y_M_word ∈ aw := awl_2 223 rfl rfl
theorem aw_464 : Jvm.Cond.instanceMethod y_M_word ∈ aw := awl_2 224 rfl rfl
theorem aw_465 : Jvm.Cond.selects "CodeWordsModel" y_M_word y_M_word ∈ aw := awl_2 225 rfl rfl
theorem aw_466 : Jvm.Cond.code y_M_word b_M_word (6 : Nat) (Option.some Jvm.ClassFile.FieldType.int) ∈ aw := awl_2 226 rfl rfl
theorem aw_467 : Jvm.Cond.methodLink "CodeWordsModel" (148 : Nat) y_M_isKind ∈ aw := awl_2 227 rfl rfl
theorem aw_468 : Jvm.Cond.static y_M_isKind ∈ aw := awl_2 228 rfl rfl
theorem aw_469 : Jvm.Cond.code y_M_isKind b_M_isKind (1 : Nat) (Option.some Jvm.ClassFile.FieldType.boolean) ∈ aw := awl_2 229 rfl rfl
theorem aw_470 : Jvm.Cond.methodLink "CodeWordsModel" (139 : Nat) y_M_areGood ∈ aw := awl_2 230 rfl rfl
theorem aw_472 : Jvm.Cond.instanceMethod y_M_areGood ∈ aw := awl_2 232 rfl rfl
theorem aw_473 : Jvm.Cond.code y_M_areGood b_M_areGood (3 : Nat) (Option.some Jvm.ClassFile.FieldType.boolean) ∈ aw := awl_2 233 rfl rfl
theorem aw_474 : Jvm.Cond.methodLink "CodeWordsModel" (124 : Nat) y_M_has ∈ aw := awl_2 234 rfl rfl
theorem aw_476 : Jvm.Cond.instanceMethod y_M_has ∈ aw := awl_2 236 rfl rfl
theorem aw_477 : Jvm.Cond.code y_M_has b_M_has (5 : Nat) (Option.some Jvm.ClassFile.FieldType.boolean) ∈ aw := awl_2 237 rfl rfl
theorem aw_478 : Jvm.Cond.methodLink "CodeWordsModel" (71 : Nat) y_M_bitsOf ∈ aw := awl_2 238 rfl rfl
theorem aw_479 : Jvm.Cond.static y_M_bitsOf ∈ aw := awl_2 239 rfl rfl
theorem aw_480 : Jvm.Cond.code y_M_bitsOf b_M_bitsOf (1 : Nat) (Option.some Jvm.ClassFile.FieldType.int) ∈ aw := awl_3 0 rfl rfl
theorem aw_481 : Jvm.Cond.methodLink "CodeWordsModel" (127 : Nat) y_M_isRegister ∈ aw := awl_3 1 rfl rfl
theorem aw_483 : Jvm.Cond.instanceMethod y_M_isRegister ∈ aw := awl_3 3 rfl rfl
theorem aw_484 : Jvm.Cond.code y_M_isRegister b_M_isRegister (4 : Nat) (Option.some Jvm.ClassFile.FieldType.boolean) ∈ aw := awl_3 4 rfl rfl
theorem aw_485 : Jvm.Cond.methodLink "CodeWordsModel" (74 : Nat) y_M_isShortPart ∈ aw := awl_3 5 rfl rfl
theorem aw_487 : Jvm.Cond.instanceMethod y_M_isShortPart ∈ aw := awl_3 7 rfl rfl
theorem aw_488 : Jvm.Cond.code y_M_isShortPart b_M_isShortPart (4 : Nat) (Option.some Jvm.ClassFile.FieldType.boolean) ∈ aw := awl_3 8 rfl rfl
theorem aw_489 : Jvm.Cond.methodLink "CodeWordsModel" (131 : Nat) y_M_isImmediate ∈ aw := awl_3 9 rfl rfl
theorem aw_490 : Jvm.Cond.static y_M_isImmediate ∈ aw := awl_3 10 rfl rfl
theorem aw_491 : Jvm.Cond.code y_M_isImmediate b_M_isImmediate (3 : Nat) (Option.some Jvm.ClassFile.FieldType.boolean) ∈ aw := awl_3 11 rfl rfl
theorem aw_492 : Jvm.Cond.constantLong "CodeWordsModel" (78 : Nat) (1048575 : Int64) ∈ aw := awl_3 12 rfl rfl
theorem aw_493 : Jvm.Cond.methodLink "CodeWordsModel" (80 : Nat) y_M_isStep ∈ aw := awl_3 13 rfl rfl
theorem aw_494 : Jvm.Cond.static y_M_isStep ∈ aw := awl_3 14 rfl rfl
theorem aw_495 : Jvm.Cond.code y_M_isStep b_M_isStep (8 : Nat) (Option.some Jvm.ClassFile.FieldType.boolean) ∈ aw := awl_3 15 rfl rfl
theorem aw_496 : Jvm.Cond.constantLong "CodeWordsModel" (84 : Nat) (-1048576 : Int64) ∈ aw := awl_3 16 rfl rfl
theorem aw_497 : Jvm.Cond.constantLong "CodeWordsModel" (86 : Nat) (1048574 : Int64) ∈ aw := awl_3 17 rfl rfl
theorem aw_498 : Jvm.Cond.constantLong "CodeWordsModel" (88 : Nat) (2 : Int64) ∈ aw := awl_3 18 rfl rfl
theorem aw_499 : Jvm.Cond.constantLong "CodeWordsModel" (90 : Nat) (-4096 : Int64) ∈ aw := awl_3 19 rfl rfl
theorem aw_500 : Jvm.Cond.constantLong "CodeWordsModel" (92 : Nat) (4094 : Int64) ∈ aw := awl_3 20 rfl rfl
theorem aw_501 : Jvm.Cond.constantLong "CodeWordsModel" (94 : Nat) (31 : Int64) ∈ aw := awl_3 21 rfl rfl
theorem aw_502 : Jvm.Cond.constantLong "CodeWordsModel" (96 : Nat) (-2048 : Int64) ∈ aw := awl_3 22 rfl rfl
theorem aw_503 : Jvm.Cond.constantLong "CodeWordsModel" (98 : Nat) (2047 : Int64) ∈ aw := awl_3 23 rfl rfl
theorem aw_504 : Jvm.Cond.constantLong "CodeWordsModel" (100 : Nat) (4 : Int64) ∈ aw := awl_3 24 rfl rfl
theorem aw_505 : Jvm.Cond.constantLong "CodeWordsModel" (102 : Nat) (1020 : Int64) ∈ aw := awl_3 25 rfl rfl
theorem aw_506 : Jvm.Cond.constantLong "CodeWordsModel" (104 : Nat) (124 : Int64) ∈ aw := awl_3 26 rfl rfl
theorem aw_507 : Jvm.Cond.constantLong "CodeWordsModel" (106 : Nat) (-32 : Int64) ∈ aw := awl_3 27 rfl rfl
theorem aw_508 : Jvm.Cond.constantLong "CodeWordsModel" (108 : Nat) (2046 : Int64) ∈ aw := awl_3 28 rfl rfl
theorem aw_509 : Jvm.Cond.constantLong "CodeWordsModel" (110 : Nat) (-512 : Int64) ∈ aw := awl_3 29 rfl rfl
theorem aw_510 : Jvm.Cond.constantLong "CodeWordsModel" (112 : Nat) (496 : Int64) ∈ aw := awl_3 30 rfl rfl
theorem aw_511 : Jvm.Cond.constantLong "CodeWordsModel" (114 : Nat) (16 : Int64) ∈ aw := awl_3 31 rfl rfl
theorem aw_512 : Jvm.Cond.constantLong "CodeWordsModel" (116 : Nat) (1048544 : Int64) ∈ aw := awl_3 32 rfl rfl
theorem aw_513 : Jvm.Cond.constantLong "CodeWordsModel" (118 : Nat) (-256 : Int64) ∈ aw := awl_3 33 rfl rfl
theorem aw_514 : Jvm.Cond.constantLong "CodeWordsModel" (120 : Nat) (254 : Int64) ∈ aw := awl_3 34 rfl rfl
theorem aw_515 : Jvm.Cond.constantLong "CodeWordsModel" (122 : Nat) (252 : Int64) ∈ aw := awl_3 35 rfl rfl
theorem aw_516 : Jvm.Cond.methodLink "CodeWordsModel" (151 : Nat) y_M_put ∈ aw := awl_3 36 rfl rfl
theorem aw_518 : Jvm.Cond.instanceMethod y_M_put ∈ aw := awl_3 38 rfl rfl
theorem aw_519 : Jvm.Cond.code y_M_put b_M_put (6 : Nat) (Option.some Jvm.ClassFile.FieldType.int) ∈ aw := awl_3 39 rfl rfl
theorem aw_520 : Jvm.Cond.methodLink "CodeWordsLaw" (48 : Nat) y_M_kind ∈ aw := awl_3 40 rfl rfl
theorem aw_521 : Jvm.Cond.instanceMethod y_M_kind ∈ aw := awl_3 41 rfl rfl
theorem aw_522 : Jvm.Cond.selects "CodeWordsModel" y_M_kind y_M_kind ∈ aw := awl_3 42 rfl rfl
theorem aw_523 : Jvm.Cond.code y_M_kind b_M_kind (2 : Nat) (Option.some Jvm.ClassFile.FieldType.int) ∈ aw := awl_3 43 rfl rfl
theorem aw_524 : Jvm.Cond.methodLink "CodeWordsModel" (154 : Nat) y_M_find ∈ aw := awl_3 44 rfl rfl
theorem aw_526 : Jvm.Cond.instanceMethod y_M_find ∈ aw := awl_3 46 rfl rfl
theorem aw_527 : Jvm.Cond.code y_M_find b_M_find (5 : Nat) (Option.some Jvm.ClassFile.FieldType.int) ∈ aw := awl_3 47 rfl rfl
theorem aw_528 : Jvm.Cond.methodLink "CodeWordsModel" (142 : Nat) y_M_isLong ∈ aw := awl_3 48 rfl rfl
theorem aw_529 : Jvm.Cond.static y_M_isLong ∈ aw := awl_3 49 rfl rfl
theorem aw_530 : Jvm.Cond.code y_M_isLong b_M_isLong (1 : Nat) (Option.some Jvm.ClassFile.FieldType.boolean) ∈ aw := awl_3 50 rfl rfl
theorem aw_531 : Jvm.Cond.methodLink "CodeWordsModel" (145 : Nat) y_M_take ∈ aw := awl_3 51 rfl rfl
theorem aw_533 : Jvm.Cond.instanceMethod y_M_take ∈ aw := awl_3 53 rfl rfl
theorem aw_534 : Jvm.Cond.code y_M_take b_M_take (6 : Nat) (Option.some Jvm.ClassFile.FieldType.boolean) ∈ aw := awl_3 54 rfl rfl
theorem aw_535 : Jvm.Cond.methodLink "CodeWordsModel" (135 : Nat) y_M_signOf ∈ aw := awl_3 55 rfl rfl
theorem aw_536 : Jvm.Cond.static y_M_signOf ∈ aw := awl_3 56 rfl rfl
theorem aw_537 : Jvm.Cond.code y_M_signOf b_M_signOf (1 : Nat) (Option.some Jvm.ClassFile.FieldType.int) ∈ aw := awl_3 57 rfl rfl
theorem aw_538 : Jvm.Cond.constant "CodeWordsModel" (138 : Nat) (1048575 : Int32) ∈ aw := awl_3 58 rfl rfl
theorem aw_539 : Jvm.Cond.methodLink "CodeWordsLaw" (52 : Nat) y_M_size ∈ aw := awl_3 59 rfl rfl
theorem aw_540 : Jvm.Cond.instanceMethod y_M_size ∈ aw := awl_3 60 rfl rfl
theorem aw_541 : Jvm.Cond.selects "CodeWordsModel" y_M_size y_M_size ∈ aw := awl_3 61 rfl rfl
theorem aw_542 : Jvm.Cond.code y_M_size b_M_size (2 : Nat) (Option.some Jvm.ClassFile.FieldType.int) ∈ aw := awl_3 62 rfl rfl
theorem aw_543 : Jvm.Cond.methodLink "CodeWordsLaw" (56 : Nat) y_M_part ∈ aw := awl_3 63 rfl rfl
theorem aw_544 : Jvm.Cond.instanceMethod y_M_part ∈ aw := awl_3 64 rfl rfl
theorem aw_545 : Jvm.Cond.selects "CodeWordsModel" y_M_part y_M_part ∈ aw := awl_3 65 rfl rfl
theorem aw_546 : Jvm.Cond.code y_M_part b_M_part (4 : Nat) (Option.some Jvm.ClassFile.FieldType.int) ∈ aw := awl_3 66 rfl rfl
theorem aw_547 : Jvm.Cond.methodLink "CodeWordsLaw" (60 : Nat) y_M_longer ∈ aw := awl_3 67 rfl rfl
theorem aw_548 : Jvm.Cond.instanceMethod y_M_longer ∈ aw := awl_3 68 rfl rfl
theorem aw_549 : Jvm.Cond.selects "CodeWordsModel" y_M_longer y_M_longer ∈ aw := awl_3 69 rfl rfl
theorem aw_550 : Jvm.Cond.code y_M_longer b_M_longer (3 : Nat) (Option.some Jvm.ClassFile.FieldType.int) ∈ aw := awl_3 70 rfl rfl
theorem aw_551 : Jvm.Cond.methodLink "CodeWordsModel" (160 : Nat) y_M_stretch ∈ aw := awl_3 71 rfl rfl
theorem aw_553 : Jvm.Cond.instanceMethod y_M_stretch ∈ aw := awl_3 73 rfl rfl
theorem aw_554 : Jvm.Cond.code y_M_stretch b_M_stretch (5 : Nat) (Option.some Jvm.ClassFile.FieldType.int) ∈ aw := awl_3 74 rfl rfl
theorem aw_555 : Jvm.Cond.methodLink "CodeWordsModel" (157 : Nat) y_M_longKind ∈ aw := awl_3 75 rfl rfl
theorem aw_556 : Jvm.Cond.static y_M_longKind ∈ aw := awl_3 76 rfl rfl
theorem aw_557 : Jvm.Cond.code y_M_longKind b_M_longKind (1 : Nat) (Option.some Jvm.ClassFile.FieldType.int) ∈ aw := awl_3 77 rfl rfl
theorem aw_558 : Jvm.Cond.methodLink "CodeWordsLaw" (64 : Nat) y_M_shorter ∈ aw := awl_3 78 rfl rfl
theorem aw_559 : Jvm.Cond.instanceMethod y_M_shorter ∈ aw := awl_3 79 rfl rfl
theorem aw_560 : Jvm.Cond.selects "CodeWordsModel" y_M_shorter y_M_shorter ∈ aw := awl_3 80 rfl rfl
theorem aw_561 : Jvm.Cond.code y_M_shorter b_M_shorter (5 : Nat) (Option.some Jvm.ClassFile.FieldType.int) ∈ aw := awl_3 81 rfl rfl
theorem aw_562 : Jvm.Cond.methodLink "CodeWordsModel" (163 : Nat) y_M_shrink ∈ aw := awl_3 82 rfl rfl
theorem aw_564 : Jvm.Cond.instanceMethod y_M_shrink ∈ aw := awl_3 84 rfl rfl
theorem aw_565 : Jvm.Cond.code y_M_shrink b_M_shrink (5 : Nat) (Option.some Jvm.ClassFile.FieldType.int) ∈ aw := awl_3 85 rfl rfl
theorem aw_566 : Jvm.Cond.methodLink "CodeWordsLaw" (75 : Nat) y_M_may ∈ aw := awl_3 86 rfl rfl
theorem aw_567 : Jvm.Cond.instanceMethod y_M_may ∈ aw := awl_3 87 rfl rfl
theorem aw_568 : Jvm.Cond.selects "CodeWordsModel" y_M_may y_M_may ∈ aw := awl_3 88 rfl rfl
theorem aw_569 : Jvm.Cond.code y_M_may b_M_may (4 : Nat) (Option.some Jvm.ClassFile.FieldType.boolean) ∈ aw := awl_3 89 rfl rfl
theorem aw_570 : Jvm.Cond.methodLink "CodeWordsLaw" (70 : Nat) y_M_fit ∈ aw := awl_3 90 rfl rfl
theorem aw_571 : Jvm.Cond.instanceMethod y_M_fit ∈ aw := awl_3 91 rfl rfl
theorem aw_572 : Jvm.Cond.selects "CodeWordsModel" y_M_fit y_M_fit ∈ aw := awl_3 92 rfl rfl
theorem aw_573 : Jvm.Cond.code y_M_fit b_M_fit (5 : Nat) (Option.some Jvm.ClassFile.FieldType.int) ∈ aw := awl_3 93 rfl rfl
theorem aw_574 : Jvm.Cond.methodLink "CodeWordsLaw" (79 : Nat) y_M_tell ∈ aw := awl_3 94 rfl rfl
theorem aw_575 : Jvm.Cond.instanceMethod y_M_tell ∈ aw := awl_3 95 rfl rfl
theorem aw_576 : Jvm.Cond.selects "CodeWordsModel" y_M_tell y_M_tell ∈ aw := awl_3 96 rfl rfl
theorem aw_577 : Jvm.Cond.code y_M_tell b_M_tell (4 : Nat) (Option.some Jvm.ClassFile.FieldType.int) ∈ aw := awl_3 97 rfl rfl
theorem aw_578 : Jvm.Cond.methodLink "CodeWordsModel" (429 : Nat) y_M_nameOf ∈ aw := awl_3 98 rfl rfl
theorem aw_579 : Jvm.Cond.static y_M_nameOf ∈ aw := awl_3 99 rfl rfl
theorem aw_580 : Jvm.Cond.code y_M_nameOf b_M_nameOf (1 : Nat) (Option.some Jvm.ClassFile.FieldType.long) ∈ aw := awl_3 100 rfl rfl
theorem aw_581 : Jvm.Cond.constantLong "CodeWordsModel" (166 : Nat) (20049 : Int64) ∈ aw := awl_3 101 rfl rfl
theorem aw_582 : Jvm.Cond.constantLong "CodeWordsModel" (168 : Nat) (3919043 : Int64) ∈ aw := awl_3 102 rfl rfl
theorem aw_583 : Jvm.Cond.constantLong "CodeWordsModel" (170 : Nat) (16052 : Int64) ∈ aw := awl_3 103 rfl rfl
theorem aw_584 : Jvm.Cond.constantLong "CodeWordsModel" (172 : Nat) (642098 : Int64) ∈ aw := awl_3 104 rfl rfl
theorem aw_585 : Jvm.Cond.constantLong "CodeWordsModel" (174 : Nat) (3417 : Int64) ∈ aw := awl_3 105 rfl rfl
theorem aw_586 : Jvm.Cond.constantLong "CodeWordsModel" (176 : Nat) (3765 : Int64) ∈ aw := awl_3 106 rfl rfl
theorem aw_587 : Jvm.Cond.constantLong "CodeWordsModel" (178 : Nat) (3700 : Int64) ∈ aw := awl_3 107 rfl rfl
theorem aw_588 : Jvm.Cond.constantLong "CodeWordsModel" (180 : Nat) (3485 : Int64) ∈ aw := awl_3 108 rfl rfl
theorem aw_589 : Jvm.Cond.constantLong "CodeWordsModel" (182 : Nat) (148021 : Int64) ∈ aw := awl_3 109 rfl rfl
theorem aw_590 : Jvm.Cond.constantLong "CodeWordsModel" (184 : Nat) (139421 : Int64) ∈ aw := awl_3 110 rfl rfl
theorem aw_591 : Jvm.Cond.constantLong "CodeWordsModel" (186 : Nat) (482 : Int64) ∈ aw := awl_3 111 rfl rfl
theorem aw_592 : Jvm.Cond.constantLong "CodeWordsModel" (188 : Nat) (488 : Int64) ∈ aw := awl_3 112 rfl rfl
theorem aw_593 : Jvm.Cond.constantLong "CodeWordsModel" (190 : Nat) (503 : Int64) ∈ aw := awl_3 113 rfl rfl
theorem aw_594 : Jvm.Cond.constantLong "CodeWordsModel" (192 : Nat) (19301 : Int64) ∈ aw := awl_3 114 rfl rfl
theorem aw_595 : Jvm.Cond.constantLong "CodeWordsModel" (194 : Nat) (19541 : Int64) ∈ aw := awl_3 115 rfl rfl
theorem aw_596 : Jvm.Cond.constantLong "CodeWordsModel" (196 : Nat) (762 : Int64) ∈ aw := awl_3 116 rfl rfl
theorem aw_597 : Jvm.Cond.constantLong "CodeWordsModel" (198 : Nat) (768 : Int64) ∈ aw := awl_3 117 rfl rfl
theorem aw_598 : Jvm.Cond.constantLong "CodeWordsModel" (200 : Nat) (783 : Int64) ∈ aw := awl_3 118 rfl rfl
theorem aw_599 : Jvm.Cond.constantLong "CodeWordsModel" (202 : Nat) (70569 : Int64) ∈ aw := awl_3 119 rfl rfl
theorem aw_600 : Jvm.Cond.constantLong "CodeWordsModel" (204 : Nat) (1236009 : Int64) ∈ aw := awl_3 120 rfl rfl
theorem aw_601 : Jvm.Cond.constantLong "CodeWordsModel" (206 : Nat) (49440381 : Int64) ∈ aw := awl_3 121 rfl rfl
theorem aw_602 : Jvm.Cond.constantLong "CodeWordsModel" (208 : Nat) (1560729 : Int64) ∈ aw := awl_3 122 rfl rfl
theorem aw_603 : Jvm.Cond.constantLong "CodeWordsModel" (210 : Nat) (24729 : Int64) ∈ aw := awl_3 123 rfl rfl
theorem aw_604 : Jvm.Cond.constantLong "CodeWordsModel" (212 : Nat) (86569 : Int64) ∈ aw := awl_3 124 rfl rfl
theorem aw_605 : Jvm.Cond.constantLong "CodeWordsModel" (214 : Nat) (1235689 : Int64) ∈ aw := awl_3 125 rfl rfl
theorem aw_606 : Jvm.Cond.constantLong "CodeWordsModel" (216 : Nat) (1245289 : Int64) ∈ aw := awl_3 126 rfl rfl
theorem aw_607 : Jvm.Cond.constantLong "CodeWordsModel" (218 : Nat) (1244849 : Int64) ∈ aw := awl_3 127 rfl rfl
theorem aw_608 : Jvm.Cond.constantLong "CodeWordsModel" (220 : Nat) (1764 : Int64) ∈ aw := awl_3 128 rfl rfl
theorem aw_609 : Jvm.Cond.constantLong "CodeWordsModel" (222 : Nat) (31242 : Int64) ∈ aw := awl_3 129 rfl rfl
theorem aw_610 : Jvm.Cond.constantLong "CodeWordsModel" (224 : Nat) (30892 : Int64) ∈ aw := awl_3 130 rfl rfl
theorem aw_611 : Jvm.Cond.constantLong "CodeWordsModel" (226 : Nat) (30900 : Int64) ∈ aw := awl_3 131 rfl rfl
theorem aw_612 : Jvm.Cond.constantLong "CodeWordsModel" (228 : Nat) (1236021 : Int64) ∈ aw := awl_3 132 rfl rfl
theorem aw_613 : Jvm.Cond.constantLong "CodeWordsModel" (230 : Nat) (39018 : Int64) ∈ aw := awl_3 133 rfl rfl
theorem aw_614 : Jvm.Cond.constantLong "CodeWordsModel" (232 : Nat) (31132 : Int64) ∈ aw := awl_3 134 rfl rfl
theorem aw_615 : Jvm.Cond.constantLong "CodeWordsModel" (234 : Nat) (31121 : Int64) ∈ aw := awl_3 135 rfl rfl
theorem aw_616 : Jvm.Cond.constantLong "CodeWordsModel" (236 : Nat) (618 : Int64) ∈ aw := awl_3 136 rfl rfl
theorem aw_617 : Jvm.Cond.constantLong "CodeWordsModel" (238 : Nat) (2164 : Int64) ∈ aw := awl_3 137 rfl rfl
theorem aw_618 : Jvm.Cond.constantLong "CodeWordsModel" (240 : Nat) (21652 : Int64) ∈ aw := awl_3 138 rfl rfl
theorem aw_619 : Jvm.Cond.constantLong "CodeWordsModel" (242 : Nat) (866088 : Int64) ∈ aw := awl_3 139 rfl rfl
theorem aw_620 : Jvm.Cond.constantLong "CodeWordsModel" (244 : Nat) (1385741581 : Int64) ∈ aw := awl_3 140 rfl rfl
theorem aw_621 : Jvm.Cond.constantLong "CodeWordsModel" (246 : Nat) (34643541 : Int64) ∈ aw := awl_3 141 rfl rfl
theorem aw_622 : Jvm.Cond.constantLong "CodeWordsModel" (248 : Nat) (6782 : Int64) ∈ aw := awl_3 142 rfl rfl
theorem aw_623 : Jvm.Cond.constantLong "CodeWordsModel" (250 : Nat) (271301 : Int64) ∈ aw := awl_3 143 rfl rfl
theorem aw_624 : Jvm.Cond.constantLong "CodeWordsModel" (252 : Nat) (29013 : Int64) ∈ aw := awl_3 144 rfl rfl
theorem aw_625 : Jvm.Cond.constantLong "CodeWordsModel" (254 : Nat) (1160541 : Int64) ∈ aw := awl_3 145 rfl rfl
theorem aw_626 : Jvm.Cond.constantLong "CodeWordsModel" (256 : Nat) (15702525 : Int64) ∈ aw := awl_3 146 rfl rfl
theorem aw_627 : Jvm.Cond.constantLong "CodeWordsModel" (258 : Nat) (12994092 : Int64) ∈ aw := awl_3 147 rfl rfl
theorem aw_628 : Jvm.Cond.constantLong "CodeWordsModel" (260 : Nat) (518280051 : Int64) ∈ aw := awl_3 148 rfl rfl
theorem aw_629 : Jvm.Cond.constantLong "CodeWordsModel" (262 : Nat) (1029095858655054 : Int64) ∈ aw := awl_3 149 rfl rfl
theorem aw_630 : Jvm.Cond.constantLong "CodeWordsModel" (264 : Nat) (251703 : Int64) ∈ aw := awl_3 150 rfl rfl
theorem aw_631 : Jvm.Cond.constantLong "CodeWordsModel" (266 : Nat) (251983 : Int64) ∈ aw := awl_3 151 rfl rfl
theorem aw_632 : Jvm.Cond.constantLong "CodeWordsModel" (268 : Nat) (10071016 : Int64) ∈ aw := awl_3 152 rfl rfl
theorem aw_633 : Jvm.Cond.constantLong "CodeWordsModel" (270 : Nat) (401990569 : Int64) ∈ aw := awl_3 153 rfl rfl
theorem aw_634 : Jvm.Cond.constantLong "CodeWordsModel" (272 : Nat) (10064052 : Int64) ∈ aw := awl_3 154 rfl rfl
theorem aw_635 : Jvm.Cond.constantLong "CodeWordsModel" (274 : Nat) (251689 : Int64) ∈ aw := awl_3 155 rfl rfl
theorem aw_636 : Jvm.Cond.constantLong "CodeWordsModel" (276 : Nat) (1029095858485576 : Int64) ∈ aw := awl_3 156 rfl rfl
theorem aw_637 : Jvm.Cond.constantLong "CodeWordsModel" (278 : Nat) (10068049 : Int64) ∈ aw := awl_3 157 rfl rfl
theorem aw_638 : Jvm.Cond.constantLong "CodeWordsModel" (280 : Nat) (403165289 : Int64) ∈ aw := awl_3 158 rfl rfl
theorem aw_639 : Jvm.Cond.constantLong "CodeWordsModel" (282 : Nat) (403164849 : Int64) ∈ aw := awl_3 159 rfl rfl
theorem aw_640 : Jvm.Cond.constantLong "CodeWordsModel" (284 : Nat) (402006569 : Int64) ∈ aw := awl_3 160 rfl rfl
theorem aw_641 : Jvm.Cond.constantLong "CodeWordsModel" (286 : Nat) (10079242 : Int64) ∈ aw := awl_3 161 rfl rfl
theorem aw_642 : Jvm.Cond.constantLong "CodeWordsModel" (288 : Nat) (10087018 : Int64) ∈ aw := awl_3 162 rfl rfl
theorem aw_643 : Jvm.Cond.constantLong "CodeWordsModel" (290 : Nat) (251818 : Int64) ∈ aw := awl_3 163 rfl rfl
theorem aw_644 : Jvm.Cond.constantLong "CodeWordsModel" (292 : Nat) (10050164 : Int64) ∈ aw := awl_3 164 rfl rfl
theorem aw_645 : Jvm.Cond.constantLong "CodeWordsModel" (294 : Nat) (6290 : Int64) ∈ aw := awl_3 165 rfl rfl
theorem aw_646 : Jvm.Cond.constantLong "CodeWordsModel" (296 : Nat) (402056706 : Int64) ∈ aw := awl_3 166 rfl rfl
theorem aw_647 : Jvm.Cond.constantLong "CodeWordsModel" (298 : Nat) (402070626 : Int64) ∈ aw := awl_3 167 rfl rfl
theorem aw_648 : Jvm.Cond.constantLong "CodeWordsModel" (300 : Nat) (403155689 : Int64) ∈ aw := awl_3 168 rfl rfl
theorem aw_649 : Jvm.Cond.constantLong "CodeWordsModel" (302 : Nat) (402725576 : Int64) ∈ aw := awl_3 169 rfl rfl
theorem aw_650 : Jvm.Cond.constantLong "CodeWordsModel" (304 : Nat) (251618 : Int64) ∈ aw := awl_3 170 rfl rfl
theorem aw_651 : Jvm.Cond.constantLong "CodeWordsModel" (306 : Nat) (251742 : Int64) ∈ aw := awl_3 171 rfl rfl
theorem aw_652 : Jvm.Cond.constantLong "CodeWordsModel" (308 : Nat) (643590280051 : Int64) ∈ aw := awl_3 172 rfl rfl
theorem aw_653 : Jvm.Cond.constantLong "CodeWordsModel" (310 : Nat) (402562098 : Int64) ∈ aw := awl_3 173 rfl rfl
theorem aw_654 : Jvm.Cond.constantLong "CodeWordsModel" (312 : Nat) (10049764 : Int64) ∈ aw := awl_3 174 rfl rfl
theorem aw_655 : Jvm.Cond.constantLong "CodeWordsModel" (314 : Nat) (403173576 : Int64) ∈ aw := awl_3 175 rfl rfl
theorem aw_656 : Jvm.Cond.methodLink "CodeWordsModel" (407 : Nat) y_M_sayName ∈ aw := awl_3 176 rfl rfl
theorem aw_658 : Jvm.Cond.instanceMethod y_M_sayName ∈ aw := awl_3 178 rfl rfl
theorem aw_659 : Jvm.Cond.code y_M_sayName b_M_sayName (8 : Nat) (Option.none : Option Jvm.ClassFile.FieldType) ∈ aw := awl_3 179 rfl rfl
theorem aw_660 : Jvm.Cond.methodLink "CodeWordsModel" (385 : Nat) y_M_lettersOf ∈ aw := awl_3 180 rfl rfl
theorem aw_661 : Jvm.Cond.static y_M_lettersOf ∈ aw := awl_3 181 rfl rfl
theorem aw_662 : Jvm.Cond.code y_M_lettersOf b_M_lettersOf (5 : Nat) (Option.some Jvm.ClassFile.FieldType.int) ∈ aw := awl_3 182 rfl rfl
theorem aw_663 : Jvm.Cond.constantLong "CodeWordsModel" (380 : Nat) (40 : Int64) ∈ aw := awl_3 183 rfl rfl
theorem aw_664 : Jvm.Cond.methodLink "CodeWordsModel" (389 : Nat) y_M_say ∈ aw := awl_3 184 rfl rfl
theorem aw_666 : Jvm.Cond.instanceMethod y_M_say ∈ aw := awl_3 186 rfl rfl
theorem aw_667 : Jvm.Cond.code y_M_say b_M_say (2 : Nat) (Option.none : Option Jvm.ClassFile.FieldType) ∈ aw := awl_3 187 rfl rfl
theorem aw_668 : Jvm.Cond.methodLink "CodeWordsModel" (432 : Nat) y_M_patternOf ∈ aw := awl_3 188 rfl rfl
theorem aw_669 : Jvm.Cond.static y_M_patternOf ∈ aw := awl_3 189 rfl rfl
theorem aw_670 : Jvm.Cond.code y_M_patternOf b_M_patternOf (1 : Nat) (Option.some Jvm.ClassFile.FieldType.int) ∈ aw := awl_3 190 rfl rfl
theorem aw_671 : Jvm.Cond.methodLink "CodeWordsModel" (435 : Nat) y_M_operands ∈ aw := awl_3 191 rfl rfl
theorem aw_673 : Jvm.Cond.instanceMethod y_M_operands ∈ aw := awl_3 193 rfl rfl
theorem aw_674 : Jvm.Cond.code y_M_operands b_M_operands (4 : Nat) (Option.none : Option Jvm.ClassFile.FieldType) ∈ aw := awl_3 194 rfl rfl
theorem aw_675 : Jvm.Cond.methodLink "CodeWordsModel" (417 : Nat) y_M_register ∈ aw := awl_3 195 rfl rfl
theorem aw_677 : Jvm.Cond.instanceMethod y_M_register ∈ aw := awl_3 197 rfl rfl
theorem aw_678 : Jvm.Cond.code y_M_register b_M_register (2 : Nat) (Option.none : Option Jvm.ClassFile.FieldType) ∈ aw := awl_3 198 rfl rfl
theorem aw_679 : Jvm.Cond.methodLink "CodeWordsModel" (400 : Nat) y_M_ahead ∈ aw := awl_3 199 rfl rfl
theorem aw_681 : Jvm.Cond.instanceMethod y_M_ahead ∈ aw := awl_3 201 rfl rfl
theorem aw_682 : Jvm.Cond.code y_M_ahead b_M_ahead (1 : Nat) (Option.none : Option Jvm.ClassFile.FieldType) ∈ aw := awl_3 202 rfl rfl
theorem aw_683 : Jvm.Cond.methodLink "CodeWordsModel" (403 : Nat) y_M_registerOf ∈ aw := awl_3 203 rfl rfl
theorem aw_684 : Jvm.Cond.static y_M_registerOf ∈ aw := awl_3 204 rfl rfl
theorem aw_685 : Jvm.Cond.code y_M_registerOf b_M_registerOf (1 : Nat) (Option.some Jvm.ClassFile.FieldType.long) ∈ aw := awl_3 205 rfl rfl
theorem aw_686 : Jvm.Cond.constantLong "CodeWordsModel" (316 : Nat) (1672735 : Int64) ∈ aw := awl_3 206 rfl rfl
theorem aw_687 : Jvm.Cond.constantLong "CodeWordsModel" (318 : Nat) (721 : Int64) ∈ aw := awl_3 207 rfl rfl
theorem aw_688 : Jvm.Cond.constantLong "CodeWordsModel" (320 : Nat) (776 : Int64) ∈ aw := awl_3 208 rfl rfl
theorem aw_689 : Jvm.Cond.constantLong "CodeWordsModel" (322 : Nat) (296 : Int64) ∈ aw := awl_3 209 rfl rfl
theorem aw_690 : Jvm.Cond.constantLong "CodeWordsModel" (324 : Nat) (816 : Int64) ∈ aw := awl_3 210 rfl rfl
theorem aw_691 : Jvm.Cond.constantLong "CodeWordsModel" (326 : Nat) (827 : Int64) ∈ aw := awl_3 211 rfl rfl
theorem aw_692 : Jvm.Cond.constantLong "CodeWordsModel" (328 : Nat) (828 : Int64) ∈ aw := awl_3 212 rfl rfl
theorem aw_693 : Jvm.Cond.constantLong "CodeWordsModel" (330 : Nat) (829 : Int64) ∈ aw := awl_3 213 rfl rfl
theorem aw_694 : Jvm.Cond.constantLong "CodeWordsModel" (332 : Nat) (787 : Int64) ∈ aw := awl_3 214 rfl rfl
theorem aw_695 : Jvm.Cond.constantLong "CodeWordsModel" (334 : Nat) (788 : Int64) ∈ aw := awl_3 215 rfl rfl
theorem aw_696 : Jvm.Cond.constantLong "CodeWordsModel" (336 : Nat) (67 : Int64) ∈ aw := awl_3 216 rfl rfl
theorem aw_697 : Jvm.Cond.constantLong "CodeWordsModel" (338 : Nat) (68 : Int64) ∈ aw := awl_3 217 rfl rfl
theorem aw_698 : Jvm.Cond.constantLong "CodeWordsModel" (340 : Nat) (69 : Int64) ∈ aw := awl_3 218 rfl rfl
theorem aw_699 : Jvm.Cond.constantLong "CodeWordsModel" (342 : Nat) (70 : Int64) ∈ aw := awl_3 219 rfl rfl
theorem aw_700 : Jvm.Cond.constantLong "CodeWordsModel" (344 : Nat) (71 : Int64) ∈ aw := awl_3 220 rfl rfl
theorem aw_701 : Jvm.Cond.constantLong "CodeWordsModel" (346 : Nat) (72 : Int64) ∈ aw := awl_3 221 rfl rfl
theorem aw_702 : Jvm.Cond.constantLong "CodeWordsModel" (348 : Nat) (73 : Int64) ∈ aw := awl_3 222 rfl rfl
theorem aw_703 : Jvm.Cond.constantLong "CodeWordsModel" (350 : Nat) (74 : Int64) ∈ aw := awl_3 223 rfl rfl
theorem aw_704 : Jvm.Cond.constantLong "CodeWordsModel" (352 : Nat) (789 : Int64) ∈ aw := awl_3 224 rfl rfl
theorem aw_705 : Jvm.Cond.constantLong "CodeWordsModel" (354 : Nat) (790 : Int64) ∈ aw := awl_3 225 rfl rfl
theorem aw_706 : Jvm.Cond.constantLong "CodeWordsModel" (356 : Nat) (791 : Int64) ∈ aw := awl_3 226 rfl rfl
theorem aw_707 : Jvm.Cond.constantLong "CodeWordsModel" (358 : Nat) (792 : Int64) ∈ aw := awl_3 227 rfl rfl
theorem aw_708 : Jvm.Cond.constantLong "CodeWordsModel" (360 : Nat) (793 : Int64) ∈ aw := awl_3 228 rfl rfl
theorem aw_709 : Jvm.Cond.constantLong "CodeWordsModel" (362 : Nat) (794 : Int64) ∈ aw := awl_3 229 rfl rfl
theorem aw_710 : Jvm.Cond.constantLong "CodeWordsModel" (364 : Nat) (795 : Int64) ∈ aw := awl_3 230 rfl rfl
theorem aw_711 : Jvm.Cond.constantLong "CodeWordsModel" (366 : Nat) (796 : Int64) ∈ aw := awl_3 231 rfl rfl
theorem aw_712 : Jvm.Cond.constantLong "CodeWordsModel" (368 : Nat) (31547 : Int64) ∈ aw := awl_3 232 rfl rfl
theorem aw_713 : Jvm.Cond.constantLong "CodeWordsModel" (370 : Nat) (31548 : Int64) ∈ aw := awl_3 233 rfl rfl
theorem aw_714 : Jvm.Cond.constantLong "CodeWordsModel" (372 : Nat) (830 : Int64) ∈ aw := awl_3 234 rfl rfl
theorem aw_715 : Jvm.Cond.constantLong "CodeWordsModel" (374 : Nat) (831 : Int64) ∈ aw := awl_3 235 rfl rfl
theorem aw_716 : Jvm.Cond.constantLong "CodeWordsModel" (376 : Nat) (832 : Int64) ∈ aw := awl_3 236 rfl rfl
theorem aw_717 : Jvm.Cond.constantLong "CodeWordsModel" (378 : Nat) (833 : Int64) ∈ aw := awl_3 237 rfl rfl
theorem aw_718 : Jvm.Cond.methodLink "CodeWordsModel" (420 : Nat) y_M_offset ∈ aw := awl_3 238 rfl rfl
theorem aw_720 : Jvm.Cond.instanceMethod y_M_offset ∈ aw := awl_4 0 rfl rfl
theorem aw_721 : Jvm.Cond.code y_M_offset b_M_offset (2 : Nat) (Option.none : Option Jvm.ClassFile.FieldType) ∈ aw := awl_4 1 rfl rfl
theorem aw_722 : Jvm.Cond.methodLink "CodeWordsModel" (411 : Nat) y_M_sayDecimal ∈ aw := awl_4 2 rfl rfl
theorem aw_724 : Jvm.Cond.instanceMethod y_M_sayDecimal ∈ aw := awl_4 4 rfl rfl
theorem aw_725 : Jvm.Cond.code y_M_sayDecimal b_M_sayDecimal (6 : Nat) (Option.none : Option Jvm.ClassFile.FieldType) ∈ aw := awl_4 5 rfl rfl
theorem aw_726 : Jvm.Cond.constantLong "CodeWordsModel" (392 : Nat) (9 : Int64) ∈ aw := awl_4 6 rfl rfl
theorem aw_727 : Jvm.Cond.constantLong "CodeWordsModel" (394 : Nat) (10 : Int64) ∈ aw := awl_4 7 rfl rfl
theorem aw_728 : Jvm.Cond.methodLink "CodeWordsModel" (423 : Nat) y_M_number ∈ aw := awl_4 8 rfl rfl
theorem aw_730 : Jvm.Cond.instanceMethod y_M_number ∈ aw := awl_4 10 rfl rfl
theorem aw_731 : Jvm.Cond.code y_M_number b_M_number (1 : Nat) (Option.none : Option Jvm.ClassFile.FieldType) ∈ aw := awl_4 11 rfl rfl
theorem aw_732 : Jvm.Cond.methodLink "CodeWordsModel" (426 : Nat) y_M_place ∈ aw := awl_4 12 rfl rfl
theorem aw_734 : Jvm.Cond.instanceMethod y_M_place ∈ aw := awl_4 14 rfl rfl
theorem aw_735 : Jvm.Cond.code y_M_place b_M_place (2 : Nat) (Option.none : Option Jvm.ClassFile.FieldType) ∈ aw := awl_4 15 rfl rfl
theorem aw_736 : Jvm.Cond.methodLink "CodeWordsModel" (414 : Nat) y_M_sayHexadecimal ∈ aw := awl_4 16 rfl rfl
theorem aw_738 : Jvm.Cond.instanceMethod y_M_sayHexadecimal ∈ aw := awl_4 18 rfl rfl
theorem aw_739 : Jvm.Cond.code y_M_sayHexadecimal b_M_sayHexadecimal (5 : Nat) (Option.none : Option Jvm.ClassFile.FieldType) ∈ aw := awl_4 19 rfl rfl
theorem aw_740 : Jvm.Cond.constantLong "CodeWordsModel" (438 : Nat) (1496724 : Int64) ∈ aw := awl_4 20 rfl rfl
theorem aw_741 : Jvm.Cond.constantLong "CodeWordsModel" (440 : Nat) (514086 : Int64) ∈ aw := awl_4 21 rfl rfl
theorem aw_742 : Jvm.Cond.constant "CodeWordsModel" (442 : Nat) (65535 : Int32) ∈ aw := awl_4 22 rfl rfl
theorem aw_743 : Jvm.Cond.methodLink "CodeWordsLaw" (83 : Nat) y_M_letter ∈ aw := awl_4 23 rfl rfl
theorem aw_744 : Jvm.Cond.instanceMethod y_M_letter ∈ aw := awl_4 24 rfl rfl
theorem aw_745 : Jvm.Cond.selects "CodeWordsModel" y_M_letter y_M_letter ∈ aw := awl_4 25 rfl rfl
theorem aw_746 : Jvm.Cond.code y_M_letter b_M_letter (2 : Nat) (Option.some Jvm.ClassFile.FieldType.int) ∈ aw := awl_4 26 rfl rfl
theorem aw_747 : Jvm.Cond.methodLink "CodeWordsLaw" (88 : Nat) y_M_named ∈ aw := awl_4 27 rfl rfl
theorem aw_748 : Jvm.Cond.instanceMethod y_M_named ∈ aw := awl_4 28 rfl rfl
theorem aw_749 : Jvm.Cond.selects "CodeWordsModel" y_M_named y_M_named ∈ aw := awl_4 29 rfl rfl
theorem aw_750 : Jvm.Cond.code y_M_named b_M_named (10 : Nat) (Option.some Jvm.ClassFile.FieldType.int) ∈ aw := awl_4 30 rfl rfl
theorem aw_751 : Jvm.Cond.constantLong "CodeWordsModel" (443 : Nat) (255 : Int64) ∈ aw := awl_4 31 rfl rfl
theorem aw_752 : Jvm.Cond.methodLink "CodeWordsModel" (445 : Nat) y_M_codeOf ∈ aw := awl_4 32 rfl rfl
theorem aw_753 : Jvm.Cond.static y_M_codeOf ∈ aw := awl_4 33 rfl rfl
theorem aw_754 : Jvm.Cond.code y_M_codeOf b_M_codeOf (1 : Nat) (Option.some Jvm.ClassFile.FieldType.int) ∈ aw := awl_4 34 rfl rfl
theorem aw_755 : Jvm.Cond.methodLink "CodeWordsLaw" (92 : Nat) y_M_about ∈ aw := awl_4 35 rfl rfl
theorem aw_756 : Jvm.Cond.instanceMethod y_M_about ∈ aw := awl_4 36 rfl rfl
theorem aw_757 : Jvm.Cond.selects "CodeWordsModel" y_M_about y_M_about ∈ aw := awl_4 37 rfl rfl
theorem aw_758 : Jvm.Cond.code y_M_about b_M_about (5 : Nat) (Option.some Jvm.ClassFile.FieldType.int) ∈ aw := awl_4 38 rfl rfl
theorem aw_759 : Jvm.Cond.constantLong "CodeWordsLaw" (65 : Nat) (4294967295 : Int64) ∈ aw := awl_4 39 rfl rfl
theorem aw_760 : Jvm.Cond.arrayClass Jvm.ClassFile.FieldType.long ∈ aw := awl_4 40 rfl rfl
theorem aw_761 : Jvm.Cond.sameMethod "java/lang/Throwable" "java/lang/Throwable" "fillInStackTrace" "(I)Ljava/lang/Throwable;" ∈ aw := awl_4 41 rfl rfl
theorem aw_762 : Jvm.Cond.fieldLink "CodeWords$Kind" (298 : Nat) "CodeWords$Kind" "parts" "I" ∈ aw := awl_4 42 rfl rfl
theorem aw_763 : Jvm.Cond.fieldLink "CodeWords$Kind" (259 : Nat) "CodeWords$Kind" "layout" "Ljava/lang/String;" ∈ aw := awl_4 43 rfl rfl
theorem aw_764 : Jvm.Cond.fieldLink "java/lang/String" (9 : Nat) "java/lang/String" "value" "[B" ∈ aw := awl_4 44 rfl rfl
theorem aw_765 : Jvm.Cond.fieldLink "java/lang/String" (15 : Nat) "java/lang/String" "coder" "B" ∈ aw := awl_4 45 rfl rfl
theorem aw_766 : Jvm.Cond.fieldLink "CodeWords$Kind" (311 : Nat) "CodeWords$Kind" "placeD" "I" ∈ aw := awl_4 46 rfl rfl
theorem aw_767 : Jvm.Cond.fieldLink "CodeWords$Kind" (314 : Nat) "CodeWords$Kind" "placeA" "I" ∈ aw := awl_4 47 rfl rfl
theorem aw_768 : Jvm.Cond.fieldLink "CodeWords$Kind" (317 : Nat) "CodeWords$Kind" "placeB" "I" ∈ aw := awl_4 48 rfl rfl
theorem aw_769 : Jvm.Cond.fieldLink "CodeWords$Kind" (272 : Nat) "CodeWords$Kind" "traits" "I" ∈ aw := awl_4 49 rfl rfl
theorem aw_770 : Jvm.Cond.fieldLink "CodeWords$Kind" (323 : Nat) "CodeWords$Kind" "highestBit" "I" ∈ aw := awl_4 50 rfl rfl
theorem aw_771 : Jvm.Cond.fieldLink "CodeWords$Kind" (320 : Nat) "CodeWords$Kind" "lowestBit" "I" ∈ aw := awl_4 51 rfl rfl
theorem aw_772 : Jvm.Cond.fieldLink "CodeWords$Kind" (304 : Nat) "CodeWords$Kind" "ownBits" "I" ∈ aw := awl_4 52 rfl rfl
theorem aw_773 : Jvm.Cond.fieldLink "CodeWords$Kind" (301 : Nat) "CodeWords$Kind" "ownMask" "I" ∈ aw := awl_4 53 rfl rfl
theorem aw_774 : Jvm.Cond.fieldLink "CodeWords" (71 : Nat) "CodeWords$Kind" "stands" "I" ∈ aw := awl_4 54 rfl rfl
theorem aw_775 : Jvm.Cond.fieldLink "CodeWords" (127 : Nat) "CodeWords$Kind" "slots" "Ljava/lang/String;" ∈ aw := awl_4 55 rfl rfl
theorem aw_776 : Jvm.Cond.fieldLink "CodeWords" (101 : Nat) "CodeWords$Kind" "title" "Ljava/lang/String;" ∈ aw := awl_4 56 rfl rfl
theorem aw_777 : Jvm.Cond.fieldLink "CodeWords" (109 : Nat) "CodeWords$Kind" "pattern" "I" ∈ aw := awl_4 57 rfl rfl
theorem aw_778 : Jvm.Cond.fieldLink "CodeWords" (112 : Nat) "CodeWords$Kind" "parts" "I" ∈ aw := awl_4 58 rfl rfl
theorem aw_779 : Jvm.Cond.fieldLink "CodeWords" (115 : Nat) "CodeWords$Kind" "layout" "Ljava/lang/String;" ∈ aw := awl_4 59 rfl rfl
end
section
theorem d_K_admits_0 : decode b_K_admits 0 = .ok (.iload_n 1, 1) := by decide +kernel
theorem d_K_admits_1 : decode b_K_admits 1 = .ok (.aload_n 0, 1) := by decide +kernel
theorem d_K_admits_2 : decode b_K_admits 2 = .ok (.getfield 301, 3) := by decide +kernel
theorem d_K_admits_5 : decode b_K_admits 5 = .ok (.iand, 1) := by decide +kernel
theorem d_K_admits_6 : decode b_K_admits 6 = .ok (.aload_n 0, 1) := by decide +kernel
theorem d_K_admits_7 : decode b_K_admits 7 = .ok (.getfield 304, 3) := by decide +kernel
theorem d_K_admits_10 : decode b_K_admits 10 = .ok (.if_icmp .ne 37, 3) := by decide +kernel
theorem d_K_admits_13 : decode b_K_admits 13 = .ok (.aload_n 0, 1) := by decide +kernel
theorem d_K_admits_14 : decode b_K_admits 14 = .ok (.aload_n 0, 1) := by decide +kernel
theorem d_K_admits_15 : decode b_K_admits 15 = .ok (.iload_n 1, 1) := by decide +kernel
theorem d_K_admits_16 : decode b_K_admits 16 = .ok (.iconst 1, 1) := by decide +kernel
theorem d_K_admits_17 : decode b_K_admits 17 = .ok (.invokevirtual 330, 3) := by decide +kernel
theorem d_K_admits_20 : decode b_K_admits 20 = .ok (.aload_n 0, 1) := by decide +kernel
theorem d_K_admits_21 : decode b_K_admits 21 = .ok (.iload_n 1, 1) := by decide +kernel
theorem d_K_admits_22 : decode b_K_admits 22 = .ok (.iconst 2, 1) := by decide +kernel
theorem d_K_admits_23 : decode b_K_admits 23 = .ok (.invokevirtual 330, 3) := by decide +kernel
theorem d_K_admits_26 : decode b_K_admits 26 = .ok (.aload_n 0, 1) := by decide +kernel
theorem d_K_admits_27 : decode b_K_admits 27 = .ok (.iload_n 1, 1) := by decide +kernel
theorem d_K_admits_28 : decode b_K_admits 28 = .ok (.iconst 4, 1) := by decide +kernel
theorem d_K_admits_29 : decode b_K_admits 29 = .ok (.invokevirtual 330, 3) := by decide +kernel
theorem d_K_admits_32 : decode b_K_admits 32 = .ok (.aload_n 0, 1) := by decide +kernel
theorem d_K_admits_33 : decode b_K_admits 33 = .ok (.iload_n 1, 1) := by decide +kernel
theorem d_K_admits_34 : decode b_K_admits 34 = .ok (.invokevirtual 333, 3) := by decide +kernel
theorem d_K_admits_37 : decode b_K_admits 37 = .ok (.invokevirtual 336, 3) := by decide +kernel
theorem d_K_admits_40 : decode b_K_admits 40 = .ok (.ifCond .eq 7, 3) := by decide +kernel
theorem d_K_admits_43 : decode b_K_admits 43 = .ok (.iconst 1, 1) := by decide +kernel
theorem d_K_admits_44 : decode b_K_admits 44 = .ok (.goto 4, 3) := by decide +kernel
theorem d_K_admits_47 : decode b_K_admits 47 = .ok (.iconst 0, 1) := by decide +kernel
theorem d_K_admits_48 : decode b_K_admits 48 = .ok (.ireturn, 1) := by decide +kernel
theorem d_K_register_0 : decode b_K_register 0 = .ok (.aload_n 0, 1) := by decide +kernel
theorem d_K_register_1 : decode b_K_register 1 = .ok (.iload_n 2, 1) := by decide +kernel
theorem d_K_register_2 : decode b_K_register 2 = .ok (.invokevirtual 344, 3) := by decide +kernel
theorem d_K_register_5 : decode b_K_register 5 = .ok (.ifCond .ne 5, 3) := by decide +kernel
theorem d_K_register_8 : decode b_K_register 8 = .ok (.iconst 0, 1) := by decide +kernel
theorem d_K_register_9 : decode b_K_register 9 = .ok (.ireturn, 1) := by decide +kernel
theorem d_K_register_10 : decode b_K_register 10 = .ok (.iload_n 1, 1) := by decide +kernel
theorem d_K_register_11 : decode b_K_register 11 = .ok (.aload_n 0, 1) := by decide +kernel
theorem d_K_register_12 : decode b_K_register 12 = .ok (.iload_n 2, 1) := by decide +kernel
theorem d_K_register_13 : decode b_K_register 13 = .ok (.invokevirtual 326, 3) := by decide +kernel
theorem d_K_register_16 : decode b_K_register 16 = .ok (.iushr, 1) := by decide +kernel
theorem d_K_register_17 : decode b_K_register 17 = .ok (.istore_n 3, 1) := by decide +kernel
theorem d_K_register_18 : decode b_K_register 18 = .ok (.aload_n 0, 1) := by decide +kernel
theorem d_K_register_19 : decode b_K_register 19 = .ok (.iload_n 2, 1) := by decide +kernel
theorem d_K_register_20 : decode b_K_register 20 = .ok (.invokevirtual 352, 3) := by decide +kernel
theorem d_K_register_23 : decode b_K_register 23 = .ok (.ifCond .eq 13, 3) := by decide +kernel
theorem d_K_register_26 : decode b_K_register 26 = .ok (.bipush 8, 2) := by decide +kernel
theorem d_K_register_28 : decode b_K_register 28 = .ok (.iload_n 3, 1) := by decide +kernel
theorem d_K_register_29 : decode b_K_register 29 = .ok (.bipush 7, 2) := by decide +kernel
theorem d_K_register_31 : decode b_K_register 31 = .ok (.iand, 1) := by decide +kernel
theorem d_K_register_32 : decode b_K_register 32 = .ok (.iadd, 1) := by decide +kernel
theorem d_K_register_33 : decode b_K_register 33 = .ok (.goto 7, 3) := by decide +kernel
theorem d_K_register_36 : decode b_K_register 36 = .ok (.iload_n 3, 1) := by decide +kernel
theorem d_K_register_37 : decode b_K_register 37 = .ok (.bipush 31, 2) := by decide +kernel
theorem d_K_register_39 : decode b_K_register 39 = .ok (.iand, 1) := by decide +kernel
theorem d_K_register_40 : decode b_K_register 40 = .ok (.ireturn, 1) := by decide +kernel
theorem d_K_has_0 : decode b_K_has 0 = .ok (.aload_n 0, 1) := by decide +kernel
theorem d_K_has_1 : decode b_K_has 1 = .ok (.getfield 298, 3) := by decide +kernel
theorem d_K_has_4 : decode b_K_has 4 = .ok (.iload_n 1, 1) := by decide +kernel
theorem d_K_has_5 : decode b_K_has 5 = .ok (.iand, 1) := by decide +kernel
theorem d_K_has_6 : decode b_K_has 6 = .ok (.ifCond .eq 7, 3) := by decide +kernel
theorem d_K_has_9 : decode b_K_has 9 = .ok (.iconst 1, 1) := by decide +kernel
theorem d_K_has_10 : decode b_K_has 10 = .ok (.goto 4, 3) := by decide +kernel
theorem d_K_has_13 : decode b_K_has 13 = .ok (.iconst 0, 1) := by decide +kernel
theorem d_K_has_14 : decode b_K_has 14 = .ok (.ireturn, 1) := by decide +kernel
theorem d_K_placeOf_0 : decode b_K_placeOf 0 = .ok (.iload_n 1, 1) := by decide +kernel
theorem d_K_placeOf_1 : decode b_K_placeOf 1 = .ok (.iconst 1, 1) := by decide +kernel
theorem d_K_placeOf_2 : decode b_K_placeOf 2 = .ok (.if_icmp .ne 8, 3) := by decide +kernel
theorem d_K_placeOf_5 : decode b_K_placeOf 5 = .ok (.aload_n 0, 1) := by decide +kernel
theorem d_K_placeOf_6 : decode b_K_placeOf 6 = .ok (.getfield 311, 3) := by decide +kernel
theorem d_K_placeOf_9 : decode b_K_placeOf 9 = .ok (.ireturn, 1) := by decide +kernel
theorem d_K_placeOf_10 : decode b_K_placeOf 10 = .ok (.iload_n 1, 1) := by decide +kernel
theorem d_K_placeOf_11 : decode b_K_placeOf 11 = .ok (.iconst 2, 1) := by decide +kernel
theorem d_K_placeOf_12 : decode b_K_placeOf 12 = .ok (.if_icmp .ne 10, 3) := by decide +kernel
theorem d_K_placeOf_15 : decode b_K_placeOf 15 = .ok (.aload_n 0, 1) := by decide +kernel
theorem d_K_placeOf_16 : decode b_K_placeOf 16 = .ok (.getfield 314, 3) := by decide +kernel
theorem d_K_placeOf_19 : decode b_K_placeOf 19 = .ok (.goto 7, 3) := by decide +kernel
theorem d_K_placeOf_22 : decode b_K_placeOf 22 = .ok (.aload_n 0, 1) := by decide +kernel
theorem d_K_placeOf_23 : decode b_K_placeOf 23 = .ok (.getfield 317, 3) := by decide +kernel
theorem d_K_placeOf_26 : decode b_K_placeOf 26 = .ok (.ireturn, 1) := by decide +kernel
theorem d_K_isNarrow_0 : decode b_K_isNarrow 0 = .ok (.aload_n 0, 1) := by decide +kernel
theorem d_K_isNarrow_1 : decode b_K_isNarrow 1 = .ok (.getfield 259, 3) := by decide +kernel
theorem d_K_isNarrow_4 : decode b_K_isNarrow 4 = .ok (.invokevirtual 275, 3) := by decide +kernel
theorem d_K_isNarrow_7 : decode b_K_isNarrow 7 = .ok (.iconst 1, 1) := by decide +kernel
theorem d_K_isNarrow_8 : decode b_K_isNarrow 8 = .ok (.isub, 1) := by decide +kernel
theorem d_K_isNarrow_9 : decode b_K_isNarrow 9 = .ok (.aload_n 0, 1) := by decide +kernel
theorem d_K_isNarrow_10 : decode b_K_isNarrow 10 = .ok (.iload_n 1, 1) := by decide +kernel
theorem d_K_isNarrow_11 : decode b_K_isNarrow 11 = .ok (.invokevirtual 326, 3) := by decide +kernel
theorem d_K_isNarrow_14 : decode b_K_isNarrow 14 = .ok (.isub, 1) := by decide +kernel
theorem d_K_isNarrow_15 : decode b_K_isNarrow 15 = .ok (.iconst 4, 1) := by decide +kernel
theorem d_K_isNarrow_16 : decode b_K_isNarrow 16 = .ok (.isub, 1) := by decide +kernel
theorem d_K_isNarrow_17 : decode b_K_isNarrow 17 = .ok (.istore_n 2, 1) := by decide +kernel
theorem d_K_isNarrow_18 : decode b_K_isNarrow 18 = .ok (.iload_n 2, 1) := by decide +kernel
theorem d_K_isNarrow_19 : decode b_K_isNarrow 19 = .ok (.ifCond .lt 29, 3) := by decide +kernel
theorem d_K_isNarrow_22 : decode b_K_isNarrow 22 = .ok (.iload_n 2, 1) := by decide +kernel
theorem d_K_isNarrow_23 : decode b_K_isNarrow 23 = .ok (.aload_n 0, 1) := by decide +kernel
theorem d_K_isNarrow_24 : decode b_K_isNarrow 24 = .ok (.getfield 259, 3) := by decide +kernel
theorem d_K_isNarrow_27 : decode b_K_isNarrow 27 = .ok (.invokevirtual 275, 3) := by decide +kernel
theorem d_K_isNarrow_30 : decode b_K_isNarrow 30 = .ok (.if_icmp .ge 18, 3) := by decide +kernel
theorem d_K_isNarrow_33 : decode b_K_isNarrow 33 = .ok (.aload_n 0, 1) := by decide +kernel
theorem d_K_isNarrow_34 : decode b_K_isNarrow 34 = .ok (.getfield 259, 3) := by decide +kernel
theorem d_K_isNarrow_37 : decode b_K_isNarrow 37 = .ok (.iload_n 2, 1) := by decide +kernel
theorem d_K_isNarrow_38 : decode b_K_isNarrow 38 = .ok (.invokevirtual 281, 3) := by decide +kernel
theorem d_K_isNarrow_41 : decode b_K_isNarrow 41 = .ok (.invokestatic 285, 3) := by decide +kernel
theorem d_K_isNarrow_44 : decode b_K_isNarrow 44 = .ok (.iload_n 1, 1) := by decide +kernel
theorem d_K_isNarrow_45 : decode b_K_isNarrow 45 = .ok (.if_icmp .eq 7, 3) := by decide +kernel
theorem d_K_isNarrow_48 : decode b_K_isNarrow 48 = .ok (.iconst 1, 1) := by decide +kernel
theorem d_K_isNarrow_49 : decode b_K_isNarrow 49 = .ok (.goto 4, 3) := by decide +kernel
theorem d_K_isNarrow_52 : decode b_K_isNarrow 52 = .ok (.iconst 0, 1) := by decide +kernel
theorem d_K_isNarrow_53 : decode b_K_isNarrow 53 = .ok (.ireturn, 1) := by decide +kernel
theorem d_S_length_0 : decode b_S_length 0 = .ok (.aload_n 0, 1) := by decide +kernel
theorem d_S_length_1 : decode b_S_length 1 = .ok (.getfield 9, 3) := by decide +kernel
theorem d_S_length_4 : decode b_S_length 4 = .ok (.arraylength, 1) := by decide +kernel
theorem d_S_length_5 : decode b_S_length 5 = .ok (.aload_n 0, 1) := by decide +kernel
theorem d_S_length_6 : decode b_S_length 6 = .ok (.invokevirtual 335, 3) := by decide +kernel
theorem d_S_length_9 : decode b_S_length 9 = .ok (.ishr, 1) := by decide +kernel
theorem d_S_length_10 : decode b_S_length 10 = .ok (.ireturn, 1) := by decide +kernel
theorem d_S_coder_0 : decode b_S_coder 0 = .ok (.getstatic 38, 3) := by decide +kernel
theorem d_S_coder_3 : decode b_S_coder 3 = .ok (.ifCond .eq 10, 3) := by decide +kernel
theorem d_S_coder_6 : decode b_S_coder 6 = .ok (.aload_n 0, 1) := by decide +kernel
theorem d_S_coder_7 : decode b_S_coder 7 = .ok (.getfield 15, 3) := by decide +kernel
theorem d_S_coder_10 : decode b_S_coder 10 = .ok (.goto 4, 3) := by decide +kernel
theorem d_S_coder_13 : decode b_S_coder 13 = .ok (.iconst 1, 1) := by decide +kernel
theorem d_S_coder_14 : decode b_S_coder 14 = .ok (.ireturn, 1) := by decide +kernel
theorem d_S_charAt_0 : decode b_S_charAt 0 = .ok (.aload_n 0, 1) := by decide +kernel
theorem d_S_charAt_1 : decode b_S_charAt 1 = .ok (.invokevirtual 492, 3) := by decide +kernel
theorem d_S_charAt_4 : decode b_S_charAt 4 = .ok (.ifCond .eq 12, 3) := by decide +kernel
theorem d_S_charAt_7 : decode b_S_charAt 7 = .ok (.aload_n 0, 1) := by decide +kernel
theorem d_S_charAt_8 : decode b_S_charAt 8 = .ok (.getfield 9, 3) := by decide +kernel
theorem d_S_charAt_11 : decode b_S_charAt 11 = .ok (.iload_n 1, 1) := by decide +kernel
theorem d_S_charAt_12 : decode b_S_charAt 12 = .ok (.invokestatic 495, 3) := by decide +kernel
theorem d_S_charAt_15 : decode b_S_charAt 15 = .ok (.ireturn, 1) := by decide +kernel
theorem d_S_charAt_16 : decode b_S_charAt 16 = .ok (.aload_n 0, 1) := by decide +kernel
theorem d_S_charAt_17 : decode b_S_charAt 17 = .ok (.getfield 9, 3) := by decide +kernel
theorem d_S_charAt_20 : decode b_S_charAt 20 = .ok (.iload_n 1, 1) := by decide +kernel
theorem d_S_charAt_21 : decode b_S_charAt 21 = .ok (.invokestatic 498, 3) := by decide +kernel
theorem d_S_charAt_24 : decode b_S_charAt 24 = .ok (.ireturn, 1) := by decide +kernel
theorem d_S_isLatin1_0 : decode b_S_isLatin1 0 = .ok (.getstatic 38, 3) := by decide +kernel
theorem d_S_isLatin1_3 : decode b_S_isLatin1 3 = .ok (.ifCond .eq 14, 3) := by decide +kernel
theorem d_S_isLatin1_6 : decode b_S_isLatin1 6 = .ok (.aload_n 0, 1) := by decide +kernel
theorem d_S_isLatin1_7 : decode b_S_isLatin1 7 = .ok (.getfield 15, 3) := by decide +kernel
theorem d_S_isLatin1_10 : decode b_S_isLatin1 10 = .ok (.ifCond .ne 7, 3) := by decide +kernel
theorem d_S_isLatin1_13 : decode b_S_isLatin1 13 = .ok (.iconst 1, 1) := by decide +kernel
theorem d_S_isLatin1_14 : decode b_S_isLatin1 14 = .ok (.goto 4, 3) := by decide +kernel
theorem d_S_isLatin1_17 : decode b_S_isLatin1 17 = .ok (.iconst 0, 1) := by decide +kernel
theorem d_S_isLatin1_18 : decode b_S_isLatin1 18 = .ok (.ireturn, 1) := by decide +kernel
theorem d_S1_charAt_0 : decode b_S1_charAt 0 = .ok (.iload_n 1, 1) := by decide +kernel
theorem d_S1_charAt_1 : decode b_S1_charAt 1 = .ok (.aload_n 0, 1) := by decide +kernel
theorem d_S1_charAt_2 : decode b_S1_charAt 2 = .ok (.arraylength, 1) := by decide +kernel
theorem d_S1_charAt_3 : decode b_S1_charAt 3 = .ok (.invokestatic 9, 3) := by decide +kernel
theorem d_S1_charAt_6 : decode b_S1_charAt 6 = .ok (.aload_n 0, 1) := by decide +kernel
theorem d_S1_charAt_7 : decode b_S1_charAt 7 = .ok (.iload_n 1, 1) := by decide +kernel
theorem d_S1_charAt_8 : decode b_S1_charAt 8 = .ok (.baload, 1) := by decide +kernel
theorem d_S1_charAt_9 : decode b_S1_charAt 9 = .ok (.sipush 255, 3) := by decide +kernel
theorem d_S1_charAt_12 : decode b_S1_charAt 12 = .ok (.iand, 1) := by decide +kernel
theorem d_S1_charAt_13 : decode b_S1_charAt 13 = .ok (.i2c, 1) := by decide +kernel
theorem d_S1_charAt_14 : decode b_S1_charAt 14 = .ok (.ireturn, 1) := by decide +kernel
theorem d_S_checkIndex_0 : decode b_S_checkIndex 0 = .ok (.iload_n 0, 1) := by decide +kernel
theorem d_S_checkIndex_1 : decode b_S_checkIndex 1 = .ok (.iload_n 1, 1) := by decide +kernel
theorem d_S_checkIndex_2 : decode b_S_checkIndex 2 = .ok (.getstatic 1053, 3) := by decide +kernel
theorem d_S_checkIndex_5 : decode b_S_checkIndex 5 = .ok (.invokestatic 1059, 3) := by decide +kernel
theorem d_S_checkIndex_8 : decode b_S_checkIndex 8 = .ok (.pop, 1) := by decide +kernel
theorem d_S_checkIndex_9 : decode b_S_checkIndex 9 = .ok (.return_, 1) := by decide +kernel
theorem d_Pq_checkIndex_0 : decode b_Pq_checkIndex 0 = .ok (.iload_n 0, 1) := by decide +kernel
theorem d_Pq_checkIndex_1 : decode b_Pq_checkIndex 1 = .ok (.ifCond .lt 8, 3) := by decide +kernel
theorem d_Pq_checkIndex_4 : decode b_Pq_checkIndex 4 = .ok (.iload_n 0, 1) := by decide +kernel
theorem d_Pq_checkIndex_5 : decode b_Pq_checkIndex 5 = .ok (.iload_n 1, 1) := by decide +kernel
theorem d_Pq_checkIndex_6 : decode b_Pq_checkIndex 6 = .ok (.if_icmp .lt 10, 3) := by decide +kernel
theorem d_Pq_checkIndex_9 : decode b_Pq_checkIndex 9 = .ok (.aload_n 2, 1) := by decide +kernel
theorem d_Pq_checkIndex_10 : decode b_Pq_checkIndex 10 = .ok (.iload_n 0, 1) := by decide +kernel
theorem d_Pq_checkIndex_11 : decode b_Pq_checkIndex 11 = .ok (.iload_n 1, 1) := by decide +kernel
theorem d_Pq_checkIndex_12 : decode b_Pq_checkIndex 12 = .ok (.invokestatic 95, 3) := by decide +kernel
theorem d_Pq_checkIndex_15 : decode b_Pq_checkIndex 15 = .ok (.athrow, 1) := by decide +kernel
theorem d_Pq_checkIndex_16 : decode b_Pq_checkIndex 16 = .ok (.iload_n 0, 1) := by decide +kernel
theorem d_Pq_checkIndex_17 : decode b_Pq_checkIndex 17 = .ok (.ireturn, 1) := by decide +kernel
theorem d_K_partOf_0 : decode b_K_partOf 0 = .ok (.iload_n 0, 1) := by decide +kernel
theorem d_K_partOf_1 : decode b_K_partOf 1 = .ok (.bipush 65, 2) := by decide +kernel
theorem d_K_partOf_3 : decode b_K_partOf 3 = .ok (.if_icmp .lt 12, 3) := by decide +kernel
theorem d_K_partOf_6 : decode b_K_partOf 6 = .ok (.iload_n 0, 1) := by decide +kernel
theorem d_K_partOf_7 : decode b_K_partOf 7 = .ok (.bipush 85, 2) := by decide +kernel
theorem d_K_partOf_9 : decode b_K_partOf 9 = .ok (.if_icmp .gt 6, 3) := by decide +kernel
theorem d_K_partOf_12 : decode b_K_partOf 12 = .ok (.bipush 8, 2) := by decide +kernel
theorem d_K_partOf_14 : decode b_K_partOf 14 = .ok (.ireturn, 1) := by decide +kernel
theorem d_K_partOf_15 : decode b_K_partOf 15 = .ok (.iload_n 0, 1) := by decide +kernel
theorem d_K_partOf_16 : decode b_K_partOf 16 = .ok (.bipush 100, 2) := by decide +kernel
theorem d_K_partOf_18 : decode b_K_partOf 18 = .ok (.if_icmp .ne 5, 3) := by decide +kernel
theorem d_K_partOf_21 : decode b_K_partOf 21 = .ok (.iconst 1, 1) := by decide +kernel
theorem d_K_partOf_22 : decode b_K_partOf 22 = .ok (.ireturn, 1) := by decide +kernel
theorem d_K_partOf_23 : decode b_K_partOf 23 = .ok (.iload_n 0, 1) := by decide +kernel
theorem d_K_partOf_24 : decode b_K_partOf 24 = .ok (.bipush 97, 2) := by decide +kernel
theorem d_K_partOf_26 : decode b_K_partOf 26 = .ok (.if_icmp .ne 5, 3) := by decide +kernel
theorem d_K_partOf_29 : decode b_K_partOf 29 = .ok (.iconst 2, 1) := by decide +kernel
theorem d_K_partOf_30 : decode b_K_partOf 30 = .ok (.ireturn, 1) := by decide +kernel
theorem d_K_partOf_31 : decode b_K_partOf 31 = .ok (.iload_n 0, 1) := by decide +kernel
theorem d_K_partOf_32 : decode b_K_partOf 32 = .ok (.bipush 98, 2) := by decide +kernel
theorem d_K_partOf_34 : decode b_K_partOf 34 = .ok (.if_icmp .ne 7, 3) := by decide +kernel
theorem d_K_partOf_37 : decode b_K_partOf 37 = .ok (.iconst 4, 1) := by decide +kernel
theorem d_K_partOf_38 : decode b_K_partOf 38 = .ok (.goto 4, 3) := by decide +kernel
theorem d_K_partOf_41 : decode b_K_partOf 41 = .ok (.iconst 0, 1) := by decide +kernel
theorem d_K_partOf_42 : decode b_K_partOf 42 = .ok (.ireturn, 1) := by decide +kernel
theorem d_K_immediate_0 : decode b_K_immediate 0 = .ok (.aload_n 0, 1) := by decide +kernel
theorem d_K_immediate_1 : decode b_K_immediate 1 = .ok (.bipush 8, 2) := by decide +kernel
theorem d_K_immediate_3 : decode b_K_immediate 3 = .ok (.invokevirtual 344, 3) := by decide +kernel
theorem d_K_immediate_6 : decode b_K_immediate 6 = .ok (.ifCond .ne 5, 3) := by decide +kernel
theorem d_K_immediate_9 : decode b_K_immediate 9 = .ok (.iconst 0, 1) := by decide +kernel
theorem d_K_immediate_10 : decode b_K_immediate 10 = .ok (.ireturn, 1) := by decide +kernel
theorem d_K_immediate_11 : decode b_K_immediate 11 = .ok (.iconst 0, 1) := by decide +kernel
theorem d_K_immediate_12 : decode b_K_immediate 12 = .ok (.istore_n 2, 1) := by decide +kernel
theorem d_K_immediate_13 : decode b_K_immediate 13 = .ok (.iconst 0, 1) := by decide +kernel
theorem d_K_immediate_14 : decode b_K_immediate 14 = .ok (.istore_n 3, 1) := by decide +kernel
theorem d_K_immediate_15 : decode b_K_immediate 15 = .ok (.iload_n 3, 1) := by decide +kernel
theorem d_K_immediate_16 : decode b_K_immediate 16 = .ok (.aload_n 0, 1) := by decide +kernel
theorem d_K_immediate_17 : decode b_K_immediate 17 = .ok (.getfield 259, 3) := by decide +kernel
theorem d_K_immediate_20 : decode b_K_immediate 20 = .ok (.invokevirtual 275, 3) := by decide +kernel
theorem d_K_immediate_23 : decode b_K_immediate 23 = .ok (.if_icmp .ge 53, 3) := by decide +kernel
theorem d_K_immediate_26 : decode b_K_immediate 26 = .ok (.aload_n 0, 1) := by decide +kernel
theorem d_K_immediate_27 : decode b_K_immediate 27 = .ok (.getfield 259, 3) := by decide +kernel
theorem d_K_immediate_30 : decode b_K_immediate 30 = .ok (.iload_n 3, 1) := by decide +kernel
theorem d_K_immediate_31 : decode b_K_immediate 31 = .ok (.invokevirtual 281, 3) := by decide +kernel
theorem d_K_immediate_34 : decode b_K_immediate 34 = .ok (.istore 4, 2) := by decide +kernel
theorem d_K_immediate_36 : decode b_K_immediate 36 = .ok (.iload 4, 2) := by decide +kernel
theorem d_K_immediate_38 : decode b_K_immediate 38 = .ok (.invokestatic 285, 3) := by decide +kernel
theorem d_K_immediate_41 : decode b_K_immediate 41 = .ok (.bipush 8, 2) := by decide +kernel
theorem d_K_immediate_43 : decode b_K_immediate 43 = .ok (.if_icmp .ne 27, 3) := by decide +kernel
theorem d_K_immediate_46 : decode b_K_immediate 46 = .ok (.iload_n 2, 1) := by decide +kernel
theorem d_K_immediate_47 : decode b_K_immediate 47 = .ok (.iload_n 1, 1) := by decide +kernel
theorem d_K_immediate_48 : decode b_K_immediate 48 = .ok (.aload_n 0, 1) := by decide +kernel
theorem d_K_immediate_49 : decode b_K_immediate 49 = .ok (.getfield 259, 3) := by decide +kernel
theorem d_K_immediate_52 : decode b_K_immediate 52 = .ok (.invokevirtual 275, 3) := by decide +kernel
theorem d_K_immediate_55 : decode b_K_immediate 55 = .ok (.iconst 1, 1) := by decide +kernel
theorem d_K_immediate_56 : decode b_K_immediate 56 = .ok (.isub, 1) := by decide +kernel
theorem d_K_immediate_57 : decode b_K_immediate 57 = .ok (.iload_n 3, 1) := by decide +kernel
theorem d_K_immediate_58 : decode b_K_immediate 58 = .ok (.isub, 1) := by decide +kernel
theorem d_K_immediate_59 : decode b_K_immediate 59 = .ok (.iushr, 1) := by decide +kernel
theorem d_K_immediate_60 : decode b_K_immediate 60 = .ok (.iconst 1, 1) := by decide +kernel
theorem d_K_immediate_61 : decode b_K_immediate 61 = .ok (.iand, 1) := by decide +kernel
theorem d_K_immediate_62 : decode b_K_immediate 62 = .ok (.iload 4, 2) := by decide +kernel
theorem d_K_immediate_64 : decode b_K_immediate 64 = .ok (.bipush 65, 2) := by decide +kernel
theorem d_K_immediate_66 : decode b_K_immediate 66 = .ok (.isub, 1) := by decide +kernel
theorem d_K_immediate_67 : decode b_K_immediate 67 = .ok (.ishl, 1) := by decide +kernel
theorem d_K_immediate_68 : decode b_K_immediate 68 = .ok (.ior, 1) := by decide +kernel
theorem d_K_immediate_69 : decode b_K_immediate 69 = .ok (.istore_n 2, 1) := by decide +kernel
theorem d_K_immediate_70 : decode b_K_immediate 70 = .ok (.iinc 3 1, 3) := by decide +kernel
theorem d_K_immediate_73 : decode b_K_immediate 73 = .ok (.goto (-58), 3) := by decide +kernel
theorem d_K_immediate_76 : decode b_K_immediate 76 = .ok (.aload_n 0, 1) := by decide +kernel
theorem d_K_immediate_77 : decode b_K_immediate 77 = .ok (.bipush 32, 2) := by decide +kernel
theorem d_K_immediate_79 : decode b_K_immediate 79 = .ok (.invokevirtual 355, 3) := by decide +kernel
theorem d_K_immediate_82 : decode b_K_immediate 82 = .ok (.ifCond .eq 23, 3) := by decide +kernel
theorem d_K_immediate_85 : decode b_K_immediate 85 = .ok (.iload_n 2, 1) := by decide +kernel
theorem d_K_immediate_86 : decode b_K_immediate 86 = .ok (.aload_n 0, 1) := by decide +kernel
theorem d_K_immediate_87 : decode b_K_immediate 87 = .ok (.getfield 323, 3) := by decide +kernel
theorem d_K_immediate_90 : decode b_K_immediate 90 = .ok (.ishr, 1) := by decide +kernel
theorem d_K_immediate_91 : decode b_K_immediate 91 = .ok (.iconst 1, 1) := by decide +kernel
theorem d_K_immediate_92 : decode b_K_immediate 92 = .ok (.iand, 1) := by decide +kernel
theorem d_K_immediate_93 : decode b_K_immediate 93 = .ok (.ifCond .eq 12, 3) := by decide +kernel
theorem d_K_immediate_96 : decode b_K_immediate 96 = .ok (.iload_n 2, 1) := by decide +kernel
theorem d_K_immediate_97 : decode b_K_immediate 97 = .ok (.iconst 2, 1) := by decide +kernel
theorem d_K_immediate_98 : decode b_K_immediate 98 = .ok (.aload_n 0, 1) := by decide +kernel
theorem d_K_immediate_99 : decode b_K_immediate 99 = .ok (.getfield 323, 3) := by decide +kernel
theorem d_K_immediate_102 : decode b_K_immediate 102 = .ok (.ishl, 1) := by decide +kernel
theorem d_K_immediate_103 : decode b_K_immediate 103 = .ok (.isub, 1) := by decide +kernel
theorem d_K_immediate_104 : decode b_K_immediate 104 = .ok (.istore_n 2, 1) := by decide +kernel
theorem d_K_immediate_105 : decode b_K_immediate 105 = .ok (.aload_n 0, 1) := by decide +kernel
theorem d_K_immediate_106 : decode b_K_immediate 106 = .ok (.sipush 256, 3) := by decide +kernel
theorem d_K_immediate_109 : decode b_K_immediate 109 = .ok (.invokevirtual 355, 3) := by decide +kernel
theorem d_K_immediate_112 : decode b_K_immediate 112 = .ok (.ifCond .eq 11, 3) := by decide +kernel
theorem d_K_immediate_115 : decode b_K_immediate 115 = .ok (.iload_n 2, 1) := by decide +kernel
theorem d_K_immediate_116 : decode b_K_immediate 116 = .ok (.ldc_w 364, 3) := by decide +kernel
theorem d_K_immediate_119 : decode b_K_immediate 119 = .ok (.iand, 1) := by decide +kernel
theorem d_K_immediate_120 : decode b_K_immediate 120 = .ok (.goto 4, 3) := by decide +kernel
theorem d_K_immediate_123 : decode b_K_immediate 123 = .ok (.iload_n 2, 1) := by decide +kernel
theorem d_K_immediate_124 : decode b_K_immediate 124 = .ok (.ireturn, 1) := by decide +kernel
theorem d_K_is_0 : decode b_K_is 0 = .ok (.aload_n 0, 1) := by decide +kernel
theorem d_K_is_1 : decode b_K_is 1 = .ok (.getfield 272, 3) := by decide +kernel
theorem d_K_is_4 : decode b_K_is 4 = .ok (.iload_n 1, 1) := by decide +kernel
theorem d_K_is_5 : decode b_K_is 5 = .ok (.iand, 1) := by decide +kernel
theorem d_K_is_6 : decode b_K_is 6 = .ok (.ifCond .eq 7, 3) := by decide +kernel
theorem d_K_is_9 : decode b_K_is 9 = .ok (.iconst 1, 1) := by decide +kernel
theorem d_K_is_10 : decode b_K_is 10 = .ok (.goto 4, 3) := by decide +kernel
theorem d_K_is_13 : decode b_K_is 13 = .ok (.iconst 0, 1) := by decide +kernel
theorem d_K_is_14 : decode b_K_is 14 = .ok (.ireturn, 1) := by decide +kernel
theorem d_K_allows_0 : decode b_K_allows 0 = .ok (.aload_n 0, 1) := by decide +kernel
theorem d_K_allows_1 : decode b_K_allows 1 = .ok (.iconst 1, 1) := by decide +kernel
theorem d_K_allows_2 : decode b_K_allows 2 = .ok (.iload_n 1, 1) := by decide +kernel
theorem d_K_allows_3 : decode b_K_allows 3 = .ok (.invokevirtual 340, 3) := by decide +kernel
theorem d_K_allows_6 : decode b_K_allows 6 = .ok (.ifCond .eq 44, 3) := by decide +kernel
theorem d_K_allows_9 : decode b_K_allows 9 = .ok (.aload_n 0, 1) := by decide +kernel
theorem d_K_allows_10 : decode b_K_allows 10 = .ok (.iconst 2, 1) := by decide +kernel
theorem d_K_allows_11 : decode b_K_allows 11 = .ok (.iload_n 2, 1) := by decide +kernel
theorem d_K_allows_12 : decode b_K_allows 12 = .ok (.invokevirtual 340, 3) := by decide +kernel
theorem d_K_allows_15 : decode b_K_allows 15 = .ok (.ifCond .eq 35, 3) := by decide +kernel
theorem d_K_allows_18 : decode b_K_allows 18 = .ok (.aload_n 0, 1) := by decide +kernel
theorem d_K_allows_19 : decode b_K_allows 19 = .ok (.iconst 4, 1) := by decide +kernel
theorem d_K_allows_20 : decode b_K_allows 20 = .ok (.iload_n 3, 1) := by decide +kernel
theorem d_K_allows_21 : decode b_K_allows 21 = .ok (.invokevirtual 340, 3) := by decide +kernel
theorem d_K_allows_24 : decode b_K_allows 24 = .ok (.ifCond .eq 26, 3) := by decide +kernel
theorem d_K_allows_27 : decode b_K_allows 27 = .ok (.aload_n 0, 1) := by decide +kernel
theorem d_K_allows_28 : decode b_K_allows 28 = .ok (.bipush 8, 2) := by decide +kernel
theorem d_K_allows_30 : decode b_K_allows 30 = .ok (.invokevirtual 344, 3) := by decide +kernel
theorem d_K_allows_33 : decode b_K_allows 33 = .ok (.ifCond .eq 13, 3) := by decide +kernel
theorem d_K_allows_36 : decode b_K_allows 36 = .ok (.aload_n 0, 1) := by decide +kernel
theorem d_K_allows_37 : decode b_K_allows 37 = .ok (.iload 4, 2) := by decide +kernel
theorem d_K_allows_39 : decode b_K_allows 39 = .ok (.i2l, 1) := by decide +kernel
theorem d_K_allows_40 : decode b_K_allows 40 = .ok (.invokevirtual 348, 3) := by decide +kernel
theorem d_K_allows_43 : decode b_K_allows 43 = .ok (.ifCond .eq 7, 3) := by decide +kernel
theorem d_K_allows_46 : decode b_K_allows 46 = .ok (.iconst 1, 1) := by decide +kernel
theorem d_K_allows_47 : decode b_K_allows 47 = .ok (.goto 4, 3) := by decide +kernel
theorem d_K_allows_50 : decode b_K_allows 50 = .ok (.iconst 0, 1) := by decide +kernel
theorem d_K_allows_51 : decode b_K_allows 51 = .ok (.ireturn, 1) := by decide +kernel
theorem d_K_allowsRegister_0 : decode b_K_allowsRegister 0 = .ok (.aload_n 0, 1) := by decide +kernel
theorem d_K_allowsRegister_1 : decode b_K_allowsRegister 1 = .ok (.iload_n 1, 1) := by decide +kernel
theorem d_K_allowsRegister_2 : decode b_K_allowsRegister 2 = .ok (.invokevirtual 344, 3) := by decide +kernel
theorem d_K_allowsRegister_5 : decode b_K_allowsRegister 5 = .ok (.ifCond .ne 5, 3) := by decide +kernel
theorem d_K_allowsRegister_8 : decode b_K_allowsRegister 8 = .ok (.iconst 1, 1) := by decide +kernel
theorem d_K_allowsRegister_9 : decode b_K_allowsRegister 9 = .ok (.ireturn, 1) := by decide +kernel
theorem d_K_allowsRegister_10 : decode b_K_allowsRegister 10 = .ok (.aload_n 0, 1) := by decide +kernel
theorem d_K_allowsRegister_11 : decode b_K_allowsRegister 11 = .ok (.iload_n 1, 1) := by decide +kernel
theorem d_K_allowsRegister_12 : decode b_K_allowsRegister 12 = .ok (.invokevirtual 352, 3) := by decide +kernel
theorem d_K_allowsRegister_15 : decode b_K_allowsRegister 15 = .ok (.ifCond .eq 21, 3) := by decide +kernel
theorem d_K_allowsRegister_18 : decode b_K_allowsRegister 18 = .ok (.iload_n 2, 1) := by decide +kernel
theorem d_K_allowsRegister_19 : decode b_K_allowsRegister 19 = .ok (.bipush 8, 2) := by decide +kernel
theorem d_K_allowsRegister_21 : decode b_K_allowsRegister 21 = .ok (.if_icmp .lt 13, 3) := by decide +kernel
theorem d_K_allowsRegister_24 : decode b_K_allowsRegister 24 = .ok (.iload_n 2, 1) := by decide +kernel
theorem d_K_allowsRegister_25 : decode b_K_allowsRegister 25 = .ok (.bipush 15, 2) := by decide +kernel
theorem d_K_allowsRegister_27 : decode b_K_allowsRegister 27 = .ok (.if_icmp .gt 7, 3) := by decide +kernel
theorem d_K_allowsRegister_30 : decode b_K_allowsRegister 30 = .ok (.iconst 1, 1) := by decide +kernel
theorem d_K_allowsRegister_31 : decode b_K_allowsRegister 31 = .ok (.goto 4, 3) := by decide +kernel
theorem d_K_allowsRegister_34 : decode b_K_allowsRegister 34 = .ok (.iconst 0, 1) := by decide +kernel
theorem d_K_allowsRegister_35 : decode b_K_allowsRegister 35 = .ok (.ireturn, 1) := by decide +kernel
theorem d_K_allowsRegister_36 : decode b_K_allowsRegister 36 = .ok (.iload_n 2, 1) := by decide +kernel
theorem d_K_allowsRegister_37 : decode b_K_allowsRegister 37 = .ok (.ifCond .ne 31, 3) := by decide +kernel
theorem d_K_allowsRegister_40 : decode b_K_allowsRegister 40 = .ok (.aload_n 0, 1) := by decide +kernel
theorem d_K_allowsRegister_41 : decode b_K_allowsRegister 41 = .ok (.getfield 259, 3) := by decide +kernel
theorem d_K_allowsRegister_44 : decode b_K_allowsRegister 44 = .ok (.invokevirtual 275, 3) := by decide +kernel
theorem d_K_allowsRegister_47 : decode b_K_allowsRegister 47 = .ok (.bipush 32, 2) := by decide +kernel
theorem d_K_allowsRegister_49 : decode b_K_allowsRegister 49 = .ok (.if_icmp .eq 13, 3) := by decide +kernel
theorem d_K_allowsRegister_52 : decode b_K_allowsRegister 52 = .ok (.aload_n 0, 1) := by decide +kernel
theorem d_K_allowsRegister_53 : decode b_K_allowsRegister 53 = .ok (.sipush 128, 3) := by decide +kernel
theorem d_K_allowsRegister_56 : decode b_K_allowsRegister 56 = .ok (.invokevirtual 355, 3) := by decide +kernel
theorem d_K_allowsRegister_59 : decode b_K_allowsRegister 59 = .ok (.ifCond .eq 7, 3) := by decide +kernel
theorem d_K_allowsRegister_62 : decode b_K_allowsRegister 62 = .ok (.iconst 1, 1) := by decide +kernel
theorem d_K_allowsRegister_63 : decode b_K_allowsRegister 63 = .ok (.goto 4, 3) := by decide +kernel
theorem d_K_allowsRegister_66 : decode b_K_allowsRegister 66 = .ok (.iconst 0, 1) := by decide +kernel
theorem d_K_allowsRegister_67 : decode b_K_allowsRegister 67 = .ok (.ireturn, 1) := by decide +kernel
theorem d_K_allowsRegister_68 : decode b_K_allowsRegister 68 = .ok (.iload_n 2, 1) := by decide +kernel
theorem d_K_allowsRegister_69 : decode b_K_allowsRegister 69 = .ok (.iconst 2, 1) := by decide +kernel
theorem d_K_allowsRegister_70 : decode b_K_allowsRegister 70 = .ok (.if_icmp .ne 19, 3) := by decide +kernel
theorem d_K_allowsRegister_73 : decode b_K_allowsRegister 73 = .ok (.aload_n 0, 1) := by decide +kernel
theorem d_K_allowsRegister_74 : decode b_K_allowsRegister 74 = .ok (.sipush 256, 3) := by decide +kernel
theorem d_K_allowsRegister_77 : decode b_K_allowsRegister 77 = .ok (.invokevirtual 355, 3) := by decide +kernel
theorem d_K_allowsRegister_80 : decode b_K_allowsRegister 80 = .ok (.ifCond .ne 7, 3) := by decide +kernel
theorem d_K_allowsRegister_83 : decode b_K_allowsRegister 83 = .ok (.iconst 1, 1) := by decide +kernel
theorem d_K_allowsRegister_84 : decode b_K_allowsRegister 84 = .ok (.goto 4, 3) := by decide +kernel
theorem d_K_allowsRegister_87 : decode b_K_allowsRegister 87 = .ok (.iconst 0, 1) := by decide +kernel
theorem d_K_allowsRegister_88 : decode b_K_allowsRegister 88 = .ok (.ireturn, 1) := by decide +kernel
theorem d_K_allowsRegister_89 : decode b_K_allowsRegister 89 = .ok (.iload_n 2, 1) := by decide +kernel
theorem d_K_allowsRegister_90 : decode b_K_allowsRegister 90 = .ok (.ifCond .le 13, 3) := by decide +kernel
theorem d_K_allowsRegister_93 : decode b_K_allowsRegister 93 = .ok (.iload_n 2, 1) := by decide +kernel
theorem d_K_allowsRegister_94 : decode b_K_allowsRegister 94 = .ok (.bipush 31, 2) := by decide +kernel
theorem d_K_allowsRegister_96 : decode b_K_allowsRegister 96 = .ok (.if_icmp .gt 7, 3) := by decide +kernel
theorem d_K_allowsRegister_99 : decode b_K_allowsRegister 99 = .ok (.iconst 1, 1) := by decide +kernel
theorem d_K_allowsRegister_100 : decode b_K_allowsRegister 100 = .ok (.goto 4, 3) := by decide +kernel
theorem d_K_allowsRegister_103 : decode b_K_allowsRegister 103 = .ok (.iconst 0, 1) := by decide +kernel
theorem d_K_allowsRegister_104 : decode b_K_allowsRegister 104 = .ok (.ireturn, 1) := by decide +kernel
theorem d_K_allowsImmediate_0 : decode b_K_allowsImmediate 0 = .ok (.aload_n 0, 1) := by decide +kernel
theorem d_K_allowsImmediate_1 : decode b_K_allowsImmediate 1 = .ok (.bipush 8, 2) := by decide +kernel
theorem d_K_allowsImmediate_3 : decode b_K_allowsImmediate 3 = .ok (.invokevirtual 344, 3) := by decide +kernel
theorem d_K_allowsImmediate_6 : decode b_K_allowsImmediate 6 = .ok (.ifCond .eq 18, 3) := by decide +kernel
theorem d_K_allowsImmediate_9 : decode b_K_allowsImmediate 9 = .ok (.aload_n 0, 1) := by decide +kernel
theorem d_K_allowsImmediate_10 : decode b_K_allowsImmediate 10 = .ok (.bipush 64, 2) := by decide +kernel
theorem d_K_allowsImmediate_12 : decode b_K_allowsImmediate 12 = .ok (.invokevirtual 355, 3) := by decide +kernel
theorem d_K_allowsImmediate_15 : decode b_K_allowsImmediate 15 = .ok (.ifCond .eq 11, 3) := by decide +kernel
theorem d_K_allowsImmediate_18 : decode b_K_allowsImmediate 18 = .ok (.lload_n 1, 1) := by decide +kernel
theorem d_K_allowsImmediate_19 : decode b_K_allowsImmediate 19 = .ok (.lconst 0, 1) := by decide +kernel
theorem d_K_allowsImmediate_20 : decode b_K_allowsImmediate 20 = .ok (.lcmp, 1) := by decide +kernel
theorem d_K_allowsImmediate_21 : decode b_K_allowsImmediate 21 = .ok (.ifCond .ne 5, 3) := by decide +kernel
theorem d_K_allowsImmediate_24 : decode b_K_allowsImmediate 24 = .ok (.iconst 0, 1) := by decide +kernel
theorem d_K_allowsImmediate_25 : decode b_K_allowsImmediate 25 = .ok (.ireturn, 1) := by decide +kernel
theorem d_K_allowsImmediate_26 : decode b_K_allowsImmediate 26 = .ok (.aload_n 0, 1) := by decide +kernel
theorem d_K_allowsImmediate_27 : decode b_K_allowsImmediate 27 = .ok (.sipush 256, 3) := by decide +kernel
theorem d_K_allowsImmediate_30 : decode b_K_allowsImmediate 30 = .ok (.invokevirtual 355, 3) := by decide +kernel
theorem d_K_allowsImmediate_33 : decode b_K_allowsImmediate 33 = .ok (.ifCond .eq 19, 3) := by decide +kernel
theorem d_K_allowsImmediate_36 : decode b_K_allowsImmediate 36 = .ok (.lload_n 1, 1) := by decide +kernel
theorem d_K_allowsImmediate_37 : decode b_K_allowsImmediate 37 = .ok (.lconst 0, 1) := by decide +kernel
theorem d_K_allowsImmediate_38 : decode b_K_allowsImmediate 38 = .ok (.lcmp, 1) := by decide +kernel
theorem d_K_allowsImmediate_39 : decode b_K_allowsImmediate 39 = .ok (.ifCond .lt 11, 3) := by decide +kernel
theorem d_K_allowsImmediate_42 : decode b_K_allowsImmediate 42 = .ok (.lload_n 1, 1) := by decide +kernel
theorem d_K_allowsImmediate_43 : decode b_K_allowsImmediate 43 = .ok (.ldc2_w 358, 3) := by decide +kernel
theorem d_K_allowsImmediate_46 : decode b_K_allowsImmediate 46 = .ok (.lcmp, 1) := by decide +kernel
theorem d_K_allowsImmediate_47 : decode b_K_allowsImmediate 47 = .ok (.ifCond .lt 5, 3) := by decide +kernel
theorem d_K_allowsImmediate_50 : decode b_K_allowsImmediate 50 = .ok (.iconst 0, 1) := by decide +kernel
theorem d_K_allowsImmediate_51 : decode b_K_allowsImmediate 51 = .ok (.ireturn, 1) := by decide +kernel
theorem d_K_allowsImmediate_52 : decode b_K_allowsImmediate 52 = .ok (.aload_n 0, 1) := by decide +kernel
theorem d_K_allowsImmediate_53 : decode b_K_allowsImmediate 53 = .ok (.sipush 256, 3) := by decide +kernel
theorem d_K_allowsImmediate_56 : decode b_K_allowsImmediate 56 = .ok (.invokevirtual 355, 3) := by decide +kernel
theorem d_K_allowsImmediate_59 : decode b_K_allowsImmediate 59 = .ok (.ifCond .eq 19, 3) := by decide +kernel
theorem d_K_allowsImmediate_62 : decode b_K_allowsImmediate 62 = .ok (.lload_n 1, 1) := by decide +kernel
theorem d_K_allowsImmediate_63 : decode b_K_allowsImmediate 63 = .ok (.ldc2_w 360, 3) := by decide +kernel
theorem d_K_allowsImmediate_66 : decode b_K_allowsImmediate 66 = .ok (.lcmp, 1) := by decide +kernel
theorem d_K_allowsImmediate_67 : decode b_K_allowsImmediate 67 = .ok (.ifCond .lt 11, 3) := by decide +kernel
theorem d_K_allowsImmediate_70 : decode b_K_allowsImmediate 70 = .ok (.lload_n 1, 1) := by decide +kernel
theorem d_K_allowsImmediate_71 : decode b_K_allowsImmediate 71 = .ok (.ldc2_w 358, 3) := by decide +kernel
theorem d_K_allowsImmediate_74 : decode b_K_allowsImmediate 74 = .ok (.lsub, 1) := by decide +kernel
theorem d_K_allowsImmediate_75 : decode b_K_allowsImmediate 75 = .ok (.goto 4, 3) := by decide +kernel
theorem d_K_allowsImmediate_78 : decode b_K_allowsImmediate 78 = .ok (.lload_n 1, 1) := by decide +kernel
theorem d_K_allowsImmediate_79 : decode b_K_allowsImmediate 79 = .ok (.lstore_n 3, 1) := by decide +kernel
theorem d_K_allowsImmediate_80 : decode b_K_allowsImmediate 80 = .ok (.aload_n 0, 1) := by decide +kernel
theorem d_K_allowsImmediate_81 : decode b_K_allowsImmediate 81 = .ok (.bipush 32, 2) := by decide +kernel
theorem d_K_allowsImmediate_83 : decode b_K_allowsImmediate 83 = .ok (.invokevirtual 355, 3) := by decide +kernel
theorem d_K_allowsImmediate_86 : decode b_K_allowsImmediate 86 = .ok (.ifCond .eq 12, 3) := by decide +kernel
theorem d_K_allowsImmediate_89 : decode b_K_allowsImmediate 89 = .ok (.lconst 1, 1) := by decide +kernel
theorem d_K_allowsImmediate_90 : decode b_K_allowsImmediate 90 = .ok (.aload_n 0, 1) := by decide +kernel
theorem d_K_allowsImmediate_91 : decode b_K_allowsImmediate 91 = .ok (.getfield 323, 3) := by decide +kernel
theorem d_K_allowsImmediate_94 : decode b_K_allowsImmediate 94 = .ok (.lshl, 1) := by decide +kernel
theorem d_K_allowsImmediate_95 : decode b_K_allowsImmediate 95 = .ok (.goto 11, 3) := by decide +kernel
theorem d_K_allowsImmediate_98 : decode b_K_allowsImmediate 98 = .ok (.ldc2_w 362, 3) := by decide +kernel
theorem d_K_allowsImmediate_101 : decode b_K_allowsImmediate 101 = .ok (.aload_n 0, 1) := by decide +kernel
theorem d_K_allowsImmediate_102 : decode b_K_allowsImmediate 102 = .ok (.getfield 323, 3) := by decide +kernel
theorem d_K_allowsImmediate_105 : decode b_K_allowsImmediate 105 = .ok (.lshl, 1) := by decide +kernel
theorem d_K_allowsImmediate_106 : decode b_K_allowsImmediate 106 = .ok (.lstore 5, 2) := by decide +kernel
theorem d_K_allowsImmediate_108 : decode b_K_allowsImmediate 108 = .ok (.aload_n 0, 1) := by decide +kernel
theorem d_K_allowsImmediate_109 : decode b_K_allowsImmediate 109 = .ok (.bipush 32, 2) := by decide +kernel
theorem d_K_allowsImmediate_111 : decode b_K_allowsImmediate 111 = .ok (.invokevirtual 355, 3) := by decide +kernel
theorem d_K_allowsImmediate_114 : decode b_K_allowsImmediate 114 = .ok (.ifCond .eq 9, 3) := by decide +kernel
theorem d_K_allowsImmediate_117 : decode b_K_allowsImmediate 117 = .ok (.lload 5, 2) := by decide +kernel
theorem d_K_allowsImmediate_119 : decode b_K_allowsImmediate 119 = .ok (.lneg, 1) := by decide +kernel
theorem d_K_allowsImmediate_120 : decode b_K_allowsImmediate 120 = .ok (.goto 4, 3) := by decide +kernel
theorem d_K_allowsImmediate_123 : decode b_K_allowsImmediate 123 = .ok (.lconst 0, 1) := by decide +kernel
theorem d_K_allowsImmediate_124 : decode b_K_allowsImmediate 124 = .ok (.lstore 7, 2) := by decide +kernel
theorem d_K_allowsImmediate_126 : decode b_K_allowsImmediate 126 = .ok (.lload_n 3, 1) := by decide +kernel
theorem d_K_allowsImmediate_127 : decode b_K_allowsImmediate 127 = .ok (.lload 7, 2) := by decide +kernel
theorem d_K_allowsImmediate_129 : decode b_K_allowsImmediate 129 = .ok (.lcmp, 1) := by decide +kernel
theorem d_K_allowsImmediate_130 : decode b_K_allowsImmediate 130 = .ok (.ifCond .lt 29, 3) := by decide +kernel
theorem d_K_allowsImmediate_133 : decode b_K_allowsImmediate 133 = .ok (.lload_n 3, 1) := by decide +kernel
theorem d_K_allowsImmediate_134 : decode b_K_allowsImmediate 134 = .ok (.lload 5, 2) := by decide +kernel
theorem d_K_allowsImmediate_136 : decode b_K_allowsImmediate 136 = .ok (.lcmp, 1) := by decide +kernel
theorem d_K_allowsImmediate_137 : decode b_K_allowsImmediate 137 = .ok (.ifCond .ge 22, 3) := by decide +kernel
theorem d_K_allowsImmediate_140 : decode b_K_allowsImmediate 140 = .ok (.lload_n 3, 1) := by decide +kernel
theorem d_K_allowsImmediate_141 : decode b_K_allowsImmediate 141 = .ok (.lconst 1, 1) := by decide +kernel
theorem d_K_allowsImmediate_142 : decode b_K_allowsImmediate 142 = .ok (.aload_n 0, 1) := by decide +kernel
theorem d_K_allowsImmediate_143 : decode b_K_allowsImmediate 143 = .ok (.getfield 320, 3) := by decide +kernel
theorem d_K_allowsImmediate_146 : decode b_K_allowsImmediate 146 = .ok (.lshl, 1) := by decide +kernel
theorem d_K_allowsImmediate_147 : decode b_K_allowsImmediate 147 = .ok (.lconst 1, 1) := by decide +kernel
theorem d_K_allowsImmediate_148 : decode b_K_allowsImmediate 148 = .ok (.lsub, 1) := by decide +kernel
theorem d_K_allowsImmediate_149 : decode b_K_allowsImmediate 149 = .ok (.land, 1) := by decide +kernel
theorem d_K_allowsImmediate_150 : decode b_K_allowsImmediate 150 = .ok (.lconst 0, 1) := by decide +kernel
theorem d_K_allowsImmediate_151 : decode b_K_allowsImmediate 151 = .ok (.lcmp, 1) := by decide +kernel
theorem d_K_allowsImmediate_152 : decode b_K_allowsImmediate 152 = .ok (.ifCond .ne 7, 3) := by decide +kernel
theorem d_K_allowsImmediate_155 : decode b_K_allowsImmediate 155 = .ok (.iconst 1, 1) := by decide +kernel
theorem d_K_allowsImmediate_156 : decode b_K_allowsImmediate 156 = .ok (.goto 4, 3) := by decide +kernel
theorem d_K_allowsImmediate_159 : decode b_K_allowsImmediate 159 = .ok (.iconst 0, 1) := by decide +kernel
theorem d_K_allowsImmediate_160 : decode b_K_allowsImmediate 160 = .ok (.ireturn, 1) := by decide +kernel
theorem d_K_compose_0 : decode b_K_compose 0 = .ok (.aload_n 0, 1) := by decide +kernel
theorem d_K_compose_1 : decode b_K_compose 1 = .ok (.getfield 304, 3) := by decide +kernel
theorem d_K_compose_4 : decode b_K_compose 4 = .ok (.aload_n 0, 1) := by decide +kernel
theorem d_K_compose_5 : decode b_K_compose 5 = .ok (.iconst 1, 1) := by decide +kernel
theorem d_K_compose_6 : decode b_K_compose 6 = .ok (.iload_n 1, 1) := by decide +kernel
theorem d_K_compose_7 : decode b_K_compose 7 = .ok (.invokevirtual 365, 3) := by decide +kernel
theorem d_K_compose_10 : decode b_K_compose 10 = .ok (.ior, 1) := by decide +kernel
theorem d_K_compose_11 : decode b_K_compose 11 = .ok (.aload_n 0, 1) := by decide +kernel
theorem d_K_compose_12 : decode b_K_compose 12 = .ok (.iconst 2, 1) := by decide +kernel
theorem d_K_compose_13 : decode b_K_compose 13 = .ok (.iload_n 2, 1) := by decide +kernel
theorem d_K_compose_14 : decode b_K_compose 14 = .ok (.invokevirtual 365, 3) := by decide +kernel
theorem d_K_compose_17 : decode b_K_compose 17 = .ok (.ior, 1) := by decide +kernel
theorem d_K_compose_18 : decode b_K_compose 18 = .ok (.aload_n 0, 1) := by decide +kernel
theorem d_K_compose_19 : decode b_K_compose 19 = .ok (.iconst 4, 1) := by decide +kernel
theorem d_K_compose_20 : decode b_K_compose 20 = .ok (.iload_n 3, 1) := by decide +kernel
theorem d_K_compose_21 : decode b_K_compose 21 = .ok (.invokevirtual 365, 3) := by decide +kernel
theorem d_K_compose_24 : decode b_K_compose 24 = .ok (.ior, 1) := by decide +kernel
theorem d_K_compose_25 : decode b_K_compose 25 = .ok (.aload_n 0, 1) := by decide +kernel
theorem d_K_compose_26 : decode b_K_compose 26 = .ok (.iload 4, 2) := by decide +kernel
theorem d_K_compose_28 : decode b_K_compose 28 = .ok (.invokevirtual 368, 3) := by decide +kernel
theorem d_K_compose_31 : decode b_K_compose 31 = .ok (.ior, 1) := by decide +kernel
theorem d_K_compose_32 : decode b_K_compose 32 = .ok (.ireturn, 1) := by decide +kernel
theorem d_K_registerBits_0 : decode b_K_registerBits 0 = .ok (.aload_n 0, 1) := by decide +kernel
theorem d_K_registerBits_1 : decode b_K_registerBits 1 = .ok (.iload_n 1, 1) := by decide +kernel
theorem d_K_registerBits_2 : decode b_K_registerBits 2 = .ok (.invokevirtual 344, 3) := by decide +kernel
theorem d_K_registerBits_5 : decode b_K_registerBits 5 = .ok (.ifCond .ne 5, 3) := by decide +kernel
theorem d_K_registerBits_8 : decode b_K_registerBits 8 = .ok (.iconst 0, 1) := by decide +kernel
theorem d_K_registerBits_9 : decode b_K_registerBits 9 = .ok (.ireturn, 1) := by decide +kernel
theorem d_K_registerBits_10 : decode b_K_registerBits 10 = .ok (.aload_n 0, 1) := by decide +kernel
theorem d_K_registerBits_11 : decode b_K_registerBits 11 = .ok (.iload_n 1, 1) := by decide +kernel
theorem d_K_registerBits_12 : decode b_K_registerBits 12 = .ok (.invokevirtual 352, 3) := by decide +kernel
theorem d_K_registerBits_15 : decode b_K_registerBits 15 = .ok (.ifCond .eq 10, 3) := by decide +kernel
theorem d_K_registerBits_18 : decode b_K_registerBits 18 = .ok (.iload_n 2, 1) := by decide +kernel
theorem d_K_registerBits_19 : decode b_K_registerBits 19 = .ok (.bipush 7, 2) := by decide +kernel
theorem d_K_registerBits_21 : decode b_K_registerBits 21 = .ok (.iand, 1) := by decide +kernel
theorem d_K_registerBits_22 : decode b_K_registerBits 22 = .ok (.goto 7, 3) := by decide +kernel
theorem d_K_registerBits_25 : decode b_K_registerBits 25 = .ok (.iload_n 2, 1) := by decide +kernel
theorem d_K_registerBits_26 : decode b_K_registerBits 26 = .ok (.bipush 31, 2) := by decide +kernel
theorem d_K_registerBits_28 : decode b_K_registerBits 28 = .ok (.iand, 1) := by decide +kernel
theorem d_K_registerBits_29 : decode b_K_registerBits 29 = .ok (.aload_n 0, 1) := by decide +kernel
theorem d_K_registerBits_30 : decode b_K_registerBits 30 = .ok (.iload_n 1, 1) := by decide +kernel
theorem d_K_registerBits_31 : decode b_K_registerBits 31 = .ok (.invokevirtual 326, 3) := by decide +kernel
theorem d_K_registerBits_34 : decode b_K_registerBits 34 = .ok (.ishl, 1) := by decide +kernel
theorem d_K_registerBits_35 : decode b_K_registerBits 35 = .ok (.ireturn, 1) := by decide +kernel
theorem d_K_immediateBits_0 : decode b_K_immediateBits 0 = .ok (.iconst 0, 1) := by decide +kernel
theorem d_K_immediateBits_1 : decode b_K_immediateBits 1 = .ok (.istore_n 2, 1) := by decide +kernel
theorem d_K_immediateBits_2 : decode b_K_immediateBits 2 = .ok (.iconst 0, 1) := by decide +kernel
theorem d_K_immediateBits_3 : decode b_K_immediateBits 3 = .ok (.istore_n 3, 1) := by decide +kernel
theorem d_K_immediateBits_4 : decode b_K_immediateBits 4 = .ok (.aload_n 0, 1) := by decide +kernel
theorem d_K_immediateBits_5 : decode b_K_immediateBits 5 = .ok (.bipush 8, 2) := by decide +kernel
theorem d_K_immediateBits_7 : decode b_K_immediateBits 7 = .ok (.invokevirtual 344, 3) := by decide +kernel
theorem d_K_immediateBits_10 : decode b_K_immediateBits 10 = .ok (.ifCond .eq 64, 3) := by decide +kernel
theorem d_K_immediateBits_13 : decode b_K_immediateBits 13 = .ok (.iload_n 3, 1) := by decide +kernel
theorem d_K_immediateBits_14 : decode b_K_immediateBits 14 = .ok (.aload_n 0, 1) := by decide +kernel
theorem d_K_immediateBits_15 : decode b_K_immediateBits 15 = .ok (.getfield 259, 3) := by decide +kernel
theorem d_K_immediateBits_18 : decode b_K_immediateBits 18 = .ok (.invokevirtual 275, 3) := by decide +kernel
theorem d_K_immediateBits_21 : decode b_K_immediateBits 21 = .ok (.if_icmp .ge 53, 3) := by decide +kernel
theorem d_K_immediateBits_24 : decode b_K_immediateBits 24 = .ok (.aload_n 0, 1) := by decide +kernel
theorem d_K_immediateBits_25 : decode b_K_immediateBits 25 = .ok (.getfield 259, 3) := by decide +kernel
theorem d_K_immediateBits_28 : decode b_K_immediateBits 28 = .ok (.iload_n 3, 1) := by decide +kernel
theorem d_K_immediateBits_29 : decode b_K_immediateBits 29 = .ok (.invokevirtual 281, 3) := by decide +kernel
theorem d_K_immediateBits_32 : decode b_K_immediateBits 32 = .ok (.istore 4, 2) := by decide +kernel
theorem d_K_immediateBits_34 : decode b_K_immediateBits 34 = .ok (.iload 4, 2) := by decide +kernel
theorem d_K_immediateBits_36 : decode b_K_immediateBits 36 = .ok (.invokestatic 285, 3) := by decide +kernel
theorem d_K_immediateBits_39 : decode b_K_immediateBits 39 = .ok (.bipush 8, 2) := by decide +kernel
theorem d_K_immediateBits_41 : decode b_K_immediateBits 41 = .ok (.if_icmp .ne 27, 3) := by decide +kernel
theorem d_K_immediateBits_44 : decode b_K_immediateBits 44 = .ok (.iload_n 2, 1) := by decide +kernel
theorem d_K_immediateBits_45 : decode b_K_immediateBits 45 = .ok (.iload_n 1, 1) := by decide +kernel
theorem d_K_immediateBits_46 : decode b_K_immediateBits 46 = .ok (.iload 4, 2) := by decide +kernel
theorem d_K_immediateBits_48 : decode b_K_immediateBits 48 = .ok (.bipush 65, 2) := by decide +kernel
theorem d_K_immediateBits_50 : decode b_K_immediateBits 50 = .ok (.isub, 1) := by decide +kernel
theorem d_K_immediateBits_51 : decode b_K_immediateBits 51 = .ok (.ishr, 1) := by decide +kernel
theorem d_K_immediateBits_52 : decode b_K_immediateBits 52 = .ok (.iconst 1, 1) := by decide +kernel
theorem d_K_immediateBits_53 : decode b_K_immediateBits 53 = .ok (.iand, 1) := by decide +kernel
theorem d_K_immediateBits_54 : decode b_K_immediateBits 54 = .ok (.aload_n 0, 1) := by decide +kernel
theorem d_K_immediateBits_55 : decode b_K_immediateBits 55 = .ok (.getfield 259, 3) := by decide +kernel
theorem d_K_immediateBits_58 : decode b_K_immediateBits 58 = .ok (.invokevirtual 275, 3) := by decide +kernel
theorem d_K_immediateBits_61 : decode b_K_immediateBits 61 = .ok (.iconst 1, 1) := by decide +kernel
theorem d_K_immediateBits_62 : decode b_K_immediateBits 62 = .ok (.isub, 1) := by decide +kernel
theorem d_K_immediateBits_63 : decode b_K_immediateBits 63 = .ok (.iload_n 3, 1) := by decide +kernel
theorem d_K_immediateBits_64 : decode b_K_immediateBits 64 = .ok (.isub, 1) := by decide +kernel
theorem d_K_immediateBits_65 : decode b_K_immediateBits 65 = .ok (.ishl, 1) := by decide +kernel
theorem d_K_immediateBits_66 : decode b_K_immediateBits 66 = .ok (.ior, 1) := by decide +kernel
theorem d_K_immediateBits_67 : decode b_K_immediateBits 67 = .ok (.istore_n 2, 1) := by decide +kernel
theorem d_K_immediateBits_68 : decode b_K_immediateBits 68 = .ok (.iinc 3 1, 3) := by decide +kernel
theorem d_K_immediateBits_71 : decode b_K_immediateBits 71 = .ok (.goto (-67), 3) := by decide +kernel
theorem d_K_immediateBits_74 : decode b_K_immediateBits 74 = .ok (.iload_n 2, 1) := by decide +kernel
theorem d_K_immediateBits_75 : decode b_K_immediateBits 75 = .ok (.ireturn, 1) := by decide +kernel
end
section
theorem d_C_init_0 : decode b_C_init 0 = .ok (.aload_n 0, 1) := by decide +kernel
theorem d_C_init_1 : decode b_C_init 1 = .ok (.invokespecial 1, 3) := by decide +kernel
theorem d_C_init_4 : decode b_C_init 4 = .ok (.aload_n 0, 1) := by decide +kernel
theorem d_C_init_5 : decode b_C_init 5 = .ok (.bipush 48, 2) := by decide +kernel
theorem d_C_init_7 : decode b_C_init 7 = .ok (.newarray .char, 2) := by decide +kernel
theorem d_C_init_9 : decode b_C_init 9 = .ok (.putfield 9, 3) := by decide +kernel
theorem d_C_init_12 : decode b_C_init 12 = .ok (.aload_n 0, 1) := by decide +kernel
theorem d_C_init_13 : decode b_C_init 13 = .ok (.iconst 0, 1) := by decide +kernel
theorem d_C_init_14 : decode b_C_init 14 = .ok (.putfield 13, 3) := by decide +kernel
theorem d_C_init_17 : decode b_C_init 17 = .ok (.return_, 1) := by decide +kernel
theorem d_C_kind_0 : decode b_C_kind 0 = .ok (.iload_n 1, 1) := by decide +kernel
theorem d_C_kind_1 : decode b_C_kind 1 = .ok (.invokestatic 47, 3) := by decide +kernel
theorem d_C_kind_4 : decode b_C_kind 4 = .ok (.ireturn, 1) := by decide +kernel
theorem d_C_numberOf_0 : decode b_C_numberOf 0 = .ok (.iconst 0, 1) := by decide +kernel
theorem d_C_numberOf_1 : decode b_C_numberOf 1 = .ok (.istore_n 1, 1) := by decide +kernel
theorem d_C_numberOf_2 : decode b_C_numberOf 2 = .ok (.iload_n 1, 1) := by decide +kernel
theorem d_C_numberOf_3 : decode b_C_numberOf 3 = .ok (.getstatic 28, 3) := by decide +kernel
theorem d_C_numberOf_6 : decode b_C_numberOf 6 = .ok (.arraylength, 1) := by decide +kernel
theorem d_C_numberOf_7 : decode b_C_numberOf 7 = .ok (.if_icmp .ge 23, 3) := by decide +kernel
theorem d_C_numberOf_10 : decode b_C_numberOf 10 = .ok (.getstatic 28, 3) := by decide +kernel
theorem d_C_numberOf_13 : decode b_C_numberOf 13 = .ok (.iload_n 1, 1) := by decide +kernel
theorem d_C_numberOf_14 : decode b_C_numberOf 14 = .ok (.aaload, 1) := by decide +kernel
theorem d_C_numberOf_15 : decode b_C_numberOf 15 = .ok (.iload_n 0, 1) := by decide +kernel
theorem d_C_numberOf_16 : decode b_C_numberOf 16 = .ok (.invokevirtual 124, 3) := by decide +kernel
theorem d_C_numberOf_19 : decode b_C_numberOf 19 = .ok (.ifCond .eq 5, 3) := by decide +kernel
theorem d_C_numberOf_22 : decode b_C_numberOf 22 = .ok (.iload_n 1, 1) := by decide +kernel
theorem d_C_numberOf_23 : decode b_C_numberOf 23 = .ok (.ireturn, 1) := by decide +kernel
theorem d_C_numberOf_24 : decode b_C_numberOf 24 = .ok (.iinc 1 1, 3) := by decide +kernel
theorem d_C_numberOf_27 : decode b_C_numberOf 27 = .ok (.goto (-25), 3) := by decide +kernel
theorem d_C_numberOf_30 : decode b_C_numberOf 30 = .ok (.iconst (-1), 1) := by decide +kernel
theorem d_C_numberOf_31 : decode b_C_numberOf 31 = .ok (.ireturn, 1) := by decide +kernel
theorem d_C_size_0 : decode b_C_size 0 = .ok (.iload_n 1, 1) := by decide +kernel
theorem d_C_size_1 : decode b_C_size 1 = .ok (.invokestatic 51, 3) := by decide +kernel
theorem d_C_size_4 : decode b_C_size 4 = .ok (.ifCond .eq 7, 3) := by decide +kernel
theorem d_C_size_7 : decode b_C_size 7 = .ok (.iconst 4, 1) := by decide +kernel
theorem d_C_size_8 : decode b_C_size 8 = .ok (.goto 4, 3) := by decide +kernel
theorem d_C_size_11 : decode b_C_size 11 = .ok (.iconst 2, 1) := by decide +kernel
theorem d_C_size_12 : decode b_C_size 12 = .ok (.ireturn, 1) := by decide +kernel
theorem d_C_isLong_0 : decode b_C_isLong 0 = .ok (.iload_n 0, 1) := by decide +kernel
theorem d_C_isLong_1 : decode b_C_isLong 1 = .ok (.iconst 3, 1) := by decide +kernel
theorem d_C_isLong_2 : decode b_C_isLong 2 = .ok (.iand, 1) := by decide +kernel
theorem d_C_isLong_3 : decode b_C_isLong 3 = .ok (.iconst 3, 1) := by decide +kernel
theorem d_C_isLong_4 : decode b_C_isLong 4 = .ok (.if_icmp .ne 7, 3) := by decide +kernel
theorem d_C_isLong_7 : decode b_C_isLong 7 = .ok (.iconst 1, 1) := by decide +kernel
theorem d_C_isLong_8 : decode b_C_isLong 8 = .ok (.goto 4, 3) := by decide +kernel
theorem d_C_isLong_11 : decode b_C_isLong 11 = .ok (.iconst 0, 1) := by decide +kernel
theorem d_C_isLong_12 : decode b_C_isLong 12 = .ok (.ireturn, 1) := by decide +kernel
theorem d_C_shorter_0 : decode b_C_shorter 0 = .ok (.iload_n 1, 1) := by decide +kernel
theorem d_C_shorter_1 : decode b_C_shorter 1 = .ok (.invokestatic 47, 3) := by decide +kernel
theorem d_C_shorter_4 : decode b_C_shorter 4 = .ok (.istore_n 2, 1) := by decide +kernel
theorem d_C_shorter_5 : decode b_C_shorter 5 = .ok (.iload_n 2, 1) := by decide +kernel
theorem d_C_shorter_6 : decode b_C_shorter 6 = .ok (.iconst (-1), 1) := by decide +kernel
theorem d_C_shorter_7 : decode b_C_shorter 7 = .ok (.if_icmp .eq 10, 3) := by decide +kernel
theorem d_C_shorter_10 : decode b_C_shorter 10 = .ok (.iload_n 1, 1) := by decide +kernel
theorem d_C_shorter_11 : decode b_C_shorter 11 = .ok (.invokestatic 51, 3) := by decide +kernel
theorem d_C_shorter_14 : decode b_C_shorter 14 = .ok (.ifCond .ne 5, 3) := by decide +kernel
theorem d_C_shorter_17 : decode b_C_shorter 17 = .ok (.iconst (-1), 1) := by decide +kernel
theorem d_C_shorter_18 : decode b_C_shorter 18 = .ok (.ireturn, 1) := by decide +kernel
theorem d_C_shorter_19 : decode b_C_shorter 19 = .ok (.getstatic 28, 3) := by decide +kernel
theorem d_C_shorter_22 : decode b_C_shorter 22 = .ok (.iload_n 2, 1) := by decide +kernel
theorem d_C_shorter_23 : decode b_C_shorter 23 = .ok (.aaload, 1) := by decide +kernel
theorem d_C_shorter_24 : decode b_C_shorter 24 = .ok (.astore_n 3, 1) := by decide +kernel
theorem d_C_shorter_25 : decode b_C_shorter 25 = .ok (.aload_n 3, 1) := by decide +kernel
theorem d_C_shorter_26 : decode b_C_shorter 26 = .ok (.iload_n 1, 1) := by decide +kernel
theorem d_C_shorter_27 : decode b_C_shorter 27 = .ok (.iconst 1, 1) := by decide +kernel
theorem d_C_shorter_28 : decode b_C_shorter 28 = .ok (.invokevirtual 67, 3) := by decide +kernel
theorem d_C_shorter_31 : decode b_C_shorter 31 = .ok (.istore 4, 2) := by decide +kernel
theorem d_C_shorter_33 : decode b_C_shorter 33 = .ok (.aload_n 3, 1) := by decide +kernel
theorem d_C_shorter_34 : decode b_C_shorter 34 = .ok (.iload_n 1, 1) := by decide +kernel
theorem d_C_shorter_35 : decode b_C_shorter 35 = .ok (.iconst 2, 1) := by decide +kernel
theorem d_C_shorter_36 : decode b_C_shorter 36 = .ok (.invokevirtual 67, 3) := by decide +kernel
theorem d_C_shorter_39 : decode b_C_shorter 39 = .ok (.istore 5, 2) := by decide +kernel
theorem d_C_shorter_41 : decode b_C_shorter 41 = .ok (.aload_n 3, 1) := by decide +kernel
theorem d_C_shorter_42 : decode b_C_shorter 42 = .ok (.iload_n 1, 1) := by decide +kernel
theorem d_C_shorter_43 : decode b_C_shorter 43 = .ok (.iconst 4, 1) := by decide +kernel
theorem d_C_shorter_44 : decode b_C_shorter 44 = .ok (.invokevirtual 67, 3) := by decide +kernel
theorem d_C_shorter_47 : decode b_C_shorter 47 = .ok (.istore 6, 2) := by decide +kernel
theorem d_C_shorter_49 : decode b_C_shorter 49 = .ok (.aload_n 3, 1) := by decide +kernel
theorem d_C_shorter_50 : decode b_C_shorter 50 = .ok (.iload_n 1, 1) := by decide +kernel
theorem d_C_shorter_51 : decode b_C_shorter 51 = .ok (.invokevirtual 64, 3) := by decide +kernel
theorem d_C_shorter_54 : decode b_C_shorter 54 = .ok (.istore 7, 2) := by decide +kernel
theorem d_C_shorter_56 : decode b_C_shorter 56 = .ok (.iload_n 2, 1) := by decide +kernel
theorem d_C_shorter_57 : decode b_C_shorter 57 = .ok (.iload 4, 2) := by decide +kernel
theorem d_C_shorter_59 : decode b_C_shorter 59 = .ok (.iload 5, 2) := by decide +kernel
theorem d_C_shorter_61 : decode b_C_shorter 61 = .ok (.iload 6, 2) := by decide +kernel
theorem d_C_shorter_63 : decode b_C_shorter 63 = .ok (.iload 7, 2) := by decide +kernel
theorem d_C_shorter_65 : decode b_C_shorter 65 = .ok (.invokestatic 80, 3) := by decide +kernel
theorem d_C_shorter_68 : decode b_C_shorter 68 = .ok (.istore 8, 2) := by decide +kernel
theorem d_C_shorter_70 : decode b_C_shorter 70 = .ok (.iload 8, 2) := by decide +kernel
theorem d_C_shorter_72 : decode b_C_shorter 72 = .ok (.iconst (-1), 1) := by decide +kernel
theorem d_C_shorter_73 : decode b_C_shorter 73 = .ok (.if_icmp .ne 31, 3) := by decide +kernel
theorem d_C_shorter_76 : decode b_C_shorter 76 = .ok (.iload_n 2, 1) := by decide +kernel
theorem d_C_shorter_77 : decode b_C_shorter 77 = .ok (.invokestatic 84, 3) := by decide +kernel
theorem d_C_shorter_80 : decode b_C_shorter 80 = .ok (.ifCond .eq 24, 3) := by decide +kernel
theorem d_C_shorter_83 : decode b_C_shorter 83 = .ok (.iload 4, 2) := by decide +kernel
theorem d_C_shorter_85 : decode b_C_shorter 85 = .ok (.iload 6, 2) := by decide +kernel
theorem d_C_shorter_87 : decode b_C_shorter 87 = .ok (.if_icmp .ne 17, 3) := by decide +kernel
theorem d_C_shorter_90 : decode b_C_shorter 90 = .ok (.iload_n 2, 1) := by decide +kernel
theorem d_C_shorter_91 : decode b_C_shorter 91 = .ok (.iload 4, 2) := by decide +kernel
theorem d_C_shorter_93 : decode b_C_shorter 93 = .ok (.iload 6, 2) := by decide +kernel
theorem d_C_shorter_95 : decode b_C_shorter 95 = .ok (.iload 5, 2) := by decide +kernel
theorem d_C_shorter_97 : decode b_C_shorter 97 = .ok (.iload 7, 2) := by decide +kernel
theorem d_C_shorter_99 : decode b_C_shorter 99 = .ok (.invokestatic 80, 3) := by decide +kernel
theorem d_C_shorter_102 : decode b_C_shorter 102 = .ok (.istore 8, 2) := by decide +kernel
theorem d_C_shorter_104 : decode b_C_shorter 104 = .ok (.iload 8, 2) := by decide +kernel
theorem d_C_shorter_106 : decode b_C_shorter 106 = .ok (.iconst (-1), 1) := by decide +kernel
theorem d_C_shorter_107 : decode b_C_shorter 107 = .ok (.if_icmp .ne 37, 3) := by decide +kernel
theorem d_C_shorter_110 : decode b_C_shorter 110 = .ok (.iload_n 2, 1) := by decide +kernel
theorem d_C_shorter_111 : decode b_C_shorter 111 = .ok (.bipush 18, 2) := by decide +kernel
theorem d_C_shorter_113 : decode b_C_shorter 113 = .ok (.if_icmp .ne 31, 3) := by decide +kernel
theorem d_C_shorter_116 : decode b_C_shorter 116 = .ok (.iload 7, 2) := by decide +kernel
theorem d_C_shorter_118 : decode b_C_shorter 118 = .ok (.ifCond .ne 26, 3) := by decide +kernel
theorem d_C_shorter_121 : decode b_C_shorter 121 = .ok (.iload 4, 2) := by decide +kernel
theorem d_C_shorter_123 : decode b_C_shorter 123 = .ok (.ifCond .eq 21, 3) := by decide +kernel
theorem d_C_shorter_126 : decode b_C_shorter 126 = .ok (.iload 5, 2) := by decide +kernel
theorem d_C_shorter_128 : decode b_C_shorter 128 = .ok (.ifCond .eq 16, 3) := by decide +kernel
theorem d_C_shorter_131 : decode b_C_shorter 131 = .ok (.bipush 27, 2) := by decide +kernel
theorem d_C_shorter_133 : decode b_C_shorter 133 = .ok (.iload 4, 2) := by decide +kernel
theorem d_C_shorter_135 : decode b_C_shorter 135 = .ok (.iconst 0, 1) := by decide +kernel
theorem d_C_shorter_136 : decode b_C_shorter 136 = .ok (.iload 5, 2) := by decide +kernel
theorem d_C_shorter_138 : decode b_C_shorter 138 = .ok (.iconst 0, 1) := by decide +kernel
theorem d_C_shorter_139 : decode b_C_shorter 139 = .ok (.invokestatic 80, 3) := by decide +kernel
theorem d_C_shorter_142 : decode b_C_shorter 142 = .ok (.istore 8, 2) := by decide +kernel
theorem d_C_shorter_144 : decode b_C_shorter 144 = .ok (.iload 8, 2) := by decide +kernel
theorem d_C_shorter_146 : decode b_C_shorter 146 = .ok (.ireturn, 1) := by decide +kernel
theorem d_C_shortOf_0 : decode b_C_shortOf 0 = .ok (.iload_n 0, 1) := by decide +kernel
theorem d_C_shortOf_1 : decode b_C_shortOf 1 = .ok (.invokestatic 17, 3) := by decide +kernel
theorem d_C_shortOf_4 : decode b_C_shortOf 4 = .ok (.ifCond .ne 5, 3) := by decide +kernel
theorem d_C_shortOf_7 : decode b_C_shortOf 7 = .ok (.iconst (-1), 1) := by decide +kernel
theorem d_C_shortOf_8 : decode b_C_shortOf 8 = .ok (.ireturn, 1) := by decide +kernel
theorem d_C_shortOf_9 : decode b_C_shortOf 9 = .ok (.getstatic 28, 3) := by decide +kernel
theorem d_C_shortOf_12 : decode b_C_shortOf 12 = .ok (.iload_n 0, 1) := by decide +kernel
theorem d_C_shortOf_13 : decode b_C_shortOf 13 = .ok (.aaload, 1) := by decide +kernel
theorem d_C_shortOf_14 : decode b_C_shortOf 14 = .ok (.iload_n 1, 1) := by decide +kernel
theorem d_C_shortOf_15 : decode b_C_shortOf 15 = .ok (.iload_n 2, 1) := by decide +kernel
theorem d_C_shortOf_16 : decode b_C_shortOf 16 = .ok (.iload_n 3, 1) := by decide +kernel
theorem d_C_shortOf_17 : decode b_C_shortOf 17 = .ok (.iload 4, 2) := by decide +kernel
theorem d_C_shortOf_19 : decode b_C_shortOf 19 = .ok (.invokevirtual 43, 3) := by decide +kernel
theorem d_C_shortOf_22 : decode b_C_shortOf 22 = .ok (.istore 5, 2) := by decide +kernel
theorem d_C_shortOf_24 : decode b_C_shortOf 24 = .ok (.iconst 0, 1) := by decide +kernel
theorem d_C_shortOf_25 : decode b_C_shortOf 25 = .ok (.istore 6, 2) := by decide +kernel
theorem d_C_shortOf_27 : decode b_C_shortOf 27 = .ok (.iload 6, 2) := by decide +kernel
theorem d_C_shortOf_29 : decode b_C_shortOf 29 = .ok (.getstatic 28, 3) := by decide +kernel
theorem d_C_shortOf_32 : decode b_C_shortOf 32 = .ok (.arraylength, 1) := by decide +kernel
theorem d_C_shortOf_33 : decode b_C_shortOf 33 = .ok (.if_icmp .ge 65, 3) := by decide +kernel
theorem d_C_shortOf_36 : decode b_C_shortOf 36 = .ok (.getstatic 28, 3) := by decide +kernel
theorem d_C_shortOf_39 : decode b_C_shortOf 39 = .ok (.iload 6, 2) := by decide +kernel
theorem d_C_shortOf_41 : decode b_C_shortOf 41 = .ok (.aaload, 1) := by decide +kernel
theorem d_C_shortOf_42 : decode b_C_shortOf 42 = .ok (.astore 7, 2) := by decide +kernel
theorem d_C_shortOf_44 : decode b_C_shortOf 44 = .ok (.aload 7, 2) := by decide +kernel
theorem d_C_shortOf_46 : decode b_C_shortOf 46 = .ok (.getfield 71, 3) := by decide +kernel
theorem d_C_shortOf_49 : decode b_C_shortOf 49 = .ok (.iload_n 0, 1) := by decide +kernel
theorem d_C_shortOf_50 : decode b_C_shortOf 50 = .ok (.if_icmp .ne 42, 3) := by decide +kernel
theorem d_C_shortOf_53 : decode b_C_shortOf 53 = .ok (.aload 7, 2) := by decide +kernel
theorem d_C_shortOf_55 : decode b_C_shortOf 55 = .ok (.iload_n 1, 1) := by decide +kernel
theorem d_C_shortOf_56 : decode b_C_shortOf 56 = .ok (.iload_n 2, 1) := by decide +kernel
theorem d_C_shortOf_57 : decode b_C_shortOf 57 = .ok (.iload_n 3, 1) := by decide +kernel
theorem d_C_shortOf_58 : decode b_C_shortOf 58 = .ok (.iload 4, 2) := by decide +kernel
theorem d_C_shortOf_60 : decode b_C_shortOf 60 = .ok (.invokevirtual 32, 3) := by decide +kernel
theorem d_C_shortOf_63 : decode b_C_shortOf 63 = .ok (.ifCond .eq 29, 3) := by decide +kernel
theorem d_C_shortOf_66 : decode b_C_shortOf 66 = .ok (.aload 7, 2) := by decide +kernel
theorem d_C_shortOf_68 : decode b_C_shortOf 68 = .ok (.iload_n 1, 1) := by decide +kernel
theorem d_C_shortOf_69 : decode b_C_shortOf 69 = .ok (.iload_n 2, 1) := by decide +kernel
theorem d_C_shortOf_70 : decode b_C_shortOf 70 = .ok (.iload_n 3, 1) := by decide +kernel
theorem d_C_shortOf_71 : decode b_C_shortOf 71 = .ok (.iload 4, 2) := by decide +kernel
theorem d_C_shortOf_73 : decode b_C_shortOf 73 = .ok (.invokestatic 76, 3) := by decide +kernel
theorem d_C_shortOf_76 : decode b_C_shortOf 76 = .ok (.iload 5, 2) := by decide +kernel
theorem d_C_shortOf_78 : decode b_C_shortOf 78 = .ok (.if_icmp .ne 14, 3) := by decide +kernel
theorem d_C_shortOf_81 : decode b_C_shortOf 81 = .ok (.aload 7, 2) := by decide +kernel
theorem d_C_shortOf_83 : decode b_C_shortOf 83 = .ok (.iload_n 1, 1) := by decide +kernel
theorem d_C_shortOf_84 : decode b_C_shortOf 84 = .ok (.iload_n 2, 1) := by decide +kernel
theorem d_C_shortOf_85 : decode b_C_shortOf 85 = .ok (.iload_n 3, 1) := by decide +kernel
theorem d_C_shortOf_86 : decode b_C_shortOf 86 = .ok (.iload 4, 2) := by decide +kernel
theorem d_C_shortOf_88 : decode b_C_shortOf 88 = .ok (.invokevirtual 43, 3) := by decide +kernel
theorem d_C_shortOf_91 : decode b_C_shortOf 91 = .ok (.ireturn, 1) := by decide +kernel
theorem d_C_shortOf_92 : decode b_C_shortOf 92 = .ok (.iinc 6 1, 3) := by decide +kernel
theorem d_C_shortOf_95 : decode b_C_shortOf 95 = .ok (.goto (-68), 3) := by decide +kernel
theorem d_C_shortOf_98 : decode b_C_shortOf 98 = .ok (.iconst (-1), 1) := by decide +kernel
theorem d_C_shortOf_99 : decode b_C_shortOf 99 = .ok (.ireturn, 1) := by decide +kernel
theorem d_C_isKind_0 : decode b_C_isKind 0 = .ok (.iload_n 0, 1) := by decide +kernel
theorem d_C_isKind_1 : decode b_C_isKind 1 = .ok (.ifCond .lt 15, 3) := by decide +kernel
theorem d_C_isKind_4 : decode b_C_isKind 4 = .ok (.iload_n 0, 1) := by decide +kernel
theorem d_C_isKind_5 : decode b_C_isKind 5 = .ok (.getstatic 28, 3) := by decide +kernel
theorem d_C_isKind_8 : decode b_C_isKind 8 = .ok (.arraylength, 1) := by decide +kernel
theorem d_C_isKind_9 : decode b_C_isKind 9 = .ok (.if_icmp .ge 7, 3) := by decide +kernel
theorem d_C_isKind_12 : decode b_C_isKind 12 = .ok (.iconst 1, 1) := by decide +kernel
theorem d_C_isKind_13 : decode b_C_isKind 13 = .ok (.goto 4, 3) := by decide +kernel
theorem d_C_isKind_16 : decode b_C_isKind 16 = .ok (.iconst 0, 1) := by decide +kernel
theorem d_C_isKind_17 : decode b_C_isKind 17 = .ok (.ireturn, 1) := by decide +kernel
theorem d_C_longOf_0 : decode b_C_longOf 0 = .ok (.aload_n 0, 1) := by decide +kernel
theorem d_C_longOf_1 : decode b_C_longOf 1 = .ok (.getfield 71, 3) := by decide +kernel
theorem d_C_longOf_4 : decode b_C_longOf 4 = .ok (.invokestatic 17, 3) := by decide +kernel
theorem d_C_longOf_7 : decode b_C_longOf 7 = .ok (.ifCond .ne 5, 3) := by decide +kernel
theorem d_C_longOf_10 : decode b_C_longOf 10 = .ok (.iconst (-1), 1) := by decide +kernel
theorem d_C_longOf_11 : decode b_C_longOf 11 = .ok (.ireturn, 1) := by decide +kernel
theorem d_C_longOf_12 : decode b_C_longOf 12 = .ok (.aload_n 0, 1) := by decide +kernel
theorem d_C_longOf_13 : decode b_C_longOf 13 = .ok (.getfield 127, 3) := by decide +kernel
theorem d_C_longOf_16 : decode b_C_longOf 16 = .ok (.iconst 0, 1) := by decide +kernel
theorem d_C_longOf_17 : decode b_C_longOf 17 = .ok (.iload_n 1, 1) := by decide +kernel
theorem d_C_longOf_18 : decode b_C_longOf 18 = .ok (.iload_n 2, 1) := by decide +kernel
theorem d_C_longOf_19 : decode b_C_longOf 19 = .ok (.iload_n 3, 1) := by decide +kernel
theorem d_C_longOf_20 : decode b_C_longOf 20 = .ok (.invokestatic 130, 3) := by decide +kernel
theorem d_C_longOf_23 : decode b_C_longOf 23 = .ok (.istore 5, 2) := by decide +kernel
theorem d_C_longOf_25 : decode b_C_longOf 25 = .ok (.aload_n 0, 1) := by decide +kernel
theorem d_C_longOf_26 : decode b_C_longOf 26 = .ok (.getfield 127, 3) := by decide +kernel
theorem d_C_longOf_29 : decode b_C_longOf 29 = .ok (.iconst 1, 1) := by decide +kernel
theorem d_C_longOf_30 : decode b_C_longOf 30 = .ok (.iload_n 1, 1) := by decide +kernel
theorem d_C_longOf_31 : decode b_C_longOf 31 = .ok (.iload_n 2, 1) := by decide +kernel
theorem d_C_longOf_32 : decode b_C_longOf 32 = .ok (.iload_n 3, 1) := by decide +kernel
theorem d_C_longOf_33 : decode b_C_longOf 33 = .ok (.invokestatic 130, 3) := by decide +kernel
theorem d_C_longOf_36 : decode b_C_longOf 36 = .ok (.istore 6, 2) := by decide +kernel
theorem d_C_longOf_38 : decode b_C_longOf 38 = .ok (.aload_n 0, 1) := by decide +kernel
theorem d_C_longOf_39 : decode b_C_longOf 39 = .ok (.getfield 127, 3) := by decide +kernel
theorem d_C_longOf_42 : decode b_C_longOf 42 = .ok (.iconst 2, 1) := by decide +kernel
theorem d_C_longOf_43 : decode b_C_longOf 43 = .ok (.iload_n 1, 1) := by decide +kernel
theorem d_C_longOf_44 : decode b_C_longOf 44 = .ok (.iload_n 2, 1) := by decide +kernel
theorem d_C_longOf_45 : decode b_C_longOf 45 = .ok (.iload_n 3, 1) := by decide +kernel
theorem d_C_longOf_46 : decode b_C_longOf 46 = .ok (.invokestatic 130, 3) := by decide +kernel
theorem d_C_longOf_49 : decode b_C_longOf 49 = .ok (.istore 7, 2) := by decide +kernel
theorem d_C_longOf_51 : decode b_C_longOf 51 = .ok (.getstatic 28, 3) := by decide +kernel
theorem d_C_longOf_54 : decode b_C_longOf 54 = .ok (.aload_n 0, 1) := by decide +kernel
theorem d_C_longOf_55 : decode b_C_longOf 55 = .ok (.getfield 71, 3) := by decide +kernel
theorem d_C_longOf_58 : decode b_C_longOf 58 = .ok (.aaload, 1) := by decide +kernel
theorem d_C_longOf_59 : decode b_C_longOf 59 = .ok (.iload 5, 2) := by decide +kernel
theorem d_C_longOf_61 : decode b_C_longOf 61 = .ok (.iload 6, 2) := by decide +kernel
theorem d_C_longOf_63 : decode b_C_longOf 63 = .ok (.iload 7, 2) := by decide +kernel
theorem d_C_longOf_65 : decode b_C_longOf 65 = .ok (.aload_n 0, 1) := by decide +kernel
theorem d_C_longOf_66 : decode b_C_longOf 66 = .ok (.bipush 8, 2) := by decide +kernel
theorem d_C_longOf_68 : decode b_C_longOf 68 = .ok (.invokevirtual 59, 3) := by decide +kernel
theorem d_C_longOf_71 : decode b_C_longOf 71 = .ok (.ifCond .eq 8, 3) := by decide +kernel
theorem d_C_longOf_74 : decode b_C_longOf 74 = .ok (.iload 4, 2) := by decide +kernel
theorem d_C_longOf_76 : decode b_C_longOf 76 = .ok (.goto 4, 3) := by decide +kernel
theorem d_C_longOf_79 : decode b_C_longOf 79 = .ok (.iconst 0, 1) := by decide +kernel
theorem d_C_longOf_80 : decode b_C_longOf 80 = .ok (.invokevirtual 43, 3) := by decide +kernel
theorem d_C_longOf_83 : decode b_C_longOf 83 = .ok (.ireturn, 1) := by decide +kernel
theorem d_C_slotRegister_0 : decode b_C_slotRegister 0 = .ok (.iload_n 1, 1) := by decide +kernel
theorem d_C_slotRegister_1 : decode b_C_slotRegister 1 = .ok (.ifCond .lt 11, 3) := by decide +kernel
theorem d_C_slotRegister_4 : decode b_C_slotRegister 4 = .ok (.iload_n 1, 1) := by decide +kernel
theorem d_C_slotRegister_5 : decode b_C_slotRegister 5 = .ok (.aload_n 0, 1) := by decide +kernel
theorem d_C_slotRegister_6 : decode b_C_slotRegister 6 = .ok (.invokevirtual 118, 3) := by decide +kernel
theorem d_C_slotRegister_9 : decode b_C_slotRegister 9 = .ok (.if_icmp .lt 5, 3) := by decide +kernel
theorem d_C_slotRegister_12 : decode b_C_slotRegister 12 = .ok (.iconst 0, 1) := by decide +kernel
theorem d_C_slotRegister_13 : decode b_C_slotRegister 13 = .ok (.ireturn, 1) := by decide +kernel
theorem d_C_slotRegister_14 : decode b_C_slotRegister 14 = .ok (.aload_n 0, 1) := by decide +kernel
theorem d_C_slotRegister_15 : decode b_C_slotRegister 15 = .ok (.iload_n 1, 1) := by decide +kernel
theorem d_C_slotRegister_16 : decode b_C_slotRegister 16 = .ok (.invokevirtual 134, 3) := by decide +kernel
theorem d_C_slotRegister_19 : decode b_C_slotRegister 19 = .ok (.istore 5, 2) := by decide +kernel
theorem d_C_slotRegister_21 : decode b_C_slotRegister 21 = .ok (.iload 5, 2) := by decide +kernel
theorem d_C_slotRegister_23 : decode b_C_slotRegister 23 = .ok (.bipush 100, 2) := by decide +kernel
theorem d_C_slotRegister_25 : decode b_C_slotRegister 25 = .ok (.if_icmp .ne 5, 3) := by decide +kernel
theorem d_C_slotRegister_28 : decode b_C_slotRegister 28 = .ok (.iload_n 2, 1) := by decide +kernel
theorem d_C_slotRegister_29 : decode b_C_slotRegister 29 = .ok (.ireturn, 1) := by decide +kernel
theorem d_C_slotRegister_30 : decode b_C_slotRegister 30 = .ok (.iload 5, 2) := by decide +kernel
theorem d_C_slotRegister_32 : decode b_C_slotRegister 32 = .ok (.bipush 97, 2) := by decide +kernel
theorem d_C_slotRegister_34 : decode b_C_slotRegister 34 = .ok (.if_icmp .ne 5, 3) := by decide +kernel
theorem d_C_slotRegister_37 : decode b_C_slotRegister 37 = .ok (.iload_n 3, 1) := by decide +kernel
theorem d_C_slotRegister_38 : decode b_C_slotRegister 38 = .ok (.ireturn, 1) := by decide +kernel
theorem d_C_slotRegister_39 : decode b_C_slotRegister 39 = .ok (.iload 5, 2) := by decide +kernel
theorem d_C_slotRegister_41 : decode b_C_slotRegister 41 = .ok (.bipush 98, 2) := by decide +kernel
theorem d_C_slotRegister_43 : decode b_C_slotRegister 43 = .ok (.if_icmp .ne 6, 3) := by decide +kernel
theorem d_C_slotRegister_46 : decode b_C_slotRegister 46 = .ok (.iload 4, 2) := by decide +kernel
theorem d_C_slotRegister_48 : decode b_C_slotRegister 48 = .ok (.ireturn, 1) := by decide +kernel
theorem d_C_slotRegister_49 : decode b_C_slotRegister 49 = .ok (.iload 5, 2) := by decide +kernel
theorem d_C_slotRegister_51 : decode b_C_slotRegister 51 = .ok (.bipush 48, 2) := by decide +kernel
theorem d_C_slotRegister_53 : decode b_C_slotRegister 53 = .ok (.if_icmp .lt 18, 3) := by decide +kernel
theorem d_C_slotRegister_56 : decode b_C_slotRegister 56 = .ok (.iload 5, 2) := by decide +kernel
theorem d_C_slotRegister_58 : decode b_C_slotRegister 58 = .ok (.bipush 57, 2) := by decide +kernel
theorem d_C_slotRegister_60 : decode b_C_slotRegister 60 = .ok (.if_icmp .gt 11, 3) := by decide +kernel
theorem d_C_slotRegister_63 : decode b_C_slotRegister 63 = .ok (.iload 5, 2) := by decide +kernel
theorem d_C_slotRegister_65 : decode b_C_slotRegister 65 = .ok (.bipush 48, 2) := by decide +kernel
theorem d_C_slotRegister_67 : decode b_C_slotRegister 67 = .ok (.isub, 1) := by decide +kernel
theorem d_C_slotRegister_68 : decode b_C_slotRegister 68 = .ok (.goto 4, 3) := by decide +kernel
theorem d_C_slotRegister_71 : decode b_C_slotRegister 71 = .ok (.iconst 0, 1) := by decide +kernel
theorem d_C_slotRegister_72 : decode b_C_slotRegister 72 = .ok (.ireturn, 1) := by decide +kernel
theorem d_C_exchanges_0 : decode b_C_exchanges 0 = .ok (.iload_n 0, 1) := by decide +kernel
theorem d_C_exchanges_1 : decode b_C_exchanges 1 = .ok (.bipush 27, 2) := by decide +kernel
theorem d_C_exchanges_3 : decode b_C_exchanges 3 = .ok (.if_icmp .eq 21, 3) := by decide +kernel
theorem d_C_exchanges_6 : decode b_C_exchanges 6 = .ok (.iload_n 0, 1) := by decide +kernel
theorem d_C_exchanges_7 : decode b_C_exchanges 7 = .ok (.bipush 32, 2) := by decide +kernel
theorem d_C_exchanges_9 : decode b_C_exchanges 9 = .ok (.if_icmp .eq 15, 3) := by decide +kernel
theorem d_C_exchanges_12 : decode b_C_exchanges 12 = .ok (.iload_n 0, 1) := by decide +kernel
theorem d_C_exchanges_13 : decode b_C_exchanges 13 = .ok (.bipush 35, 2) := by decide +kernel
theorem d_C_exchanges_15 : decode b_C_exchanges 15 = .ok (.if_icmp .eq 9, 3) := by decide +kernel
theorem d_C_exchanges_18 : decode b_C_exchanges 18 = .ok (.iload_n 0, 1) := by decide +kernel
theorem d_C_exchanges_19 : decode b_C_exchanges 19 = .ok (.bipush 36, 2) := by decide +kernel
theorem d_C_exchanges_21 : decode b_C_exchanges 21 = .ok (.if_icmp .ne 7, 3) := by decide +kernel
theorem d_C_exchanges_24 : decode b_C_exchanges 24 = .ok (.iconst 1, 1) := by decide +kernel
theorem d_C_exchanges_25 : decode b_C_exchanges 25 = .ok (.goto 4, 3) := by decide +kernel
theorem d_C_exchanges_28 : decode b_C_exchanges 28 = .ok (.iconst 0, 1) := by decide +kernel
theorem d_C_exchanges_29 : decode b_C_exchanges 29 = .ok (.ireturn, 1) := by decide +kernel
theorem d_C_may_0 : decode b_C_may 0 = .ok (.iload_n 1, 1) := by decide +kernel
theorem d_C_may_1 : decode b_C_may 1 = .ok (.invokestatic 17, 3) := by decide +kernel
theorem d_C_may_4 : decode b_C_may 4 = .ok (.ifCond .eq 19, 3) := by decide +kernel
theorem d_C_may_7 : decode b_C_may 7 = .ok (.getstatic 28, 3) := by decide +kernel
theorem d_C_may_10 : decode b_C_may 10 = .ok (.iload_n 1, 1) := by decide +kernel
theorem d_C_may_11 : decode b_C_may 11 = .ok (.aaload, 1) := by decide +kernel
theorem d_C_may_12 : decode b_C_may 12 = .ok (.lload_n 2, 1) := by decide +kernel
theorem d_C_may_13 : decode b_C_may 13 = .ok (.invokevirtual 87, 3) := by decide +kernel
theorem d_C_may_16 : decode b_C_may 16 = .ok (.ifCond .eq 7, 3) := by decide +kernel
theorem d_C_may_19 : decode b_C_may 19 = .ok (.iconst 1, 1) := by decide +kernel
theorem d_C_may_20 : decode b_C_may 20 = .ok (.goto 4, 3) := by decide +kernel
theorem d_C_may_23 : decode b_C_may 23 = .ok (.iconst 0, 1) := by decide +kernel
theorem d_C_may_24 : decode b_C_may 24 = .ok (.ireturn, 1) := by decide +kernel
theorem d_C_tell_0 : decode b_C_tell 0 = .ok (.aload_n 0, 1) := by decide +kernel
theorem d_C_tell_1 : decode b_C_tell 1 = .ok (.iconst 0, 1) := by decide +kernel
theorem d_C_tell_2 : decode b_C_tell 2 = .ok (.putfield 13, 3) := by decide +kernel
theorem d_C_tell_5 : decode b_C_tell 5 = .ok (.iload_n 1, 1) := by decide +kernel
theorem d_C_tell_6 : decode b_C_tell 6 = .ok (.invokestatic 47, 3) := by decide +kernel
theorem d_C_tell_9 : decode b_C_tell 9 = .ok (.istore_n 3, 1) := by decide +kernel
theorem d_C_tell_10 : decode b_C_tell 10 = .ok (.iload_n 3, 1) := by decide +kernel
theorem d_C_tell_11 : decode b_C_tell 11 = .ok (.iconst (-1), 1) := by decide +kernel
theorem d_C_tell_12 : decode b_C_tell 12 = .ok (.if_icmp .ne 11, 3) := by decide +kernel
theorem d_C_tell_15 : decode b_C_tell 15 = .ok (.aload_n 0, 1) := by decide +kernel
theorem d_C_tell_16 : decode b_C_tell 16 = .ok (.iload_n 1, 1) := by decide +kernel
theorem d_C_tell_17 : decode b_C_tell 17 = .ok (.invokevirtual 93, 3) := by decide +kernel
theorem d_C_tell_20 : decode b_C_tell 20 = .ok (.goto 14, 3) := by decide +kernel
theorem d_C_tell_23 : decode b_C_tell 23 = .ok (.aload_n 0, 1) := by decide +kernel
theorem d_C_tell_24 : decode b_C_tell 24 = .ok (.getstatic 28, 3) := by decide +kernel
theorem d_C_tell_27 : decode b_C_tell 27 = .ok (.iload_n 3, 1) := by decide +kernel
theorem d_C_tell_28 : decode b_C_tell 28 = .ok (.aaload, 1) := by decide +kernel
theorem d_C_tell_29 : decode b_C_tell 29 = .ok (.iload_n 1, 1) := by decide +kernel
theorem d_C_tell_30 : decode b_C_tell 30 = .ok (.iload_n 2, 1) := by decide +kernel
theorem d_C_tell_31 : decode b_C_tell 31 = .ok (.invokevirtual 97, 3) := by decide +kernel
theorem d_C_tell_34 : decode b_C_tell 34 = .ok (.aload_n 0, 1) := by decide +kernel
theorem d_C_tell_35 : decode b_C_tell 35 = .ok (.getfield 13, 3) := by decide +kernel
theorem d_C_tell_38 : decode b_C_tell 38 = .ok (.ireturn, 1) := by decide +kernel
theorem d_C_writeIllegal_0 : decode b_C_writeIllegal 0 = .ok (.iload_n 1, 1) := by decide +kernel
theorem d_C_writeIllegal_1 : decode b_C_writeIllegal 1 = .ok (.invokestatic 51, 3) := by decide +kernel
theorem d_C_writeIllegal_4 : decode b_C_writeIllegal 4 = .ok (.ifCond .eq 17, 3) := by decide +kernel
theorem d_C_writeIllegal_7 : decode b_C_writeIllegal 7 = .ok (.aload_n 0, 1) := by decide +kernel
theorem d_C_writeIllegal_8 : decode b_C_writeIllegal 8 = .ok (.ldc 138, 2) := by decide +kernel
theorem d_C_writeIllegal_10 : decode b_C_writeIllegal 10 = .ok (.invokevirtual 140, 3) := by decide +kernel
theorem d_C_writeIllegal_13 : decode b_C_writeIllegal 13 = .ok (.aload_n 0, 1) := by decide +kernel
theorem d_C_writeIllegal_14 : decode b_C_writeIllegal 14 = .ok (.iload_n 1, 1) := by decide +kernel
theorem d_C_writeIllegal_15 : decode b_C_writeIllegal 15 = .ok (.invokevirtual 143, 3) := by decide +kernel
theorem d_C_writeIllegal_18 : decode b_C_writeIllegal 18 = .ok (.goto 17, 3) := by decide +kernel
theorem d_C_writeIllegal_21 : decode b_C_writeIllegal 21 = .ok (.aload_n 0, 1) := by decide +kernel
theorem d_C_writeIllegal_22 : decode b_C_writeIllegal 22 = .ok (.ldc 146, 2) := by decide +kernel
theorem d_C_writeIllegal_24 : decode b_C_writeIllegal 24 = .ok (.invokevirtual 140, 3) := by decide +kernel
theorem d_C_writeIllegal_27 : decode b_C_writeIllegal 27 = .ok (.aload_n 0, 1) := by decide +kernel
theorem d_C_writeIllegal_28 : decode b_C_writeIllegal 28 = .ok (.iload_n 1, 1) := by decide +kernel
theorem d_C_writeIllegal_29 : decode b_C_writeIllegal 29 = .ok (.ldc 148, 2) := by decide +kernel
theorem d_C_writeIllegal_31 : decode b_C_writeIllegal 31 = .ok (.iand, 1) := by decide +kernel
theorem d_C_writeIllegal_32 : decode b_C_writeIllegal 32 = .ok (.invokevirtual 143, 3) := by decide +kernel
theorem d_C_writeIllegal_35 : decode b_C_writeIllegal 35 = .ok (.return_, 1) := by decide +kernel
theorem d_C_writeString_0 : decode b_C_writeString 0 = .ok (.iconst 0, 1) := by decide +kernel
theorem d_C_writeString_1 : decode b_C_writeString 1 = .ok (.istore_n 2, 1) := by decide +kernel
theorem d_C_writeString_2 : decode b_C_writeString 2 = .ok (.iload_n 2, 1) := by decide +kernel
theorem d_C_writeString_3 : decode b_C_writeString 3 = .ok (.aload_n 1, 1) := by decide +kernel
theorem d_C_writeString_4 : decode b_C_writeString 4 = .ok (.invokevirtual 118, 3) := by decide +kernel
theorem d_C_writeString_7 : decode b_C_writeString 7 = .ok (.if_icmp .ge 18, 3) := by decide +kernel
theorem d_C_writeString_10 : decode b_C_writeString 10 = .ok (.aload_n 0, 1) := by decide +kernel
theorem d_C_writeString_11 : decode b_C_writeString 11 = .ok (.aload_n 1, 1) := by decide +kernel
theorem d_C_writeString_12 : decode b_C_writeString 12 = .ok (.iload_n 2, 1) := by decide +kernel
theorem d_C_writeString_13 : decode b_C_writeString 13 = .ok (.invokevirtual 134, 3) := by decide +kernel
theorem d_C_writeString_16 : decode b_C_writeString 16 = .ok (.invokevirtual 172, 3) := by decide +kernel
theorem d_C_writeString_19 : decode b_C_writeString 19 = .ok (.iinc 2 1, 3) := by decide +kernel
theorem d_C_writeString_22 : decode b_C_writeString 22 = .ok (.goto (-20), 3) := by decide +kernel
theorem d_C_writeString_25 : decode b_C_writeString 25 = .ok (.return_, 1) := by decide +kernel
theorem d_C_write_0 : decode b_C_write 0 = .ok (.aload_n 0, 1) := by decide +kernel
theorem d_C_write_1 : decode b_C_write 1 = .ok (.getfield 13, 3) := by decide +kernel
theorem d_C_write_4 : decode b_C_write 4 = .ok (.ifCond .lt 35, 3) := by decide +kernel
theorem d_C_write_7 : decode b_C_write 7 = .ok (.aload_n 0, 1) := by decide +kernel
theorem d_C_write_8 : decode b_C_write 8 = .ok (.getfield 13, 3) := by decide +kernel
theorem d_C_write_11 : decode b_C_write 11 = .ok (.aload_n 0, 1) := by decide +kernel
theorem d_C_write_12 : decode b_C_write 12 = .ok (.getfield 9, 3) := by decide +kernel
theorem d_C_write_15 : decode b_C_write 15 = .ok (.arraylength, 1) := by decide +kernel
theorem d_C_write_16 : decode b_C_write 16 = .ok (.if_icmp .ge 23, 3) := by decide +kernel
theorem d_C_write_19 : decode b_C_write 19 = .ok (.aload_n 0, 1) := by decide +kernel
theorem d_C_write_20 : decode b_C_write 20 = .ok (.getfield 9, 3) := by decide +kernel
theorem d_C_write_23 : decode b_C_write 23 = .ok (.aload_n 0, 1) := by decide +kernel
theorem d_C_write_24 : decode b_C_write 24 = .ok (.getfield 13, 3) := by decide +kernel
theorem d_C_write_27 : decode b_C_write 27 = .ok (.iload_n 1, 1) := by decide +kernel
theorem d_C_write_28 : decode b_C_write 28 = .ok (.castore, 1) := by decide +kernel
theorem d_C_write_29 : decode b_C_write 29 = .ok (.aload_n 0, 1) := by decide +kernel
theorem d_C_write_30 : decode b_C_write 30 = .ok (.dup, 1) := by decide +kernel
theorem d_C_write_31 : decode b_C_write 31 = .ok (.getfield 13, 3) := by decide +kernel
theorem d_C_write_34 : decode b_C_write 34 = .ok (.iconst 1, 1) := by decide +kernel
theorem d_C_write_35 : decode b_C_write 35 = .ok (.iadd, 1) := by decide +kernel
theorem d_C_write_36 : decode b_C_write 36 = .ok (.putfield 13, 3) := by decide +kernel
theorem d_C_write_39 : decode b_C_write 39 = .ok (.return_, 1) := by decide +kernel
theorem d_C_writeHex_0 : decode b_C_writeHex 0 = .ok (.aload_n 0, 1) := by decide +kernel
theorem d_C_writeHex_1 : decode b_C_writeHex 1 = .ok (.ldc 178, 2) := by decide +kernel
theorem d_C_writeHex_3 : decode b_C_writeHex 3 = .ok (.invokevirtual 140, 3) := by decide +kernel
theorem d_C_writeHex_6 : decode b_C_writeHex 6 = .ok (.bipush 28, 2) := by decide +kernel
theorem d_C_writeHex_8 : decode b_C_writeHex 8 = .ok (.istore_n 2, 1) := by decide +kernel
theorem d_C_writeHex_9 : decode b_C_writeHex 9 = .ok (.iload_n 2, 1) := by decide +kernel
theorem d_C_writeHex_10 : decode b_C_writeHex 10 = .ok (.ifCond .lt 51, 3) := by decide +kernel
theorem d_C_writeHex_13 : decode b_C_writeHex 13 = .ok (.iload_n 1, 1) := by decide +kernel
theorem d_C_writeHex_14 : decode b_C_writeHex 14 = .ok (.iload_n 2, 1) := by decide +kernel
theorem d_C_writeHex_15 : decode b_C_writeHex 15 = .ok (.iushr, 1) := by decide +kernel
theorem d_C_writeHex_16 : decode b_C_writeHex 16 = .ok (.ifCond .ne 7, 3) := by decide +kernel
theorem d_C_writeHex_19 : decode b_C_writeHex 19 = .ok (.iload_n 2, 1) := by decide +kernel
theorem d_C_writeHex_20 : decode b_C_writeHex 20 = .ok (.ifCond .ne 35, 3) := by decide +kernel
theorem d_C_writeHex_23 : decode b_C_writeHex 23 = .ok (.iload_n 1, 1) := by decide +kernel
theorem d_C_writeHex_24 : decode b_C_writeHex 24 = .ok (.iload_n 2, 1) := by decide +kernel
theorem d_C_writeHex_25 : decode b_C_writeHex 25 = .ok (.iushr, 1) := by decide +kernel
theorem d_C_writeHex_26 : decode b_C_writeHex 26 = .ok (.bipush 15, 2) := by decide +kernel
theorem d_C_writeHex_28 : decode b_C_writeHex 28 = .ok (.iand, 1) := by decide +kernel
theorem d_C_writeHex_29 : decode b_C_writeHex 29 = .ok (.istore_n 3, 1) := by decide +kernel
theorem d_C_writeHex_30 : decode b_C_writeHex 30 = .ok (.aload_n 0, 1) := by decide +kernel
theorem d_C_writeHex_31 : decode b_C_writeHex 31 = .ok (.iload_n 3, 1) := by decide +kernel
theorem d_C_writeHex_32 : decode b_C_writeHex 32 = .ok (.bipush 10, 2) := by decide +kernel
theorem d_C_writeHex_34 : decode b_C_writeHex 34 = .ok (.if_icmp .ge 10, 3) := by decide +kernel
theorem d_C_writeHex_37 : decode b_C_writeHex 37 = .ok (.bipush 48, 2) := by decide +kernel
theorem d_C_writeHex_39 : decode b_C_writeHex 39 = .ok (.iload_n 3, 1) := by decide +kernel
theorem d_C_writeHex_40 : decode b_C_writeHex 40 = .ok (.iadd, 1) := by decide +kernel
theorem d_C_writeHex_41 : decode b_C_writeHex 41 = .ok (.goto 10, 3) := by decide +kernel
theorem d_C_writeHex_44 : decode b_C_writeHex 44 = .ok (.bipush 97, 2) := by decide +kernel
theorem d_C_writeHex_46 : decode b_C_writeHex 46 = .ok (.iload_n 3, 1) := by decide +kernel
theorem d_C_writeHex_47 : decode b_C_writeHex 47 = .ok (.iadd, 1) := by decide +kernel
theorem d_C_writeHex_48 : decode b_C_writeHex 48 = .ok (.bipush 10, 2) := by decide +kernel
theorem d_C_writeHex_50 : decode b_C_writeHex 50 = .ok (.isub, 1) := by decide +kernel
theorem d_C_writeHex_51 : decode b_C_writeHex 51 = .ok (.i2c, 1) := by decide +kernel
theorem d_C_writeHex_52 : decode b_C_writeHex 52 = .ok (.invokevirtual 172, 3) := by decide +kernel
theorem d_C_writeHex_55 : decode b_C_writeHex 55 = .ok (.iinc 2 (-4), 3) := by decide +kernel
theorem d_C_writeHex_58 : decode b_C_writeHex 58 = .ok (.goto (-49), 3) := by decide +kernel
theorem d_C_writeHex_61 : decode b_C_writeHex 61 = .ok (.return_, 1) := by decide +kernel
theorem d_C_writeLegal_0 : decode b_C_writeLegal 0 = .ok (.aload_n 0, 1) := by decide +kernel
theorem d_C_writeLegal_1 : decode b_C_writeLegal 1 = .ok (.aload_n 1, 1) := by decide +kernel
theorem d_C_writeLegal_2 : decode b_C_writeLegal 2 = .ok (.getfield 101, 3) := by decide +kernel
theorem d_C_writeLegal_5 : decode b_C_writeLegal 5 = .ok (.invokevirtual 140, 3) := by decide +kernel
theorem d_C_writeLegal_8 : decode b_C_writeLegal 8 = .ok (.iconst 0, 1) := by decide +kernel
theorem d_C_writeLegal_9 : decode b_C_writeLegal 9 = .ok (.istore 4, 2) := by decide +kernel
theorem d_C_writeLegal_11 : decode b_C_writeLegal 11 = .ok (.iload 4, 2) := by decide +kernel
theorem d_C_writeLegal_13 : decode b_C_writeLegal 13 = .ok (.iconst 3, 1) := by decide +kernel
theorem d_C_writeLegal_14 : decode b_C_writeLegal 14 = .ok (.if_icmp .ge 55, 3) := by decide +kernel
theorem d_C_writeLegal_17 : decode b_C_writeLegal 17 = .ok (.aload_n 1, 1) := by decide +kernel
theorem d_C_writeLegal_18 : decode b_C_writeLegal 18 = .ok (.getfield 109, 3) := by decide +kernel
theorem d_C_writeLegal_21 : decode b_C_writeLegal 21 = .ok (.iconst 3, 1) := by decide +kernel
theorem d_C_writeLegal_22 : decode b_C_writeLegal 22 = .ok (.imul, 1) := by decide +kernel
theorem d_C_writeLegal_23 : decode b_C_writeLegal 23 = .ok (.iload 4, 2) := by decide +kernel
theorem d_C_writeLegal_25 : decode b_C_writeLegal 25 = .ok (.iadd, 1) := by decide +kernel
theorem d_C_writeLegal_26 : decode b_C_writeLegal 26 = .ok (.invokestatic 149, 3) := by decide +kernel
theorem d_C_writeLegal_29 : decode b_C_writeLegal 29 = .ok (.istore 5, 2) := by decide +kernel
theorem d_C_writeLegal_31 : decode b_C_writeLegal 31 = .ok (.iload 5, 2) := by decide +kernel
theorem d_C_writeLegal_33 : decode b_C_writeLegal 33 = .ok (.bipush 32, 2) := by decide +kernel
theorem d_C_writeLegal_35 : decode b_C_writeLegal 35 = .ok (.if_icmp .eq 28, 3) := by decide +kernel
theorem d_C_writeLegal_38 : decode b_C_writeLegal 38 = .ok (.aload_n 0, 1) := by decide +kernel
theorem d_C_writeLegal_39 : decode b_C_writeLegal 39 = .ok (.iload 4, 2) := by decide +kernel
theorem d_C_writeLegal_41 : decode b_C_writeLegal 41 = .ok (.ifCond .ne 8, 3) := by decide +kernel
theorem d_C_writeLegal_44 : decode b_C_writeLegal 44 = .ok (.ldc 152, 2) := by decide +kernel
theorem d_C_writeLegal_46 : decode b_C_writeLegal 46 = .ok (.goto 5, 3) := by decide +kernel
theorem d_C_writeLegal_49 : decode b_C_writeLegal 49 = .ok (.ldc 154, 2) := by decide +kernel
theorem d_C_writeLegal_51 : decode b_C_writeLegal 51 = .ok (.invokevirtual 140, 3) := by decide +kernel
theorem d_C_writeLegal_54 : decode b_C_writeLegal 54 = .ok (.aload_n 0, 1) := by decide +kernel
theorem d_C_writeLegal_55 : decode b_C_writeLegal 55 = .ok (.iload 5, 2) := by decide +kernel
theorem d_C_writeLegal_57 : decode b_C_writeLegal 57 = .ok (.aload_n 1, 1) := by decide +kernel
theorem d_C_writeLegal_58 : decode b_C_writeLegal 58 = .ok (.iload_n 2, 1) := by decide +kernel
theorem d_C_writeLegal_59 : decode b_C_writeLegal 59 = .ok (.iload_n 3, 1) := by decide +kernel
theorem d_C_writeLegal_60 : decode b_C_writeLegal 60 = .ok (.invokevirtual 156, 3) := by decide +kernel
theorem d_C_writeLegal_63 : decode b_C_writeLegal 63 = .ok (.iinc 4 1, 3) := by decide +kernel
theorem d_C_writeLegal_66 : decode b_C_writeLegal 66 = .ok (.goto (-55), 3) := by decide +kernel
theorem d_C_writeLegal_69 : decode b_C_writeLegal 69 = .ok (.return_, 1) := by decide +kernel
theorem d_C_operandAt_0 : decode b_C_operandAt 0 = .ok (.iload_n 0, 1) := by decide +kernel
theorem d_C_operandAt_1 : decode b_C_operandAt 1 = .ok (.ifCond .lt 21, 3) := by decide +kernel
theorem d_C_operandAt_4 : decode b_C_operandAt 4 = .ok (.iload_n 0, 1) := by decide +kernel
theorem d_C_operandAt_5 : decode b_C_operandAt 5 = .ok (.ldc 160, 2) := by decide +kernel
theorem d_C_operandAt_7 : decode b_C_operandAt 7 = .ok (.invokevirtual 118, 3) := by decide +kernel
theorem d_C_operandAt_10 : decode b_C_operandAt 10 = .ok (.if_icmp .ge 12, 3) := by decide +kernel
theorem d_C_operandAt_13 : decode b_C_operandAt 13 = .ok (.ldc 160, 2) := by decide +kernel
theorem d_C_operandAt_15 : decode b_C_operandAt 15 = .ok (.iload_n 0, 1) := by decide +kernel
theorem d_C_operandAt_16 : decode b_C_operandAt 16 = .ok (.invokevirtual 134, 3) := by decide +kernel
theorem d_C_operandAt_19 : decode b_C_operandAt 19 = .ok (.goto 5, 3) := by decide +kernel
theorem d_C_operandAt_22 : decode b_C_operandAt 22 = .ok (.bipush 32, 2) := by decide +kernel
theorem d_C_operandAt_24 : decode b_C_operandAt 24 = .ok (.ireturn, 1) := by decide +kernel
theorem d_C_writeOperand_0 : decode b_C_writeOperand 0 = .ok (.iload_n 1, 1) := by decide +kernel
theorem d_C_writeOperand_1 : decode b_C_writeOperand 1 = .ok (.lookupswitch 180 #[(73, 122), (79, 134), (80, 165), (83, 152), (97, 88), (98, 101), (100, 75), (115, 114)], 75) := by decide +kernel
theorem d_C_writeOperand_76 : decode b_C_writeOperand 76 = .ok (.aload_n 0, 1) := by decide +kernel
theorem d_C_writeOperand_77 : decode b_C_writeOperand 77 = .ok (.aload_n 2, 1) := by decide +kernel
theorem d_C_writeOperand_78 : decode b_C_writeOperand 78 = .ok (.iload_n 3, 1) := by decide +kernel
theorem d_C_writeOperand_79 : decode b_C_writeOperand 79 = .ok (.iconst 1, 1) := by decide +kernel
theorem d_C_writeOperand_80 : decode b_C_writeOperand 80 = .ok (.invokevirtual 67, 3) := by decide +kernel
theorem d_C_writeOperand_83 : decode b_C_writeOperand 83 = .ok (.invokevirtual 162, 3) := by decide +kernel
theorem d_C_writeOperand_86 : decode b_C_writeOperand 86 = .ok (.goto 104, 3) := by decide +kernel
theorem d_C_writeOperand_89 : decode b_C_writeOperand 89 = .ok (.aload_n 0, 1) := by decide +kernel
theorem d_C_writeOperand_90 : decode b_C_writeOperand 90 = .ok (.aload_n 2, 1) := by decide +kernel
theorem d_C_writeOperand_91 : decode b_C_writeOperand 91 = .ok (.iload_n 3, 1) := by decide +kernel
theorem d_C_writeOperand_92 : decode b_C_writeOperand 92 = .ok (.iconst 2, 1) := by decide +kernel
theorem d_C_writeOperand_93 : decode b_C_writeOperand 93 = .ok (.invokevirtual 67, 3) := by decide +kernel
theorem d_C_writeOperand_96 : decode b_C_writeOperand 96 = .ok (.invokevirtual 162, 3) := by decide +kernel
theorem d_C_writeOperand_99 : decode b_C_writeOperand 99 = .ok (.goto 91, 3) := by decide +kernel
theorem d_C_writeOperand_102 : decode b_C_writeOperand 102 = .ok (.aload_n 0, 1) := by decide +kernel
theorem d_C_writeOperand_103 : decode b_C_writeOperand 103 = .ok (.aload_n 2, 1) := by decide +kernel
theorem d_C_writeOperand_104 : decode b_C_writeOperand 104 = .ok (.iload_n 3, 1) := by decide +kernel
theorem d_C_writeOperand_105 : decode b_C_writeOperand 105 = .ok (.iconst 4, 1) := by decide +kernel
theorem d_C_writeOperand_106 : decode b_C_writeOperand 106 = .ok (.invokevirtual 67, 3) := by decide +kernel
theorem d_C_writeOperand_109 : decode b_C_writeOperand 109 = .ok (.invokevirtual 162, 3) := by decide +kernel
theorem d_C_writeOperand_112 : decode b_C_writeOperand 112 = .ok (.goto 78, 3) := by decide +kernel
theorem d_C_writeOperand_115 : decode b_C_writeOperand 115 = .ok (.aload_n 0, 1) := by decide +kernel
theorem d_C_writeOperand_116 : decode b_C_writeOperand 116 = .ok (.iconst 2, 1) := by decide +kernel
theorem d_C_writeOperand_117 : decode b_C_writeOperand 117 = .ok (.invokevirtual 162, 3) := by decide +kernel
theorem d_C_writeOperand_120 : decode b_C_writeOperand 120 = .ok (.goto 70, 3) := by decide +kernel
theorem d_C_writeOperand_123 : decode b_C_writeOperand 123 = .ok (.aload_n 0, 1) := by decide +kernel
theorem d_C_writeOperand_124 : decode b_C_writeOperand 124 = .ok (.aload_n 2, 1) := by decide +kernel
theorem d_C_writeOperand_125 : decode b_C_writeOperand 125 = .ok (.iload_n 3, 1) := by decide +kernel
theorem d_C_writeOperand_126 : decode b_C_writeOperand 126 = .ok (.invokevirtual 64, 3) := by decide +kernel
theorem d_C_writeOperand_129 : decode b_C_writeOperand 129 = .ok (.invokevirtual 165, 3) := by decide +kernel
theorem d_C_writeOperand_132 : decode b_C_writeOperand 132 = .ok (.goto 58, 3) := by decide +kernel
theorem d_C_writeOperand_135 : decode b_C_writeOperand 135 = .ok (.aload_n 0, 1) := by decide +kernel
theorem d_C_writeOperand_136 : decode b_C_writeOperand 136 = .ok (.aload_n 2, 1) := by decide +kernel
theorem d_C_writeOperand_137 : decode b_C_writeOperand 137 = .ok (.iload_n 3, 1) := by decide +kernel
theorem d_C_writeOperand_138 : decode b_C_writeOperand 138 = .ok (.invokevirtual 64, 3) := by decide +kernel
theorem d_C_writeOperand_141 : decode b_C_writeOperand 141 = .ok (.aload_n 2, 1) := by decide +kernel
theorem d_C_writeOperand_142 : decode b_C_writeOperand 142 = .ok (.iload_n 3, 1) := by decide +kernel
theorem d_C_writeOperand_143 : decode b_C_writeOperand 143 = .ok (.iconst 2, 1) := by decide +kernel
theorem d_C_writeOperand_144 : decode b_C_writeOperand 144 = .ok (.invokevirtual 67, 3) := by decide +kernel
theorem d_C_writeOperand_147 : decode b_C_writeOperand 147 = .ok (.invokevirtual 168, 3) := by decide +kernel
theorem d_C_writeOperand_150 : decode b_C_writeOperand 150 = .ok (.goto 40, 3) := by decide +kernel
theorem d_C_writeOperand_153 : decode b_C_writeOperand 153 = .ok (.aload_n 0, 1) := by decide +kernel
theorem d_C_writeOperand_154 : decode b_C_writeOperand 154 = .ok (.aload_n 2, 1) := by decide +kernel
theorem d_C_writeOperand_155 : decode b_C_writeOperand 155 = .ok (.iload_n 3, 1) := by decide +kernel
theorem d_C_writeOperand_156 : decode b_C_writeOperand 156 = .ok (.invokevirtual 64, 3) := by decide +kernel
theorem d_C_writeOperand_159 : decode b_C_writeOperand 159 = .ok (.iconst 2, 1) := by decide +kernel
theorem d_C_writeOperand_160 : decode b_C_writeOperand 160 = .ok (.invokevirtual 168, 3) := by decide +kernel
theorem d_C_writeOperand_163 : decode b_C_writeOperand 163 = .ok (.goto 27, 3) := by decide +kernel
theorem d_C_writeOperand_166 : decode b_C_writeOperand 166 = .ok (.aload_n 0, 1) := by decide +kernel
theorem d_C_writeOperand_167 : decode b_C_writeOperand 167 = .ok (.iload 4, 2) := by decide +kernel
theorem d_C_writeOperand_169 : decode b_C_writeOperand 169 = .ok (.aload_n 2, 1) := by decide +kernel
theorem d_C_writeOperand_170 : decode b_C_writeOperand 170 = .ok (.iload_n 3, 1) := by decide +kernel
theorem d_C_writeOperand_171 : decode b_C_writeOperand 171 = .ok (.invokevirtual 64, 3) := by decide +kernel
theorem d_C_writeOperand_174 : decode b_C_writeOperand 174 = .ok (.iadd, 1) := by decide +kernel
theorem d_C_writeOperand_175 : decode b_C_writeOperand 175 = .ok (.invokevirtual 143, 3) := by decide +kernel
theorem d_C_writeOperand_178 : decode b_C_writeOperand 178 = .ok (.goto 12, 3) := by decide +kernel
theorem d_C_writeOperand_181 : decode b_C_writeOperand 181 = .ok (.aload_n 0, 1) := by decide +kernel
theorem d_C_writeOperand_182 : decode b_C_writeOperand 182 = .ok (.aload_n 2, 1) := by decide +kernel
theorem d_C_writeOperand_183 : decode b_C_writeOperand 183 = .ok (.iload_n 3, 1) := by decide +kernel
theorem d_C_writeOperand_184 : decode b_C_writeOperand 184 = .ok (.invokevirtual 64, 3) := by decide +kernel
theorem d_C_writeOperand_187 : decode b_C_writeOperand 187 = .ok (.invokevirtual 143, 3) := by decide +kernel
theorem d_C_writeOperand_190 : decode b_C_writeOperand 190 = .ok (.return_, 1) := by decide +kernel
theorem d_C_writeRegister_0 : decode b_C_writeRegister 0 = .ok (.iload_n 1, 1) := by decide +kernel
theorem d_C_writeRegister_1 : decode b_C_writeRegister 1 = .ok (.iconst 4, 1) := by decide +kernel
theorem d_C_writeRegister_2 : decode b_C_writeRegister 2 = .ok (.imul, 1) := by decide +kernel
theorem d_C_writeRegister_3 : decode b_C_writeRegister 3 = .ok (.istore_n 2, 1) := by decide +kernel
theorem d_C_writeRegister_4 : decode b_C_writeRegister 4 = .ok (.iload_n 2, 1) := by decide +kernel
theorem d_C_writeRegister_5 : decode b_C_writeRegister 5 = .ok (.istore_n 3, 1) := by decide +kernel
theorem d_C_writeRegister_6 : decode b_C_writeRegister 6 = .ok (.iload_n 3, 1) := by decide +kernel
theorem d_C_writeRegister_7 : decode b_C_writeRegister 7 = .ok (.iload_n 2, 1) := by decide +kernel
theorem d_C_writeRegister_8 : decode b_C_writeRegister 8 = .ok (.iconst 4, 1) := by decide +kernel
theorem d_C_writeRegister_9 : decode b_C_writeRegister 9 = .ok (.iadd, 1) := by decide +kernel
theorem d_C_writeRegister_10 : decode b_C_writeRegister 10 = .ok (.if_icmp .ge 43, 3) := by decide +kernel
theorem d_C_writeRegister_13 : decode b_C_writeRegister 13 = .ok (.iload_n 3, 1) := by decide +kernel
theorem d_C_writeRegister_14 : decode b_C_writeRegister 14 = .ok (.ifCond .lt 33, 3) := by decide +kernel
theorem d_C_writeRegister_17 : decode b_C_writeRegister 17 = .ok (.iload_n 3, 1) := by decide +kernel
theorem d_C_writeRegister_18 : decode b_C_writeRegister 18 = .ok (.ldc 176, 2) := by decide +kernel
theorem d_C_writeRegister_20 : decode b_C_writeRegister 20 = .ok (.invokevirtual 118, 3) := by decide +kernel
theorem d_C_writeRegister_23 : decode b_C_writeRegister 23 = .ok (.if_icmp .ge 24, 3) := by decide +kernel
theorem d_C_writeRegister_26 : decode b_C_writeRegister 26 = .ok (.ldc 176, 2) := by decide +kernel
theorem d_C_writeRegister_28 : decode b_C_writeRegister 28 = .ok (.iload_n 3, 1) := by decide +kernel
theorem d_C_writeRegister_29 : decode b_C_writeRegister 29 = .ok (.invokevirtual 134, 3) := by decide +kernel
theorem d_C_writeRegister_32 : decode b_C_writeRegister 32 = .ok (.bipush 32, 2) := by decide +kernel
theorem d_C_writeRegister_34 : decode b_C_writeRegister 34 = .ok (.if_icmp .eq 13, 3) := by decide +kernel
theorem d_C_writeRegister_37 : decode b_C_writeRegister 37 = .ok (.aload_n 0, 1) := by decide +kernel
theorem d_C_writeRegister_38 : decode b_C_writeRegister 38 = .ok (.ldc 176, 2) := by decide +kernel
theorem d_C_writeRegister_40 : decode b_C_writeRegister 40 = .ok (.iload_n 3, 1) := by decide +kernel
theorem d_C_writeRegister_41 : decode b_C_writeRegister 41 = .ok (.invokevirtual 134, 3) := by decide +kernel
theorem d_C_writeRegister_44 : decode b_C_writeRegister 44 = .ok (.invokevirtual 172, 3) := by decide +kernel
theorem d_C_writeRegister_47 : decode b_C_writeRegister 47 = .ok (.iinc 3 1, 3) := by decide +kernel
theorem d_C_writeRegister_50 : decode b_C_writeRegister 50 = .ok (.goto (-44), 3) := by decide +kernel
theorem d_C_writeRegister_53 : decode b_C_writeRegister 53 = .ok (.return_, 1) := by decide +kernel
theorem d_C_writeDecimal_0 : decode b_C_writeDecimal 0 = .ok (.iload_n 1, 1) := by decide +kernel
theorem d_C_writeDecimal_1 : decode b_C_writeDecimal 1 = .ok (.ifCond .ge 9, 3) := by decide +kernel
theorem d_C_writeDecimal_4 : decode b_C_writeDecimal 4 = .ok (.aload_n 0, 1) := by decide +kernel
theorem d_C_writeDecimal_5 : decode b_C_writeDecimal 5 = .ok (.bipush 45, 2) := by decide +kernel
theorem d_C_writeDecimal_7 : decode b_C_writeDecimal 7 = .ok (.invokevirtual 172, 3) := by decide +kernel
theorem d_C_writeDecimal_10 : decode b_C_writeDecimal 10 = .ok (.iload_n 1, 1) := by decide +kernel
theorem d_C_writeDecimal_11 : decode b_C_writeDecimal 11 = .ok (.ifCond .ge 8, 3) := by decide +kernel
theorem d_C_writeDecimal_14 : decode b_C_writeDecimal 14 = .ok (.iload_n 1, 1) := by decide +kernel
theorem d_C_writeDecimal_15 : decode b_C_writeDecimal 15 = .ok (.ineg, 1) := by decide +kernel
theorem d_C_writeDecimal_16 : decode b_C_writeDecimal 16 = .ok (.goto 4, 3) := by decide +kernel
theorem d_C_writeDecimal_19 : decode b_C_writeDecimal 19 = .ok (.iload_n 1, 1) := by decide +kernel
theorem d_C_writeDecimal_20 : decode b_C_writeDecimal 20 = .ok (.istore_n 2, 1) := by decide +kernel
theorem d_C_writeDecimal_21 : decode b_C_writeDecimal 21 = .ok (.sipush 1000, 3) := by decide +kernel
theorem d_C_writeDecimal_24 : decode b_C_writeDecimal 24 = .ok (.istore_n 3, 1) := by decide +kernel
theorem d_C_writeDecimal_25 : decode b_C_writeDecimal 25 = .ok (.iload_n 3, 1) := by decide +kernel
theorem d_C_writeDecimal_26 : decode b_C_writeDecimal 26 = .ok (.ifCond .le 35, 3) := by decide +kernel
theorem d_C_writeDecimal_29 : decode b_C_writeDecimal 29 = .ok (.iload_n 2, 1) := by decide +kernel
theorem d_C_writeDecimal_30 : decode b_C_writeDecimal 30 = .ok (.iload_n 3, 1) := by decide +kernel
theorem d_C_writeDecimal_31 : decode b_C_writeDecimal 31 = .ok (.if_icmp .ge 8, 3) := by decide +kernel
theorem d_C_writeDecimal_34 : decode b_C_writeDecimal 34 = .ok (.iload_n 3, 1) := by decide +kernel
theorem d_C_writeDecimal_35 : decode b_C_writeDecimal 35 = .ok (.iconst 1, 1) := by decide +kernel
theorem d_C_writeDecimal_36 : decode b_C_writeDecimal 36 = .ok (.if_icmp .ne 17, 3) := by decide +kernel
theorem d_C_writeDecimal_39 : decode b_C_writeDecimal 39 = .ok (.aload_n 0, 1) := by decide +kernel
theorem d_C_writeDecimal_40 : decode b_C_writeDecimal 40 = .ok (.bipush 48, 2) := by decide +kernel
theorem d_C_writeDecimal_42 : decode b_C_writeDecimal 42 = .ok (.iload_n 2, 1) := by decide +kernel
theorem d_C_writeDecimal_43 : decode b_C_writeDecimal 43 = .ok (.iload_n 3, 1) := by decide +kernel
theorem d_C_writeDecimal_44 : decode b_C_writeDecimal 44 = .ok (.idiv, 1) := by decide +kernel
theorem d_C_writeDecimal_45 : decode b_C_writeDecimal 45 = .ok (.bipush 10, 2) := by decide +kernel
theorem d_C_writeDecimal_47 : decode b_C_writeDecimal 47 = .ok (.irem, 1) := by decide +kernel
theorem d_C_writeDecimal_48 : decode b_C_writeDecimal 48 = .ok (.iadd, 1) := by decide +kernel
theorem d_C_writeDecimal_49 : decode b_C_writeDecimal 49 = .ok (.i2c, 1) := by decide +kernel
theorem d_C_writeDecimal_50 : decode b_C_writeDecimal 50 = .ok (.invokevirtual 172, 3) := by decide +kernel
theorem d_C_writeDecimal_53 : decode b_C_writeDecimal 53 = .ok (.iload_n 3, 1) := by decide +kernel
theorem d_C_writeDecimal_54 : decode b_C_writeDecimal 54 = .ok (.bipush 10, 2) := by decide +kernel
theorem d_C_writeDecimal_56 : decode b_C_writeDecimal 56 = .ok (.idiv, 1) := by decide +kernel
theorem d_C_writeDecimal_57 : decode b_C_writeDecimal 57 = .ok (.istore_n 3, 1) := by decide +kernel
theorem d_C_writeDecimal_58 : decode b_C_writeDecimal 58 = .ok (.goto (-33), 3) := by decide +kernel
theorem d_C_writeDecimal_61 : decode b_C_writeDecimal 61 = .ok (.return_, 1) := by decide +kernel
theorem d_C_writeOffset_0 : decode b_C_writeOffset 0 = .ok (.aload_n 0, 1) := by decide +kernel
theorem d_C_writeOffset_1 : decode b_C_writeOffset 1 = .ok (.iload_n 1, 1) := by decide +kernel
theorem d_C_writeOffset_2 : decode b_C_writeOffset 2 = .ok (.invokevirtual 165, 3) := by decide +kernel
theorem d_C_writeOffset_5 : decode b_C_writeOffset 5 = .ok (.aload_n 0, 1) := by decide +kernel
theorem d_C_writeOffset_6 : decode b_C_writeOffset 6 = .ok (.bipush 40, 2) := by decide +kernel
theorem d_C_writeOffset_8 : decode b_C_writeOffset 8 = .ok (.invokevirtual 172, 3) := by decide +kernel
theorem d_C_writeOffset_11 : decode b_C_writeOffset 11 = .ok (.aload_n 0, 1) := by decide +kernel
theorem d_C_writeOffset_12 : decode b_C_writeOffset 12 = .ok (.iload_n 2, 1) := by decide +kernel
theorem d_C_writeOffset_13 : decode b_C_writeOffset 13 = .ok (.invokevirtual 162, 3) := by decide +kernel
theorem d_C_writeOffset_16 : decode b_C_writeOffset 16 = .ok (.aload_n 0, 1) := by decide +kernel
theorem d_C_writeOffset_17 : decode b_C_writeOffset 17 = .ok (.bipush 41, 2) := by decide +kernel
theorem d_C_writeOffset_19 : decode b_C_writeOffset 19 = .ok (.invokevirtual 172, 3) := by decide +kernel
theorem d_C_writeOffset_22 : decode b_C_writeOffset 22 = .ok (.return_, 1) := by decide +kernel
theorem d_C_letter_0 : decode b_C_letter 0 = .ok (.iload_n 1, 1) := by decide +kernel
theorem d_C_letter_1 : decode b_C_letter 1 = .ok (.ifCond .lt 29, 3) := by decide +kernel
theorem d_C_letter_4 : decode b_C_letter 4 = .ok (.iload_n 1, 1) := by decide +kernel
theorem d_C_letter_5 : decode b_C_letter 5 = .ok (.aload_n 0, 1) := by decide +kernel
theorem d_C_letter_6 : decode b_C_letter 6 = .ok (.getfield 13, 3) := by decide +kernel
theorem d_C_letter_9 : decode b_C_letter 9 = .ok (.if_icmp .ge 21, 3) := by decide +kernel
theorem d_C_letter_12 : decode b_C_letter 12 = .ok (.iload_n 1, 1) := by decide +kernel
theorem d_C_letter_13 : decode b_C_letter 13 = .ok (.aload_n 0, 1) := by decide +kernel
theorem d_C_letter_14 : decode b_C_letter 14 = .ok (.getfield 9, 3) := by decide +kernel
theorem d_C_letter_17 : decode b_C_letter 17 = .ok (.arraylength, 1) := by decide +kernel
theorem d_C_letter_18 : decode b_C_letter 18 = .ok (.if_icmp .ge 12, 3) := by decide +kernel
theorem d_C_letter_21 : decode b_C_letter 21 = .ok (.aload_n 0, 1) := by decide +kernel
theorem d_C_letter_22 : decode b_C_letter 22 = .ok (.getfield 9, 3) := by decide +kernel
theorem d_C_letter_25 : decode b_C_letter 25 = .ok (.iload_n 1, 1) := by decide +kernel
theorem d_C_letter_26 : decode b_C_letter 26 = .ok (.caload, 1) := by decide +kernel
theorem d_C_letter_27 : decode b_C_letter 27 = .ok (.goto 4, 3) := by decide +kernel
theorem d_C_letter_30 : decode b_C_letter 30 = .ok (.iconst (-1), 1) := by decide +kernel
theorem d_C_letter_31 : decode b_C_letter 31 = .ok (.ireturn, 1) := by decide +kernel
theorem d_C_named_0 : decode b_C_named 0 = .ok (.iconst 0, 1) := by decide +kernel
theorem d_C_named_1 : decode b_C_named 1 = .ok (.istore 5, 2) := by decide +kernel
theorem d_C_named_3 : decode b_C_named 3 = .ok (.iload 5, 2) := by decide +kernel
theorem d_C_named_5 : decode b_C_named 5 = .ok (.getstatic 28, 3) := by decide +kernel
theorem d_C_named_8 : decode b_C_named 8 = .ok (.arraylength, 1) := by decide +kernel
theorem d_C_named_9 : decode b_C_named 9 = .ok (.if_icmp .ge 29, 3) := by decide +kernel
theorem d_C_named_12 : decode b_C_named 12 = .ok (.getstatic 28, 3) := by decide +kernel
theorem d_C_named_15 : decode b_C_named 15 = .ok (.iload 5, 2) := by decide +kernel
theorem d_C_named_17 : decode b_C_named 17 = .ok (.aaload, 1) := by decide +kernel
theorem d_C_named_18 : decode b_C_named 18 = .ok (.getfield 101, 3) := by decide +kernel
theorem d_C_named_21 : decode b_C_named 21 = .ok (.lload_n 1, 1) := by decide +kernel
theorem d_C_named_22 : decode b_C_named 22 = .ok (.lload_n 3, 1) := by decide +kernel
theorem d_C_named_23 : decode b_C_named 23 = .ok (.invokestatic 105, 3) := by decide +kernel
theorem d_C_named_26 : decode b_C_named 26 = .ok (.ifCond .eq 6, 3) := by decide +kernel
theorem d_C_named_29 : decode b_C_named 29 = .ok (.iload 5, 2) := by decide +kernel
theorem d_C_named_31 : decode b_C_named 31 = .ok (.ireturn, 1) := by decide +kernel
theorem d_C_named_32 : decode b_C_named 32 = .ok (.iinc 5 1, 3) := by decide +kernel
theorem d_C_named_35 : decode b_C_named 35 = .ok (.goto (-32), 3) := by decide +kernel
theorem d_C_named_38 : decode b_C_named 38 = .ok (.iconst (-1), 1) := by decide +kernel
theorem d_C_named_39 : decode b_C_named 39 = .ok (.ireturn, 1) := by decide +kernel
theorem d_C_spells_0 : decode b_C_spells 0 = .ok (.iconst 0, 1) := by decide +kernel
theorem d_C_spells_1 : decode b_C_spells 1 = .ok (.istore 5, 2) := by decide +kernel
theorem d_C_spells_3 : decode b_C_spells 3 = .ok (.iconst 0, 1) := by decide +kernel
theorem d_C_spells_4 : decode b_C_spells 4 = .ok (.istore 6, 2) := by decide +kernel
theorem d_C_spells_6 : decode b_C_spells 6 = .ok (.iload 6, 2) := by decide +kernel
theorem d_C_spells_8 : decode b_C_spells 8 = .ok (.bipush 16, 2) := by decide +kernel
theorem d_C_spells_10 : decode b_C_spells 10 = .ok (.if_icmp .ge 74, 3) := by decide +kernel
theorem d_C_spells_13 : decode b_C_spells 13 = .ok (.iload 6, 2) := by decide +kernel
theorem d_C_spells_15 : decode b_C_spells 15 = .ok (.bipush 8, 2) := by decide +kernel
theorem d_C_spells_17 : decode b_C_spells 17 = .ok (.if_icmp .ge 7, 3) := by decide +kernel
theorem d_C_spells_20 : decode b_C_spells 20 = .ok (.lload_n 1, 1) := by decide +kernel
theorem d_C_spells_21 : decode b_C_spells 21 = .ok (.goto 4, 3) := by decide +kernel
theorem d_C_spells_24 : decode b_C_spells 24 = .ok (.lload_n 3, 1) := by decide +kernel
theorem d_C_spells_25 : decode b_C_spells 25 = .ok (.lstore 7, 2) := by decide +kernel
theorem d_C_spells_27 : decode b_C_spells 27 = .ok (.lload 7, 2) := by decide +kernel
theorem d_C_spells_29 : decode b_C_spells 29 = .ok (.bipush 8, 2) := by decide +kernel
theorem d_C_spells_31 : decode b_C_spells 31 = .ok (.bipush 7, 2) := by decide +kernel
theorem d_C_spells_33 : decode b_C_spells 33 = .ok (.iload 6, 2) := by decide +kernel
theorem d_C_spells_35 : decode b_C_spells 35 = .ok (.bipush 8, 2) := by decide +kernel
theorem d_C_spells_37 : decode b_C_spells 37 = .ok (.irem, 1) := by decide +kernel
theorem d_C_spells_38 : decode b_C_spells 38 = .ok (.isub, 1) := by decide +kernel
theorem d_C_spells_39 : decode b_C_spells 39 = .ok (.imul, 1) := by decide +kernel
theorem d_C_spells_40 : decode b_C_spells 40 = .ok (.lushr, 1) := by decide +kernel
theorem d_C_spells_41 : decode b_C_spells 41 = .ok (.l2i, 1) := by decide +kernel
theorem d_C_spells_42 : decode b_C_spells 42 = .ok (.sipush 255, 3) := by decide +kernel
theorem d_C_spells_45 : decode b_C_spells 45 = .ok (.iand, 1) := by decide +kernel
theorem d_C_spells_46 : decode b_C_spells 46 = .ok (.istore 9, 2) := by decide +kernel
theorem d_C_spells_48 : decode b_C_spells 48 = .ok (.iload 9, 2) := by decide +kernel
theorem d_C_spells_50 : decode b_C_spells 50 = .ok (.ifCond .eq 28, 3) := by decide +kernel
theorem d_C_spells_53 : decode b_C_spells 53 = .ok (.iload 5, 2) := by decide +kernel
theorem d_C_spells_55 : decode b_C_spells 55 = .ok (.aload_n 0, 1) := by decide +kernel
theorem d_C_spells_56 : decode b_C_spells 56 = .ok (.invokevirtual 118, 3) := by decide +kernel
theorem d_C_spells_59 : decode b_C_spells 59 = .ok (.if_icmp .ge 14, 3) := by decide +kernel
theorem d_C_spells_62 : decode b_C_spells 62 = .ok (.aload_n 0, 1) := by decide +kernel
theorem d_C_spells_63 : decode b_C_spells 63 = .ok (.iload 5, 2) := by decide +kernel
theorem d_C_spells_65 : decode b_C_spells 65 = .ok (.invokevirtual 134, 3) := by decide +kernel
theorem d_C_spells_68 : decode b_C_spells 68 = .ok (.iload 9, 2) := by decide +kernel
theorem d_C_spells_70 : decode b_C_spells 70 = .ok (.if_icmp .eq 5, 3) := by decide +kernel
theorem d_C_spells_73 : decode b_C_spells 73 = .ok (.iconst 0, 1) := by decide +kernel
theorem d_C_spells_74 : decode b_C_spells 74 = .ok (.ireturn, 1) := by decide +kernel
theorem d_C_spells_75 : decode b_C_spells 75 = .ok (.iinc 5 1, 3) := by decide +kernel
theorem d_C_spells_78 : decode b_C_spells 78 = .ok (.iinc 6 1, 3) := by decide +kernel
theorem d_C_spells_81 : decode b_C_spells 81 = .ok (.goto (-75), 3) := by decide +kernel
theorem d_C_spells_84 : decode b_C_spells 84 = .ok (.iload 5, 2) := by decide +kernel
theorem d_C_spells_86 : decode b_C_spells 86 = .ok (.aload_n 0, 1) := by decide +kernel
theorem d_C_spells_87 : decode b_C_spells 87 = .ok (.invokevirtual 118, 3) := by decide +kernel
theorem d_C_spells_90 : decode b_C_spells 90 = .ok (.if_icmp .ne 7, 3) := by decide +kernel
theorem d_C_spells_93 : decode b_C_spells 93 = .ok (.iconst 1, 1) := by decide +kernel
theorem d_C_spells_94 : decode b_C_spells 94 = .ok (.goto 4, 3) := by decide +kernel
theorem d_C_spells_97 : decode b_C_spells 97 = .ok (.iconst 0, 1) := by decide +kernel
theorem d_C_spells_98 : decode b_C_spells 98 = .ok (.ireturn, 1) := by decide +kernel
theorem d_C_about_0 : decode b_C_about 0 = .ok (.iload_n 1, 1) := by decide +kernel
theorem d_C_about_1 : decode b_C_about 1 = .ok (.invokestatic 17, 3) := by decide +kernel
theorem d_C_about_4 : decode b_C_about 4 = .ok (.ifCond .ne 5, 3) := by decide +kernel
theorem d_C_about_7 : decode b_C_about 7 = .ok (.iconst (-1), 1) := by decide +kernel
theorem d_C_about_8 : decode b_C_about 8 = .ok (.ireturn, 1) := by decide +kernel
theorem d_C_about_9 : decode b_C_about 9 = .ok (.iload_n 2, 1) := by decide +kernel
theorem d_C_about_10 : decode b_C_about 10 = .ok (.tableswitch 75 0 3 #[30, 39, 48, 63], 30) := by decide +kernel
theorem d_C_about_40 : decode b_C_about 40 = .ok (.getstatic 28, 3) := by decide +kernel
theorem d_C_about_43 : decode b_C_about 43 = .ok (.iload_n 1, 1) := by decide +kernel
theorem d_C_about_44 : decode b_C_about 44 = .ok (.aaload, 1) := by decide +kernel
theorem d_C_about_45 : decode b_C_about 45 = .ok (.getfield 109, 3) := by decide +kernel
theorem d_C_about_48 : decode b_C_about 48 = .ok (.ireturn, 1) := by decide +kernel
theorem d_C_about_49 : decode b_C_about 49 = .ok (.getstatic 28, 3) := by decide +kernel
theorem d_C_about_52 : decode b_C_about 52 = .ok (.iload_n 1, 1) := by decide +kernel
theorem d_C_about_53 : decode b_C_about 53 = .ok (.aaload, 1) := by decide +kernel
theorem d_C_about_54 : decode b_C_about 54 = .ok (.getfield 112, 3) := by decide +kernel
theorem d_C_about_57 : decode b_C_about 57 = .ok (.ireturn, 1) := by decide +kernel
theorem d_C_about_58 : decode b_C_about 58 = .ok (.getstatic 28, 3) := by decide +kernel
theorem d_C_about_61 : decode b_C_about 61 = .ok (.iload_n 1, 1) := by decide +kernel
theorem d_C_about_62 : decode b_C_about 62 = .ok (.aaload, 1) := by decide +kernel
theorem d_C_about_63 : decode b_C_about 63 = .ok (.getfield 115, 3) := by decide +kernel
theorem d_C_about_66 : decode b_C_about 66 = .ok (.invokevirtual 118, 3) := by decide +kernel
theorem d_C_about_69 : decode b_C_about 69 = .ok (.bipush 8, 2) := by decide +kernel
theorem d_C_about_71 : decode b_C_about 71 = .ok (.idiv, 1) := by decide +kernel
theorem d_C_about_72 : decode b_C_about 72 = .ok (.ireturn, 1) := by decide +kernel
theorem d_C_about_73 : decode b_C_about 73 = .ok (.getstatic 28, 3) := by decide +kernel
theorem d_C_about_76 : decode b_C_about 76 = .ok (.iload_n 1, 1) := by decide +kernel
theorem d_C_about_77 : decode b_C_about 77 = .ok (.aaload, 1) := by decide +kernel
theorem d_C_about_78 : decode b_C_about 78 = .ok (.getfield 101, 3) := by decide +kernel
theorem d_C_about_81 : decode b_C_about 81 = .ok (.invokevirtual 118, 3) := by decide +kernel
theorem d_C_about_84 : decode b_C_about 84 = .ok (.ireturn, 1) := by decide +kernel
theorem d_C_about_85 : decode b_C_about 85 = .ok (.iconst (-1), 1) := by decide +kernel
theorem d_C_about_86 : decode b_C_about 86 = .ok (.ireturn, 1) := by decide +kernel
theorem d_C_word_0 : decode b_C_word 0 = .ok (.iload_n 1, 1) := by decide +kernel
theorem d_C_word_1 : decode b_C_word 1 = .ok (.invokestatic 17, 3) := by decide +kernel
theorem d_C_word_4 : decode b_C_word 4 = .ok (.ifCond .ne 13, 3) := by decide +kernel
theorem d_C_word_7 : decode b_C_word 7 = .ok (.new 21, 3) := by decide +kernel
theorem d_C_word_10 : decode b_C_word 10 = .ok (.dup, 1) := by decide +kernel
theorem d_C_word_11 : decode b_C_word 11 = .ok (.ldc 23, 2) := by decide +kernel
theorem d_C_word_13 : decode b_C_word 13 = .ok (.invokespecial 25, 3) := by decide +kernel
theorem d_C_word_16 : decode b_C_word 16 = .ok (.athrow, 1) := by decide +kernel
theorem d_C_word_17 : decode b_C_word 17 = .ok (.getstatic 28, 3) := by decide +kernel
theorem d_C_word_20 : decode b_C_word 20 = .ok (.iload_n 1, 1) := by decide +kernel
theorem d_C_word_21 : decode b_C_word 21 = .ok (.aaload, 1) := by decide +kernel
theorem d_C_word_22 : decode b_C_word 22 = .ok (.iload_n 2, 1) := by decide +kernel
theorem d_C_word_23 : decode b_C_word 23 = .ok (.iload_n 3, 1) := by decide +kernel
theorem d_C_word_24 : decode b_C_word 24 = .ok (.iload 4, 2) := by decide +kernel
theorem d_C_word_26 : decode b_C_word 26 = .ok (.iload 5, 2) := by decide +kernel
theorem d_C_word_28 : decode b_C_word 28 = .ok (.invokevirtual 32, 3) := by decide +kernel
theorem d_C_word_31 : decode b_C_word 31 = .ok (.ifCond .ne 13, 3) := by decide +kernel
theorem d_C_word_34 : decode b_C_word 34 = .ok (.new 38, 3) := by decide +kernel
theorem d_C_word_37 : decode b_C_word 37 = .ok (.dup, 1) := by decide +kernel
theorem d_C_word_38 : decode b_C_word 38 = .ok (.ldc 40, 2) := by decide +kernel
theorem d_C_word_40 : decode b_C_word 40 = .ok (.invokespecial 42, 3) := by decide +kernel
theorem d_C_word_43 : decode b_C_word 43 = .ok (.athrow, 1) := by decide +kernel
theorem d_C_word_44 : decode b_C_word 44 = .ok (.getstatic 28, 3) := by decide +kernel
theorem d_C_word_47 : decode b_C_word 47 = .ok (.iload_n 1, 1) := by decide +kernel
theorem d_C_word_48 : decode b_C_word 48 = .ok (.aaload, 1) := by decide +kernel
theorem d_C_word_49 : decode b_C_word 49 = .ok (.iload_n 2, 1) := by decide +kernel
theorem d_C_word_50 : decode b_C_word 50 = .ok (.iload_n 3, 1) := by decide +kernel
theorem d_C_word_51 : decode b_C_word 51 = .ok (.iload 4, 2) := by decide +kernel
theorem d_C_word_53 : decode b_C_word 53 = .ok (.iload 5, 2) := by decide +kernel
theorem d_C_word_55 : decode b_C_word 55 = .ok (.invokevirtual 43, 3) := by decide +kernel
theorem d_C_word_58 : decode b_C_word 58 = .ok (.ireturn, 1) := by decide +kernel
theorem d_C_part_0 : decode b_C_part 0 = .ok (.iload_n 1, 1) := by decide +kernel
theorem d_C_part_1 : decode b_C_part 1 = .ok (.invokestatic 47, 3) := by decide +kernel
theorem d_C_part_4 : decode b_C_part 4 = .ok (.istore_n 3, 1) := by decide +kernel
theorem d_C_part_5 : decode b_C_part 5 = .ok (.iload_n 3, 1) := by decide +kernel
theorem d_C_part_6 : decode b_C_part 6 = .ok (.iconst (-1), 1) := by decide +kernel
theorem d_C_part_7 : decode b_C_part 7 = .ok (.if_icmp .ne 13, 3) := by decide +kernel
theorem d_C_part_10 : decode b_C_part 10 = .ok (.new 54, 3) := by decide +kernel
theorem d_C_part_13 : decode b_C_part 13 = .ok (.dup, 1) := by decide +kernel
theorem d_C_part_14 : decode b_C_part 14 = .ok (.ldc 56, 2) := by decide +kernel
theorem d_C_part_16 : decode b_C_part 16 = .ok (.invokespecial 58, 3) := by decide +kernel
theorem d_C_part_19 : decode b_C_part 19 = .ok (.athrow, 1) := by decide +kernel
theorem d_C_part_20 : decode b_C_part 20 = .ok (.iload_n 2, 1) := by decide +kernel
theorem d_C_part_21 : decode b_C_part 21 = .ok (.ifCond .lt 22, 3) := by decide +kernel
theorem d_C_part_24 : decode b_C_part 24 = .ok (.iload_n 2, 1) := by decide +kernel
theorem d_C_part_25 : decode b_C_part 25 = .ok (.iconst 3, 1) := by decide +kernel
theorem d_C_part_26 : decode b_C_part 26 = .ok (.if_icmp .gt 17, 3) := by decide +kernel
theorem d_C_part_29 : decode b_C_part 29 = .ok (.getstatic 28, 3) := by decide +kernel
theorem d_C_part_32 : decode b_C_part 32 = .ok (.iload_n 3, 1) := by decide +kernel
theorem d_C_part_33 : decode b_C_part 33 = .ok (.aaload, 1) := by decide +kernel
theorem d_C_part_34 : decode b_C_part 34 = .ok (.iconst 1, 1) := by decide +kernel
theorem d_C_part_35 : decode b_C_part 35 = .ok (.iload_n 2, 1) := by decide +kernel
theorem d_C_part_36 : decode b_C_part 36 = .ok (.ishl, 1) := by decide +kernel
theorem d_C_part_37 : decode b_C_part 37 = .ok (.invokevirtual 59, 3) := by decide +kernel
theorem d_C_part_40 : decode b_C_part 40 = .ok (.ifCond .ne 13, 3) := by decide +kernel
theorem d_C_part_43 : decode b_C_part 43 = .ok (.new 54, 3) := by decide +kernel
theorem d_C_part_46 : decode b_C_part 46 = .ok (.dup, 1) := by decide +kernel
theorem d_C_part_47 : decode b_C_part 47 = .ok (.ldc 62, 2) := by decide +kernel
theorem d_C_part_49 : decode b_C_part 49 = .ok (.invokespecial 58, 3) := by decide +kernel
theorem d_C_part_52 : decode b_C_part 52 = .ok (.athrow, 1) := by decide +kernel
theorem d_C_part_53 : decode b_C_part 53 = .ok (.iload_n 2, 1) := by decide +kernel
theorem d_C_part_54 : decode b_C_part 54 = .ok (.iconst 3, 1) := by decide +kernel
theorem d_C_part_55 : decode b_C_part 55 = .ok (.if_icmp .ne 15, 3) := by decide +kernel
theorem d_C_part_58 : decode b_C_part 58 = .ok (.getstatic 28, 3) := by decide +kernel
theorem d_C_part_61 : decode b_C_part 61 = .ok (.iload_n 3, 1) := by decide +kernel
theorem d_C_part_62 : decode b_C_part 62 = .ok (.aaload, 1) := by decide +kernel
theorem d_C_part_63 : decode b_C_part 63 = .ok (.iload_n 1, 1) := by decide +kernel
theorem d_C_part_64 : decode b_C_part 64 = .ok (.invokevirtual 64, 3) := by decide +kernel
theorem d_C_part_67 : decode b_C_part 67 = .ok (.goto 15, 3) := by decide +kernel
theorem d_C_part_70 : decode b_C_part 70 = .ok (.getstatic 28, 3) := by decide +kernel
theorem d_C_part_73 : decode b_C_part 73 = .ok (.iload_n 3, 1) := by decide +kernel
theorem d_C_part_74 : decode b_C_part 74 = .ok (.aaload, 1) := by decide +kernel
theorem d_C_part_75 : decode b_C_part 75 = .ok (.iload_n 1, 1) := by decide +kernel
theorem d_C_part_76 : decode b_C_part 76 = .ok (.iconst 1, 1) := by decide +kernel
theorem d_C_part_77 : decode b_C_part 77 = .ok (.iload_n 2, 1) := by decide +kernel
theorem d_C_part_78 : decode b_C_part 78 = .ok (.ishl, 1) := by decide +kernel
theorem d_C_part_79 : decode b_C_part 79 = .ok (.invokevirtual 67, 3) := by decide +kernel
theorem d_C_part_82 : decode b_C_part 82 = .ok (.ireturn, 1) := by decide +kernel
theorem d_C_longer_0 : decode b_C_longer 0 = .ok (.iload_n 1, 1) := by decide +kernel
theorem d_C_longer_1 : decode b_C_longer 1 = .ok (.invokestatic 47, 3) := by decide +kernel
theorem d_C_longer_4 : decode b_C_longer 4 = .ok (.istore_n 2, 1) := by decide +kernel
theorem d_C_longer_5 : decode b_C_longer 5 = .ok (.iload_n 2, 1) := by decide +kernel
theorem d_C_longer_6 : decode b_C_longer 6 = .ok (.iconst (-1), 1) := by decide +kernel
theorem d_C_longer_7 : decode b_C_longer 7 = .ok (.if_icmp .eq 17, 3) := by decide +kernel
theorem d_C_longer_10 : decode b_C_longer 10 = .ok (.getstatic 28, 3) := by decide +kernel
theorem d_C_longer_13 : decode b_C_longer 13 = .ok (.iload_n 2, 1) := by decide +kernel
theorem d_C_longer_14 : decode b_C_longer 14 = .ok (.aaload, 1) := by decide +kernel
theorem d_C_longer_15 : decode b_C_longer 15 = .ok (.getfield 71, 3) := by decide +kernel
theorem d_C_longer_18 : decode b_C_longer 18 = .ok (.invokestatic 17, 3) := by decide +kernel
theorem d_C_longer_21 : decode b_C_longer 21 = .ok (.ifCond .ne 13, 3) := by decide +kernel
theorem d_C_longer_24 : decode b_C_longer 24 = .ok (.new 54, 3) := by decide +kernel
theorem d_C_longer_27 : decode b_C_longer 27 = .ok (.dup, 1) := by decide +kernel
theorem d_C_longer_28 : decode b_C_longer 28 = .ok (.ldc 74, 2) := by decide +kernel
theorem d_C_longer_30 : decode b_C_longer 30 = .ok (.invokespecial 58, 3) := by decide +kernel
theorem d_C_longer_33 : decode b_C_longer 33 = .ok (.athrow, 1) := by decide +kernel
theorem d_C_longer_34 : decode b_C_longer 34 = .ok (.getstatic 28, 3) := by decide +kernel
theorem d_C_longer_37 : decode b_C_longer 37 = .ok (.iload_n 2, 1) := by decide +kernel
theorem d_C_longer_38 : decode b_C_longer 38 = .ok (.aaload, 1) := by decide +kernel
theorem d_C_longer_39 : decode b_C_longer 39 = .ok (.astore_n 3, 1) := by decide +kernel
theorem d_C_longer_40 : decode b_C_longer 40 = .ok (.aload_n 3, 1) := by decide +kernel
theorem d_C_longer_41 : decode b_C_longer 41 = .ok (.aload_n 3, 1) := by decide +kernel
theorem d_C_longer_42 : decode b_C_longer 42 = .ok (.iload_n 1, 1) := by decide +kernel
theorem d_C_longer_43 : decode b_C_longer 43 = .ok (.iconst 1, 1) := by decide +kernel
theorem d_C_longer_44 : decode b_C_longer 44 = .ok (.invokevirtual 67, 3) := by decide +kernel
theorem d_C_longer_47 : decode b_C_longer 47 = .ok (.aload_n 3, 1) := by decide +kernel
theorem d_C_longer_48 : decode b_C_longer 48 = .ok (.iload_n 1, 1) := by decide +kernel
theorem d_C_longer_49 : decode b_C_longer 49 = .ok (.iconst 2, 1) := by decide +kernel
theorem d_C_longer_50 : decode b_C_longer 50 = .ok (.invokevirtual 67, 3) := by decide +kernel
theorem d_C_longer_53 : decode b_C_longer 53 = .ok (.aload_n 3, 1) := by decide +kernel
theorem d_C_longer_54 : decode b_C_longer 54 = .ok (.iload_n 1, 1) := by decide +kernel
theorem d_C_longer_55 : decode b_C_longer 55 = .ok (.iconst 4, 1) := by decide +kernel
theorem d_C_longer_56 : decode b_C_longer 56 = .ok (.invokevirtual 67, 3) := by decide +kernel
theorem d_C_longer_59 : decode b_C_longer 59 = .ok (.aload_n 3, 1) := by decide +kernel
theorem d_C_longer_60 : decode b_C_longer 60 = .ok (.iload_n 1, 1) := by decide +kernel
theorem d_C_longer_61 : decode b_C_longer 61 = .ok (.invokevirtual 64, 3) := by decide +kernel
theorem d_C_longer_64 : decode b_C_longer 64 = .ok (.invokestatic 76, 3) := by decide +kernel
theorem d_C_longer_67 : decode b_C_longer 67 = .ok (.ireturn, 1) := by decide +kernel
theorem d_C_fit_0 : decode b_C_fit 0 = .ok (.iload_n 1, 1) := by decide +kernel
theorem d_C_fit_1 : decode b_C_fit 1 = .ok (.invokestatic 47, 3) := by decide +kernel
theorem d_C_fit_4 : decode b_C_fit 4 = .ok (.istore 4, 2) := by decide +kernel
theorem d_C_fit_6 : decode b_C_fit 6 = .ok (.iload 4, 2) := by decide +kernel
theorem d_C_fit_8 : decode b_C_fit 8 = .ok (.iconst (-1), 1) := by decide +kernel
theorem d_C_fit_9 : decode b_C_fit 9 = .ok (.if_icmp .ne 13, 3) := by decide +kernel
theorem d_C_fit_12 : decode b_C_fit 12 = .ok (.new 38, 3) := by decide +kernel
theorem d_C_fit_15 : decode b_C_fit 15 = .ok (.dup, 1) := by decide +kernel
theorem d_C_fit_16 : decode b_C_fit 16 = .ok (.ldc 56, 2) := by decide +kernel
theorem d_C_fit_18 : decode b_C_fit 18 = .ok (.invokespecial 42, 3) := by decide +kernel
theorem d_C_fit_21 : decode b_C_fit 21 = .ok (.athrow, 1) := by decide +kernel
theorem d_C_fit_22 : decode b_C_fit 22 = .ok (.getstatic 28, 3) := by decide +kernel
theorem d_C_fit_25 : decode b_C_fit 25 = .ok (.iload 4, 2) := by decide +kernel
theorem d_C_fit_27 : decode b_C_fit 27 = .ok (.aaload, 1) := by decide +kernel
theorem d_C_fit_28 : decode b_C_fit 28 = .ok (.astore 5, 2) := by decide +kernel
theorem d_C_fit_30 : decode b_C_fit 30 = .ok (.aload 5, 2) := by decide +kernel
theorem d_C_fit_32 : decode b_C_fit 32 = .ok (.lload_n 2, 1) := by decide +kernel
theorem d_C_fit_33 : decode b_C_fit 33 = .ok (.invokevirtual 87, 3) := by decide +kernel
theorem d_C_fit_36 : decode b_C_fit 36 = .ok (.ifCond .ne 13, 3) := by decide +kernel
theorem d_C_fit_39 : decode b_C_fit 39 = .ok (.new 38, 3) := by decide +kernel
theorem d_C_fit_42 : decode b_C_fit 42 = .ok (.dup, 1) := by decide +kernel
theorem d_C_fit_43 : decode b_C_fit 43 = .ok (.ldc 91, 2) := by decide +kernel
theorem d_C_fit_45 : decode b_C_fit 45 = .ok (.invokespecial 42, 3) := by decide +kernel
theorem d_C_fit_48 : decode b_C_fit 48 = .ok (.athrow, 1) := by decide +kernel
theorem d_C_fit_49 : decode b_C_fit 49 = .ok (.aload 5, 2) := by decide +kernel
theorem d_C_fit_51 : decode b_C_fit 51 = .ok (.aload 5, 2) := by decide +kernel
theorem d_C_fit_53 : decode b_C_fit 53 = .ok (.iload_n 1, 1) := by decide +kernel
theorem d_C_fit_54 : decode b_C_fit 54 = .ok (.iconst 1, 1) := by decide +kernel
theorem d_C_fit_55 : decode b_C_fit 55 = .ok (.invokevirtual 67, 3) := by decide +kernel
theorem d_C_fit_58 : decode b_C_fit 58 = .ok (.aload 5, 2) := by decide +kernel
theorem d_C_fit_60 : decode b_C_fit 60 = .ok (.iload_n 1, 1) := by decide +kernel
theorem d_C_fit_61 : decode b_C_fit 61 = .ok (.iconst 2, 1) := by decide +kernel
theorem d_C_fit_62 : decode b_C_fit 62 = .ok (.invokevirtual 67, 3) := by decide +kernel
theorem d_C_fit_65 : decode b_C_fit 65 = .ok (.aload 5, 2) := by decide +kernel
theorem d_C_fit_67 : decode b_C_fit 67 = .ok (.iload_n 1, 1) := by decide +kernel
theorem d_C_fit_68 : decode b_C_fit 68 = .ok (.iconst 4, 1) := by decide +kernel
theorem d_C_fit_69 : decode b_C_fit 69 = .ok (.invokevirtual 67, 3) := by decide +kernel
theorem d_C_fit_72 : decode b_C_fit 72 = .ok (.lload_n 2, 1) := by decide +kernel
theorem d_C_fit_73 : decode b_C_fit 73 = .ok (.l2i, 1) := by decide +kernel
theorem d_C_fit_74 : decode b_C_fit 74 = .ok (.invokevirtual 43, 3) := by decide +kernel
theorem d_C_fit_77 : decode b_C_fit 77 = .ok (.ireturn, 1) := by decide +kernel
end
section
/-! small words and rows of my own -/
def bI : Bool → Int32
  | true => 1
  | false => 0
theorem bI_0 {b : Bool} : bI b = 0 ↔ b = false := by cases b <;> simp [bI]
theorem bI_n0 {b : Bool} : ¬ bI b = 0 ↔ b = true := by cases b <;> simp [bI]
theorem ju_nz (b : Bool) : narrow .boolean (.int (bI b)) = .int (bI b) := by cases b <;> rfl
def ju_ushr (x y : Int32) : Int32 := (x.toUInt32 >>> (y.toUInt32 &&& Int32.toUInt32 31)).toInt32
def ju_lushr (x : Int64) (y : Int32) : Int64 := (x.toUInt64 >>> (y.toInt64.toUInt64 &&& Int64.toUInt64 63)).toInt64
def ju_lshl (x : Int64) (y : Int32) : Int64 := x <<< (y.toInt64 &&& 63)
def ju_lshr (x : Int64) (y : Int32) : Int64 := x >>> (y.toInt64 &&& 63)
def ju_i2c (x : Int32) : Int32 := (x.toUInt32 % 65536).toInt32
theorem ju_gd {α : Type} {P : Prop} [Decidable P] {x : Option α} {r : α} (h : (if P then none else x) = some r) : ¬ P ∧ x = some r := by
  by_cases c : P
  · rw [if_pos c] at h; cases h
  · rw [if_neg c] at h; exact ⟨c, h⟩
theorem ju_lt {x : Int32} {n : Nat} (h : ¬ (x < 0 ∨ n ≤ x.toNatClampNeg)) : x.toNatClampNeg < n := by omega
section JU
variable {p : Program} {l : Launch} {e : Env} {R : Room} {s : State} {m : MethodId} {args : Array Value} {below : List Frame} {meth : Method} {c : Code} {H : Heap} {locs : List Loc} {cells slots : Nat} {Q : State → Prop}
variable {pc : Nat} {ls : Array Slot} {rest st0 : List Value} {a : Array Value}
theorem ju_calli {r : Int32} (hr : CallRun p l e R s m args below meth c H locs cells slots 0 0 (F0 m pc ls st0) rest (QcRead r a) (fun _ => False))
    (kk : W p l e R s m args below meth c H locs cells slots Q (F0 m (pc + 3) ls (.int r :: rest))) : W p l e R s m args below meth c H locs cells slots Q (F0 m pc ls st0) := W.callR hr kk
end JU
/-- the body of a method that only reads -/
abbrev pW (p : Program) (l : Launch) (e : Env) (R : Room) (s : State) (m : MethodId) (args : Array Value) (below : List Frame) (meth : Method) (c : Code) (r : Int32) (g : JFrame) : Prop := W p l e R s m args below meth c s.heap [] 0 0 (MQ below (QcRead r) args s 0 0 (fun _ => False)) g
end
section
/-! the constants of CodeWords$Kind and the class's String constants, as the Statement gives them -/
def sB : List (List Int32) := [[46, 119, 111, 114, 100, 32], [48, 120], [46, 104, 97, 108, 102, 32], [32, 32, 32, 100, 97, 98, 100, 97, 73, 100, 79, 32, 98, 79, 32, 97, 98, 80, 100, 88, 32, 100, 80, 32, 80, 32, 32, 97, 80, 32, 100, 98, 32, 97, 32, 32, 100, 73, 32, 100, 83, 32, 98, 83, 32, 100, 115, 73, 115, 73, 32], [32], [44, 32], [122, 101, 114, 111, 114, 97, 32, 32, 115, 112, 32, 32, 103, 112, 32, 32, 116, 112, 32, 32, 116, 48, 32, 32, 116, 49, 32, 32, 116, 50, 32, 32, 115, 48, 32, 32, 115, 49, 32, 32, 97, 48, 32, 32, 97, 49, 32, 32, 97, 50, 32, 32, 97, 51, 32, 32, 97, 52, 32, 32, 97, 53, 32, 32, 97, 54, 32, 32, 97, 55, 32, 32, 115, 50, 32, 32, 115, 51, 32, 32, 115, 52, 32, 32, 115, 53, 32, 32, 115, 54, 32, 32, 115, 55, 32, 32, 115, 56, 32, 32, 115, 57, 32, 32, 115, 49, 48, 32, 115, 49, 49, 32, 116, 51, 32, 32, 116, 52, 32, 32, 116, 53, 32, 32, 116, 54, 32, 32], [110, 111, 32, 115, 117, 99, 104, 32, 107, 105, 110, 100], [97, 32, 112, 97, 114, 116, 32, 105, 115, 32, 110, 111, 110, 101, 32, 116, 104, 97, 116, 32, 109, 97, 121, 32, 98, 101], [97, 110, 32, 105, 108, 108, 101, 103, 97, 108, 32, 119, 111, 114, 100], [110, 111, 32, 115, 117, 99, 104, 32, 112, 97, 114, 116], [110, 111, 32, 115, 104, 111, 114, 116, 32, 119, 111, 114, 100], [110, 111, 32, 105, 109, 109, 101, 100, 105, 97, 116, 101, 32, 116, 104, 97, 116, 32, 109, 97, 121, 32, 98, 101], [108, 117, 105], [84, 83, 82, 81, 80, 79, 78, 77, 76, 75, 74, 73, 72, 71, 70, 69, 68, 67, 66, 65, 100, 100, 100, 100, 100, 48, 49, 49, 48, 49, 49, 49], [97, 117, 105, 112, 99], [84, 83, 82, 81, 80, 79, 78, 77, 76, 75, 74, 73, 72, 71, 70, 69, 68, 67, 66, 65, 100, 100, 100, 100, 100, 48, 48, 49, 48, 49, 49, 49], [106, 97, 108], [85, 75, 74, 73, 72, 71, 70, 69, 68, 67, 66, 76, 84, 83, 82, 81, 80, 79, 78, 77, 100, 100, 100, 100, 100, 49, 49, 48, 49, 49, 49, 49], [106, 97, 108, 114], [76, 75, 74, 73, 72, 71, 70, 69, 68, 67, 66, 65, 97, 97, 97, 97, 97, 48, 48, 48, 100, 100, 100, 100, 100, 49, 49, 48, 48, 49, 49, 49], [98, 101, 113], [77, 75, 74, 73, 72, 71, 70, 98, 98, 98, 98, 98, 97, 97, 97, 97, 97, 48, 48, 48, 69, 68, 67, 66, 76, 49, 49, 48, 48, 48, 49, 49], [98, 110, 101], [77, 75, 74, 73, 72, 71, 70, 98, 98, 98, 98, 98, 97, 97, 97, 97, 97, 48, 48, 49, 69, 68, 67, 66, 76, 49, 49, 48, 48, 48, 49, 49], [98, 108, 116], [77, 75, 74, 73, 72, 71, 70, 98, 98, 98, 98, 98, 97, 97, 97, 97, 97, 49, 48, 48, 69, 68, 67, 66, 76, 49, 49, 48, 48, 48, 49, 49], [98, 103, 101], [77, 75, 74, 73, 72, 71, 70, 98, 98, 98, 98, 98, 97, 97, 97, 97, 97, 49, 48, 49, 69, 68, 67, 66, 76, 49, 49, 48, 48, 48, 49, 49], [98, 108, 116, 117], [77, 75, 74, 73, 72, 71, 70, 98, 98, 98, 98, 98, 97, 97, 97, 97, 97, 49, 49, 48, 69, 68, 67, 66, 76, 49, 49, 48, 48, 48, 49, 49], [98, 103, 101, 117], [77, 75, 74, 73, 72, 71, 70, 98, 98, 98, 98, 98, 97, 97, 97, 97, 97, 49, 49, 49, 69, 68, 67, 66, 76, 49, 49, 48, 48, 48, 49, 49], [108, 98], [76, 75, 74, 73, 72, 71, 70, 69, 68, 67, 66, 65, 97, 97, 97, 97, 97, 48, 48, 48, 100, 100, 100, 100, 100, 48, 48, 48, 48, 48, 49, 49], [108, 104], [76, 75, 74, 73, 72, 71, 70, 69, 68, 67, 66, 65, 97, 97, 97, 97, 97, 48, 48, 49, 100, 100, 100, 100, 100, 48, 48, 48, 48, 48, 49, 49], [108, 119], [76, 75, 74, 73, 72, 71, 70, 69, 68, 67, 66, 65, 97, 97, 97, 97, 97, 48, 49, 48, 100, 100, 100, 100, 100, 48, 48, 48, 48, 48, 49, 49], [108, 98, 117], [76, 75, 74, 73, 72, 71, 70, 69, 68, 67, 66, 65, 97, 97, 97, 97, 97, 49, 48, 48, 100, 100, 100, 100, 100, 48, 48, 48, 48, 48, 49, 49], [108, 104, 117], [76, 75, 74, 73, 72, 71, 70, 69, 68, 67, 66, 65, 97, 97, 97, 97, 97, 49, 48, 49, 100, 100, 100, 100, 100, 48, 48, 48, 48, 48, 49, 49], [115, 98], [76, 75, 74, 73, 72, 71, 70, 98, 98, 98, 98, 98, 97, 97, 97, 97, 97, 48, 48, 48, 69, 68, 67, 66, 65, 48, 49, 48, 48, 48, 49, 49], [115, 104], [76, 75, 74, 73, 72, 71, 70, 98, 98, 98, 98, 98, 97, 97, 97, 97, 97, 48, 48, 49, 69, 68, 67, 66, 65, 48, 49, 48, 48, 48, 49, 49], [115, 119], [76, 75, 74, 73, 72, 71, 70, 98, 98, 98, 98, 98, 97, 97, 97, 97, 97, 48, 49, 48, 69, 68, 67, 66, 65, 48, 49, 48, 48, 48, 49, 49], [97, 100, 100, 105], [76, 75, 74, 73, 72, 71, 70, 69, 68, 67, 66, 65, 97, 97, 97, 97, 97, 48, 48, 48, 100, 100, 100, 100, 100, 48, 48, 49, 48, 48, 49, 49], [115, 108, 116, 105], [76, 75, 74, 73, 72, 71, 70, 69, 68, 67, 66, 65, 97, 97, 97, 97, 97, 48, 49, 48, 100, 100, 100, 100, 100, 48, 48, 49, 48, 48, 49, 49], [115, 108, 116, 105, 117], [76, 75, 74, 73, 72, 71, 70, 69, 68, 67, 66, 65, 97, 97, 97, 97, 97, 48, 49, 49, 100, 100, 100, 100, 100, 48, 48, 49, 48, 48, 49, 49], [120, 111, 114, 105], [76, 75, 74, 73, 72, 71, 70, 69, 68, 67, 66, 65, 97, 97, 97, 97, 97, 49, 48, 48, 100, 100, 100, 100, 100, 48, 48, 49, 48, 48, 49, 49], [111, 114, 105], [76, 75, 74, 73, 72, 71, 70, 69, 68, 67, 66, 65, 97, 97, 97, 97, 97, 49, 49, 48, 100, 100, 100, 100, 100, 48, 48, 49, 48, 48, 49, 49], [97, 110, 100, 105], [76, 75, 74, 73, 72, 71, 70, 69, 68, 67, 66, 65, 97, 97, 97, 97, 97, 49, 49, 49, 100, 100, 100, 100, 100, 48, 48, 49, 48, 48, 49, 49], [115, 108, 108, 105], [48, 48, 48, 48, 48, 48, 48, 69, 68, 67, 66, 65, 97, 97, 97, 97, 97, 48, 48, 49, 100, 100, 100, 100, 100, 48, 48, 49, 48, 48, 49, 49], [115, 114, 108, 105], [48, 48, 48, 48, 48, 48, 48, 69, 68, 67, 66, 65, 97, 97, 97, 97, 97, 49, 48, 49, 100, 100, 100, 100, 100, 48, 48, 49, 48, 48, 49, 49], [115, 114, 97, 105], [48, 49, 48, 48, 48, 48, 48, 69, 68, 67, 66, 65, 97, 97, 97, 97, 97, 49, 48, 49, 100, 100, 100, 100, 100, 48, 48, 49, 48, 48, 49, 49], [97, 100, 100], [48, 48, 48, 48, 48, 48, 48, 98, 98, 98, 98, 98, 97, 97, 97, 97, 97, 48, 48, 48, 100, 100, 100, 100, 100, 48, 49, 49, 48, 48, 49, 49], [115, 117, 98], [48, 49, 48, 48, 48, 48, 48, 98, 98, 98, 98, 98, 97, 97, 97, 97, 97, 48, 48, 48, 100, 100, 100, 100, 100, 48, 49, 49, 48, 48, 49, 49], [115, 108, 108], [48, 48, 48, 48, 48, 48, 48, 98, 98, 98, 98, 98, 97, 97, 97, 97, 97, 48, 48, 49, 100, 100, 100, 100, 100, 48, 49, 49, 48, 48, 49, 49], [115, 108, 116], [48, 48, 48, 48, 48, 48, 48, 98, 98, 98, 98, 98, 97, 97, 97, 97, 97, 48, 49, 48, 100, 100, 100, 100, 100, 48, 49, 49, 48, 48, 49, 49], [115, 108, 116, 117], [48, 48, 48, 48, 48, 48, 48, 98, 98, 98, 98, 98, 97, 97, 97, 97, 97, 48, 49, 49, 100, 100, 100, 100, 100, 48, 49, 49, 48, 48, 49, 49], [120, 111, 114], [48, 48, 48, 48, 48, 48, 48, 98, 98, 98, 98, 98, 97, 97, 97, 97, 97, 49, 48, 48, 100, 100, 100, 100, 100, 48, 49, 49, 48, 48, 49, 49], [115, 114, 108], [48, 48, 48, 48, 48, 48, 48, 98, 98, 98, 98, 98, 97, 97, 97, 97, 97, 49, 48, 49, 100, 100, 100, 100, 100, 48, 49, 49, 48, 48, 49, 49], [115, 114, 97], [48, 49, 48, 48, 48, 48, 48, 98, 98, 98, 98, 98, 97, 97, 97, 97, 97, 49, 48, 49, 100, 100, 100, 100, 100, 48, 49, 49, 48, 48, 49, 49], [111, 114], [48, 48, 48, 48, 48, 48, 48, 98, 98, 98, 98, 98, 97, 97, 97, 97, 97, 49, 49, 48, 100, 100, 100, 100, 100, 48, 49, 49, 48, 48, 49, 49], [97, 110, 100], [48, 48, 48, 48, 48, 48, 48, 98, 98, 98, 98, 98, 97, 97, 97, 97, 97, 49, 49, 49, 100, 100, 100, 100, 100, 48, 49, 49, 48, 48, 49, 49], [109, 117, 108], [48, 48, 48, 48, 48, 48, 49, 98, 98, 98, 98, 98, 97, 97, 97, 97, 97, 48, 48, 48, 100, 100, 100, 100, 100, 48, 49, 49, 48, 48, 49, 49], [109, 117, 108, 104], [48, 48, 48, 48, 48, 48, 49, 98, 98, 98, 98, 98, 97, 97, 97, 97, 97, 48, 48, 49, 100, 100, 100, 100, 100, 48, 49, 49, 48, 48, 49, 49], [109, 117, 108, 104, 115, 117], [48, 48, 48, 48, 48, 48, 49, 98, 98, 98, 98, 98, 97, 97, 97, 97, 97, 48, 49, 48, 100, 100, 100, 100, 100, 48, 49, 49, 48, 48, 49, 49], [109, 117, 108, 104, 117], [48, 48, 48, 48, 48, 48, 49, 98, 98, 98, 98, 98, 97, 97, 97, 97, 97, 48, 49, 49, 100, 100, 100, 100, 100, 48, 49, 49, 48, 48, 49, 49], [100, 105, 118], [48, 48, 48, 48, 48, 48, 49, 98, 98, 98, 98, 98, 97, 97, 97, 97, 97, 49, 48, 48, 100, 100, 100, 100, 100, 48, 49, 49, 48, 48, 49, 49], [100, 105, 118, 117], [48, 48, 48, 48, 48, 48, 49, 98, 98, 98, 98, 98, 97, 97, 97, 97, 97, 49, 48, 49, 100, 100, 100, 100, 100, 48, 49, 49, 48, 48, 49, 49], [114, 101, 109], [48, 48, 48, 48, 48, 48, 49, 98, 98, 98, 98, 98, 97, 97, 97, 97, 97, 49, 49, 48, 100, 100, 100, 100, 100, 48, 49, 49, 48, 48, 49, 49], [114, 101, 109, 117], [48, 48, 48, 48, 48, 48, 49, 98, 98, 98, 98, 98, 97, 97, 97, 97, 97, 49, 49, 49, 100, 100, 100, 100, 100, 48, 49, 49, 48, 48, 49, 49], [102, 101, 110, 99, 101], [48, 48, 48, 48, 49, 49, 49, 49, 49, 49, 49, 49, 48, 48, 48, 48, 48, 48, 48, 48, 48, 48, 48, 48, 48, 48, 48, 48, 49, 49, 49, 49], [101, 99, 97, 108, 108], [48, 48, 48, 48, 48, 48, 48, 48, 48, 48, 48, 48, 48, 48, 48, 48, 48, 48, 48, 48, 48, 48, 48, 48, 48, 49, 49, 49, 48, 48, 49, 49], [101, 98, 114, 101, 97, 107], [48, 48, 48, 48, 48, 48, 48, 48, 48, 48, 48, 49, 48, 48, 48, 48, 48, 48, 48, 48, 48, 48, 48, 48, 48, 49, 49, 49, 48, 48, 49, 49], [99, 46, 97, 100, 100, 105, 52, 115, 112, 110], [48, 48, 48, 70, 69, 74, 73, 72, 71, 67, 68, 100, 100, 100, 48, 48], [100, 50, 45], [99, 46, 108, 119], [48, 49, 48, 70, 69, 68, 97, 97, 97, 67, 71, 100, 100, 100, 48, 48], [100, 97, 45], [99, 46, 115, 119], [49, 49, 48, 70, 69, 68, 97, 97, 97, 67, 71, 98, 98, 98, 48, 48], [45, 97, 98], [99, 46, 110, 111, 112], [48, 48, 48, 48, 48, 48, 48, 48, 48, 48, 48, 48, 48, 48, 48, 49], [48, 48, 45], [99, 46, 97, 100, 100, 105], [48, 48, 48, 70, 100, 100, 100, 100, 100, 69, 68, 67, 66, 65, 48, 49], [100, 100, 45], [99, 46, 106, 97, 108], [48, 48, 49, 76, 69, 74, 73, 75, 71, 72, 68, 67, 66, 70, 48, 49], [49, 45, 45], [99, 46, 108, 105], [48, 49, 48, 70, 100, 100, 100, 100, 100, 69, 68, 67, 66, 65, 48, 49], [100, 48, 45], [99, 46, 97, 100, 100, 105, 49, 54, 115, 112], [48, 49, 49, 74, 48, 48, 48, 49, 48, 69, 71, 73, 72, 70, 48, 49], [50, 50, 45], [99, 46, 108, 117, 105], [48, 49, 49, 70, 100, 100, 100, 100, 100, 69, 68, 67, 66, 65, 48, 49], [100, 45, 45], [99, 46, 115, 114, 108, 105], [49, 48, 48, 48, 48, 48, 100, 100, 100, 69, 68, 67, 66, 65, 48, 49], [99, 46, 115, 114, 97, 105], [49, 48, 48, 48, 48, 49, 100, 100, 100, 69, 68, 67, 66, 65, 48, 49], [99, 46, 97, 110, 100, 105], [49, 48, 48, 70, 49, 48, 100, 100, 100, 69, 68, 67, 66, 65, 48, 49], [99, 46, 115, 117, 98], [49, 48, 48, 48, 49, 49, 100, 100, 100, 48, 48, 98, 98, 98, 48, 49], [100, 100, 98], [99, 46, 120, 111, 114], [49, 48, 48, 48, 49, 49, 100, 100, 100, 48, 49, 98, 98, 98, 48, 49], [99, 46, 111, 114], [49, 48, 48, 48, 49, 49, 100, 100, 100, 49, 48, 98, 98, 98, 48, 49], [99, 46, 97, 110, 100], [49, 48, 48, 48, 49, 49, 100, 100, 100, 49, 49, 98, 98, 98, 48, 49], [99, 46, 106], [49, 48, 49, 76, 69, 74, 73, 75, 71, 72, 68, 67, 66, 70, 48, 49], [48, 45, 45], [99, 46, 98, 101, 113, 122], [49, 49, 48, 73, 69, 68, 97, 97, 97, 72, 71, 67, 66, 70, 48, 49], [45, 97, 48], [99, 46, 98, 110, 101, 122], [49, 49, 49, 73, 69, 68, 97, 97, 97, 72, 71, 67, 66, 70, 48, 49], [99, 46, 115, 108, 108, 105], [48, 48, 48, 48, 100, 100, 100, 100, 100, 69, 68, 67, 66, 65, 49, 48], [99, 46, 108, 119, 115, 112], [48, 49, 48, 70, 100, 100, 100, 100, 100, 69, 68, 67, 72, 71, 49, 48], [99, 46, 106, 114], [49, 48, 48, 48, 97, 97, 97, 97, 97, 48, 48, 48, 48, 48, 49, 48], [48, 97, 45], [99, 46, 109, 118], [49, 48, 48, 48, 100, 100, 100, 100, 100, 98, 98, 98, 98, 98, 49, 48], [100, 48, 98], [99, 46, 101, 98, 114, 101, 97, 107], [49, 48, 48, 49, 48, 48, 48, 48, 48, 48, 48, 48, 48, 48, 49, 48], [45, 45, 45], [99, 46, 106, 97, 108, 114], [49, 48, 48, 49, 97, 97, 97, 97, 97, 48, 48, 48, 48, 48, 49, 48], [49, 97, 45], [99, 46, 97, 100, 100], [49, 48, 48, 49, 100, 100, 100, 100, 100, 98, 98, 98, 98, 98, 49, 48], [99, 46, 115, 119, 115, 112], [49, 49, 48, 70, 69, 68, 67, 72, 71, 98, 98, 98, 98, 98, 49, 48], [45, 50, 98]]
def sL (j : Nat) : Nat := (sB.getD j []).length
def sC (j k : Nat) : Int32 := (sB.getD j []).getD k 0
def kl_pattern : List Int32 := [6, 6, 7, 3, 5, 5, 5, 5, 5, 5, 3, 3, 3, 3, 3, 4, 4, 4, 2, 2, 2, 2, 2, 2, 2, 2, 2, 1, 1, 1, 1, 1, 1, 1, 1, 1, 1, 1, 1, 1, 1, 1, 1, 1, 1, 0, 0, 0, 15, 3, 4, 0, 12, 8, 12, 16, 6, 12, 12, 12, 10, 10, 10, 10, 8, 9, 9, 12, 13, 11, 10, 0, 11, 10, 14]
def k_pattern (i : Nat) : Int32 := kl_pattern.getD i 0
def kl_stands : List Int32 := [(-1), (-1), (-1), (-1), (-1), (-1), (-1), (-1), (-1), (-1), (-1), (-1), (-1), (-1), (-1), (-1), (-1), (-1), (-1), (-1), (-1), (-1), (-1), (-1), (-1), (-1), (-1), (-1), (-1), (-1), (-1), (-1), (-1), (-1), (-1), (-1), (-1), (-1), (-1), (-1), (-1), (-1), (-1), (-1), (-1), (-1), (-1), (-1), 18, 12, 17, 18, 18, 2, 18, 18, 0, 25, 26, 23, 28, 32, 35, 36, 2, 4, 5, 24, 12, 3, 27, 47, 3, 27, 17]
def k_stands (i : Nat) : Int32 := kl_stands.getD i 0
def kl_parts : List Int32 := [9, 9, 9, 11, 14, 14, 14, 14, 14, 14, 11, 11, 11, 11, 11, 14, 14, 14, 11, 11, 11, 11, 11, 11, 11, 11, 11, 7, 7, 7, 7, 7, 7, 7, 7, 7, 7, 7, 7, 7, 7, 7, 7, 7, 7, 0, 0, 0, 9, 11, 14, 0, 9, 8, 9, 8, 9, 9, 9, 9, 5, 5, 5, 5, 8, 10, 10, 9, 9, 2, 5, 0, 2, 5, 12]
def k_parts (i : Nat) : Int32 := kl_parts.getD i 0
def kl_traits : List Int32 := [0, 0, 32, 32, 32, 32, 32, 32, 32, 32, 32, 32, 32, 32, 32, 32, 32, 32, 32, 32, 32, 32, 32, 32, 0, 0, 0, 0, 0, 0, 0, 0, 0, 0, 0, 0, 0, 0, 0, 0, 0, 0, 0, 0, 0, 0, 0, 0, 64, 0, 0, 0, 96, 32, 32, 96, 352, 64, 64, 32, 0, 0, 0, 0, 32, 32, 32, 64, 0, 0, 0, 0, 0, 0, 128]
def k_traits (i : Nat) : Int32 := kl_traits.getD i 0
def kl_ownMask : List Int32 := [127, 127, 127, 28799, 28799, 28799, 28799, 28799, 28799, 28799, 28799, 28799, 28799, 28799, 28799, 28799, 28799, 28799, 28799, 28799, 28799, 28799, 28799, 28799, (-33525633), (-33525633), (-33525633), (-33525633), (-33525633), (-33525633), (-33525633), (-33525633), (-33525633), (-33525633), (-33525633), (-33525633), (-33525633), (-33525633), (-33525633), (-33525633), (-33525633), (-33525633), (-33525633), (-33525633), (-33525633), (-1), (-1), (-1), 57347, 57347, 57347, 65535, 57347, 57347, 57347, 61315, 57347, 64515, 64515, 60419, 64611, 64611, 64611, 64611, 57347, 57347, 57347, 61443, 57347, 61567, 61443, 65535, 61567, 61443, 57347]
def k_ownMask (i : Nat) : Int32 := kl_ownMask.getD i 0
def kl_ownBits : List Int32 := [55, 23, 111, 103, 99, 4195, 16483, 20579, 24675, 28771, 3, 4099, 8195, 16387, 20483, 35, 4131, 8227, 19, 8211, 12307, 16403, 24595, 28691, 4115, 20499, 1073762323, 51, 1073741875, 4147, 8243, 12339, 16435, 20531, 1073762355, 24627, 28723, 33554483, 33558579, 33562675, 33566771, 33570867, 33574963, 33579059, 33583155, 267386895, 115, 1048691, 0, 16384, 49152, 1, 1, 8193, 16385, 24833, 24577, 32769, 33793, 34817, 35841, 35873, 35905, 35937, 40961, 49153, 57345, 2, 16386, 32770, 32770, 36866, 36866, 36866, 49154]
def k_ownBits (i : Nat) : Int32 := kl_ownBits.getD i 0
def kl_placeD : List Int32 := [7, 7, 7, 7, 0, 0, 0, 0, 0, 0, 7, 7, 7, 7, 7, 0, 0, 0, 7, 7, 7, 7, 7, 7, 7, 7, 7, 7, 7, 7, 7, 7, 7, 7, 7, 7, 7, 7, 7, 7, 7, 7, 7, 7, 7, 0, 0, 0, 2, 2, 0, 0, 7, 0, 7, 0, 7, 7, 7, 7, 7, 7, 7, 7, 0, 0, 0, 7, 7, 0, 7, 0, 0, 7, 0]
def k_placeD (i : Nat) : Int32 := kl_placeD.getD i 0
def kl_placeA : List Int32 := [0, 0, 0, 15, 15, 15, 15, 15, 15, 15, 15, 15, 15, 15, 15, 15, 15, 15, 15, 15, 15, 15, 15, 15, 15, 15, 15, 15, 15, 15, 15, 15, 15, 15, 15, 15, 15, 15, 15, 15, 15, 15, 15, 15, 15, 0, 0, 0, 0, 7, 7, 0, 0, 0, 0, 0, 0, 0, 0, 0, 0, 0, 0, 0, 0, 7, 7, 0, 0, 7, 0, 0, 7, 0, 0]
def k_placeA (i : Nat) : Int32 := kl_placeA.getD i 0
def kl_placeB : List Int32 := [0, 0, 0, 0, 20, 20, 20, 20, 20, 20, 0, 0, 0, 0, 0, 20, 20, 20, 0, 0, 0, 0, 0, 0, 0, 0, 0, 20, 20, 20, 20, 20, 20, 20, 20, 20, 20, 20, 20, 20, 20, 20, 20, 20, 20, 0, 0, 0, 0, 0, 2, 0, 0, 0, 0, 0, 0, 0, 0, 0, 2, 2, 2, 2, 0, 0, 0, 0, 0, 0, 2, 0, 0, 2, 2]
def k_placeB (i : Nat) : Int32 := kl_placeB.getD i 0
def kl_lowestBit : List Int32 := [0, 0, 1, 0, 1, 1, 1, 1, 1, 1, 0, 0, 0, 0, 0, 0, 0, 0, 0, 0, 0, 0, 0, 0, 0, 0, 0, 31, 31, 31, 31, 31, 31, 31, 31, 31, 31, 31, 31, 31, 31, 31, 31, 31, 31, 31, 31, 31, 2, 2, 2, 31, 0, 1, 0, 4, 0, 0, 0, 0, 31, 31, 31, 31, 1, 1, 1, 0, 2, 31, 31, 31, 31, 31, 2]
def k_lowestBit (i : Nat) : Int32 := kl_lowestBit.getD i 0
def kl_highestBit : List Int32 := [19, 19, 20, 11, 12, 12, 12, 12, 12, 12, 11, 11, 11, 11, 11, 11, 11, 11, 11, 11, 11, 11, 11, 11, 4, 4, 4, 0, 0, 0, 0, 0, 0, 0, 0, 0, 0, 0, 0, 0, 0, 0, 0, 0, 0, 0, 0, 0, 9, 6, 6, 0, 5, 11, 5, 9, 5, 4, 4, 5, 0, 0, 0, 0, 11, 8, 8, 4, 7, 0, 0, 0, 0, 0, 7]
def k_highestBit (i : Nat) : Int32 := kl_highestBit.getD i 0
def kl_title : List Nat := [13, 15, 17, 19, 21, 23, 25, 27, 29, 31, 33, 35, 37, 39, 41, 43, 45, 47, 49, 51, 53, 55, 57, 59, 61, 63, 65, 67, 69, 71, 73, 75, 77, 79, 81, 83, 85, 87, 89, 91, 93, 95, 97, 99, 101, 103, 105, 107, 109, 112, 115, 118, 121, 124, 127, 130, 133, 136, 138, 140, 142, 145, 147, 149, 151, 154, 157, 159, 161, 163, 166, 169, 172, 175, 177]
def k_title (i : Nat) : Nat := kl_title.getD i 0
theorem k_title_lt {i : Nat} (h : i < 75) : k_title i < 180 := (show ∀ i, i < 75 → k_title i < 180 by decide +kernel) i h
def kl_layout : List Nat := [14, 16, 18, 20, 22, 24, 26, 28, 30, 32, 34, 36, 38, 40, 42, 44, 46, 48, 50, 52, 54, 56, 58, 60, 62, 64, 66, 68, 70, 72, 74, 76, 78, 80, 82, 84, 86, 88, 90, 92, 94, 96, 98, 100, 102, 104, 106, 108, 110, 113, 116, 119, 122, 125, 128, 131, 134, 137, 139, 141, 143, 146, 148, 150, 152, 155, 158, 160, 162, 164, 167, 170, 173, 176, 178]
def k_layout (i : Nat) : Nat := kl_layout.getD i 0
theorem k_layout_lt {i : Nat} (h : i < 75) : k_layout i < 180 := (show ∀ i, i < 75 → k_layout i < 180 by decide +kernel) i h
def kl_slots : List Nat := [0, 0, 0, 0, 0, 0, 0, 0, 0, 0, 0, 0, 0, 0, 0, 0, 0, 0, 0, 0, 0, 0, 0, 0, 0, 0, 0, 0, 0, 0, 0, 0, 0, 0, 0, 0, 0, 0, 0, 0, 0, 0, 0, 0, 0, 0, 0, 0, 111, 114, 117, 120, 123, 126, 129, 132, 135, 123, 123, 123, 144, 144, 144, 144, 153, 156, 156, 123, 111, 165, 168, 171, 174, 144, 179]
def k_slots (i : Nat) : Nat := kl_slots.getD i 0
theorem k_slots_lt {i : Nat} (h : i < 75) : k_slots i < 180 := (show ∀ i, i < 75 → k_slots i < 180 by decide +kernel) i h
/-- one constant of the enum -/
def tbK (ad sk : Nat → Nat) (i : Nat) (A : Nat → Prop) (U : State) (H : Heap) : Prop :=
  va_O "CodeWords$Kind" (ad i) A U H ∧ va_OF "CodeWords$Kind" "pattern" "I" (.int (k_pattern i)) (ad i) A U H ∧ va_OF "CodeWords$Kind" "stands" "I" (.int (k_stands i)) (ad i) A U H ∧ va_OF "CodeWords$Kind" "parts" "I" (.int (k_parts i)) (ad i) A U H ∧ va_OF "CodeWords$Kind" "traits" "I" (.int (k_traits i)) (ad i) A U H ∧ va_OF "CodeWords$Kind" "ownMask" "I" (.int (k_ownMask i)) (ad i) A U H ∧ va_OF "CodeWords$Kind" "ownBits" "I" (.int (k_ownBits i)) (ad i) A U H ∧ va_OF "CodeWords$Kind" "placeD" "I" (.int (k_placeD i)) (ad i) A U H ∧ va_OF "CodeWords$Kind" "placeA" "I" (.int (k_placeA i)) (ad i) A U H ∧ va_OF "CodeWords$Kind" "placeB" "I" (.int (k_placeB i)) (ad i) A U H ∧ va_OF "CodeWords$Kind" "lowestBit" "I" (.int (k_lowestBit i)) (ad i) A U H ∧ va_OF "CodeWords$Kind" "highestBit" "I" (.int (k_highestBit i)) (ad i) A U H ∧ va_OF "CodeWords$Kind" "title" "Ljava/lang/String;" (.ref (sk (k_title i))) (ad i) A U H ∧ va_OF "CodeWords$Kind" "layout" "Ljava/lang/String;" (.ref (sk (k_layout i))) (ad i) A U H ∧ (48 ≤ i → va_OF "CodeWords$Kind" "slots" "Ljava/lang/String;" (.ref (sk (k_slots i))) (ad i) A U H)
/-- one String constant -/
def tbS (sk sv : Nat → Nat) (j : Nat) (A : Nat → Prop) (U : State) (H : Heap) : Prop :=
  va_O "java/lang/String" (sk j) A U H ∧ va_OF "java/lang/String" "coder" "B" (.int 0) (sk j) A U H ∧ va_OF "java/lang/String" "value" "[B" (.ref (sv j)) (sk j) A U H ∧ va_T .byte (sv j) (sL j) (fun q => .int (sC j q)) A U H
/-- all of the start that no method writes -/
def tb (ad sk sv : Nat → Nat) (tK : Nat) (A : Nat → Prop) (U : State) (H : Heap) : Prop :=
  va_Z "CodeWords" "KINDS" "[LCodeWords$Kind;" (.ref tK) A U H ∧ va_T (.object "CodeWords$Kind") tK 75 (fun j => .ref (ad j)) A U H ∧ (∀ i, i < 75 → tbK ad sk i A U H) ∧ (∀ j, j < 180 → tbS sk sv j A U H) ∧ va_Z "java/lang/String" "COMPACT_STRINGS" "Z" (.int 1) A U H ∧ va_Zq "jdk/internal/util/Preconditions" "SIOOBE_FORMATTER" "Ljava/util/function/BiFunction;" A U H ∧ vk_R "CodeWords" 23 "no such kind" (sk 7) U ∧ vk_R "CodeWords" 40 "a part is none that may be" (sk 8) U ∧ vk_R "CodeWords" 56 "an illegal word" (sk 9) U ∧ vk_R "CodeWords" 62 "no such part" (sk 10) U ∧ vk_R "CodeWords" 74 "no short word" (sk 11) U ∧ vk_R "CodeWords" 91 "no immediate that may be" (sk 12) U ∧ vk_R "CodeWords" 138 ".word " (sk 0) U ∧ vk_R "CodeWords" 146 ".half " (sk 2) U ∧ vk_R "CodeWords" 152 " " (sk 4) U ∧ vk_R "CodeWords" 154 ", " (sk 5) U ∧ vk_R "CodeWords" 160 "   dabdaIdO bO abPdX dP P  aP db a  dI dS bS dsIsI " (sk 3) U ∧ vk_R "CodeWords" 176 "zerora  sp  gp  tp  t0  t1  t2  s0  s1  a0  a1  a2  a3  a4  a5  a6  a7  s2  s3  s4  s5  s6  s7  s8  s9  s10 s11 t3  t4  t5  t6  " (sk 6) U ∧ vk_R "CodeWords" 178 "0x" (sk 1) U
theorem tbK.moved {ad sk : Nat → Nat} {i : Nat} {A : Nat → Prop} {u U : State} {H : Heap} (hvm : u.vm.Alike U.vm) (h : tbK ad sk i A u H) : tbK ad sk i A U H := by
  obtain ⟨q0, q1, q2, q3, q4, q5, q6, q7, q8, q9, q10, q11, q12, q13, qs⟩ := h
  exact ⟨va_O.moved hvm q0, va_OF.moved hvm q1, va_OF.moved hvm q2, va_OF.moved hvm q3, va_OF.moved hvm q4, va_OF.moved hvm q5, va_OF.moved hvm q6, va_OF.moved hvm q7, va_OF.moved hvm q8, va_OF.moved hvm q9, va_OF.moved hvm q10, va_OF.moved hvm q11, va_OF.moved hvm q12, va_OF.moved hvm q13, fun h48 => va_OF.moved hvm (qs h48)⟩
theorem tbK.kept {ad sk : Nat → Nat} {i : Nat} {A : Nat → Prop} {U : State} {H H1 : Heap} (hq : ∀ a : Nat, a < H.size → ¬ A a → H1[a]? = H[a]?) (h : tbK ad sk i A U H) : tbK ad sk i A U H1 := by
  obtain ⟨q0, q1, q2, q3, q4, q5, q6, q7, q8, q9, q10, q11, q12, q13, qs⟩ := h
  exact ⟨va_O.kept q0 hq, va_OF.kept q1 hq, va_OF.kept q2 hq, va_OF.kept q3 hq, va_OF.kept q4 hq, va_OF.kept q5 hq, va_OF.kept q6 hq, va_OF.kept q7 hq, va_OF.kept q8 hq, va_OF.kept q9 hq, va_OF.kept q10 hq, va_OF.kept q11 hq, va_OF.kept q12 hq, va_OF.kept q13 hq, fun h48 => va_OF.kept (qs h48) hq⟩
theorem tbK.narrow {ad sk : Nat → Nat} {i : Nat} {A B : Nat → Prop} {U : State} {H : Heap} (hAB : ∀ q, B q → A q) (h : tbK ad sk i A U H) : tbK ad sk i B U H := by
  obtain ⟨q0, q1, q2, q3, q4, q5, q6, q7, q8, q9, q10, q11, q12, q13, qs⟩ := h
  exact ⟨va_O.narrow q0 hAB, va_OF.narrow q1 hAB, va_OF.narrow q2 hAB, va_OF.narrow q3 hAB, va_OF.narrow q4 hAB, va_OF.narrow q5 hAB, va_OF.narrow q6 hAB, va_OF.narrow q7 hAB, va_OF.narrow q8 hAB, va_OF.narrow q9 hAB, va_OF.narrow q10 hAB, va_OF.narrow q11 hAB, va_OF.narrow q12 hAB, va_OF.narrow q13 hAB, fun h48 => va_OF.narrow (qs h48) hAB⟩
theorem tbS.moved {sk sv : Nat → Nat} {j : Nat} {A : Nat → Prop} {u U : State} {H : Heap} (hvm : u.vm.Alike U.vm) (h : tbS sk sv j A u H) : tbS sk sv j A U H := by
  obtain ⟨q0, q1, q2, q3⟩ := h
  exact ⟨va_O.moved hvm q0, va_OF.moved hvm q1, va_OF.moved hvm q2, va_T.moved hvm q3⟩
theorem tbS.kept {sk sv : Nat → Nat} {j : Nat} {A : Nat → Prop} {U : State} {H H1 : Heap} (hq : ∀ a : Nat, a < H.size → ¬ A a → H1[a]? = H[a]?) (h : tbS sk sv j A U H) : tbS sk sv j A U H1 := by
  obtain ⟨q0, q1, q2, q3⟩ := h
  exact ⟨va_O.kept q0 hq, va_OF.kept q1 hq, va_OF.kept q2 hq, va_T.kept q3 hq⟩
theorem tbS.narrow {sk sv : Nat → Nat} {j : Nat} {A B : Nat → Prop} {U : State} {H : Heap} (hAB : ∀ q, B q → A q) (h : tbS sk sv j A U H) : tbS sk sv j B U H := by
  obtain ⟨q0, q1, q2, q3⟩ := h
  exact ⟨va_O.narrow q0 hAB, va_OF.narrow q1 hAB, va_OF.narrow q2 hAB, va_T.narrow q3 hAB⟩
theorem tb.at {ad sk sv : Nat → Nat} {tK : Nat} {A B : Nat → Prop} {s U : State} {H : Heap} {locs : List Loc} (h : tb ad sk sv tK A s s.heap) (hS : va_S A s.heap H locs) (hU : U.heap = H) (hW : s.WarmedH U.vm) (hAB : ∀ q, B q → A q) : tb ad sk sv tK B U U.heap := by
  obtain ⟨h1, h2, h3, h4, h5, h6, r0, r1, r2, r3, r4, r5, r6, r7, r8, r9, r10, r11, r12⟩ := h
  have hq : ∀ a : Nat, a < s.heap.size → ¬ A a → H[a]? = s.heap[a]? := hS.2.1
  have hv := hW.alike
  rw [hU]
  exact ⟨va_Z.moved hv (va_Z.narrow (va_Z.kept h1 hq) hAB), va_T.moved hv (va_T.narrow (va_T.kept h2 hq) hAB), fun i hi => tbK.moved hv (tbK.narrow hAB (tbK.kept hq (h3 i hi))), fun j hj => tbS.moved hv (tbS.narrow hAB (tbS.kept hq (h4 j hj))), va_Z.moved hv (va_Z.narrow (va_Z.kept h5 hq) hAB), va_Zq.moved hv (va_Zq.narrow (va_Zq.kept h6 hq) hAB), vk_R.warm hW r0, vk_R.warm hW r1, vk_R.warm hW r2, vk_R.warm hW r3, vk_R.warm hW r4, vk_R.warm hW r5, vk_R.warm hW r6, vk_R.warm hW r7, vk_R.warm hW r8, vk_R.warm hW r9, vk_R.warm hW r10, vk_R.warm hW r11, vk_R.warm hW r12⟩
theorem tb.call {ad sk sv : Nat → Nat} {tK : Nat} {B : Nat → Prop} {U : State} {g : JFrame} {mk : MethodId} {a : Array Value} (h : tb ad sk sv tK B U U.heap) : tb ad sk sv tK B (U.calling g mk a) (U.calling g mk a).heap := by
  obtain ⟨h1, h2, h3, h4, h5, h6, r0, r1, r2, r3, r4, r5, r6, r7, r8, r9, r10, r11, r12⟩ := h
  have hv : U.vm.Alike (U.calling g mk a).vm := Vm.Alike.refl U.vm
  exact ⟨va_Z.moved hv h1, va_T.moved hv h2, fun i hi => tbK.moved hv (h3 i hi), fun j hj => tbS.moved hv (h4 j hj), va_Z.moved hv h5, va_Zq.moved hv h6, vk_R.same rfl r0, vk_R.same rfl r1, vk_R.same rfl r2, vk_R.same rfl r3, vk_R.same rfl r4, vk_R.same rfl r5, vk_R.same rfl r6, vk_R.same rfl r7, vk_R.same rfl r8, vk_R.same rfl r9, vk_R.same rfl r10, vk_R.same rfl r11, vk_R.same rfl r12⟩
theorem tb_pattern {ad sk sv : Nat → Nat} {tK i : Nat} {A : Nat → Prop} {U : State} {H : Heap} (h : tb ad sk sv tK A U H) (hi : i < 75) : va_OF "CodeWords$Kind" "pattern" "I" (.int (k_pattern i)) (ad i) A U H := (h.2.2.1 i hi).2.1
theorem tb_stands {ad sk sv : Nat → Nat} {tK i : Nat} {A : Nat → Prop} {U : State} {H : Heap} (h : tb ad sk sv tK A U H) (hi : i < 75) : va_OF "CodeWords$Kind" "stands" "I" (.int (k_stands i)) (ad i) A U H := (h.2.2.1 i hi).2.2.1
theorem tb_parts {ad sk sv : Nat → Nat} {tK i : Nat} {A : Nat → Prop} {U : State} {H : Heap} (h : tb ad sk sv tK A U H) (hi : i < 75) : va_OF "CodeWords$Kind" "parts" "I" (.int (k_parts i)) (ad i) A U H := (h.2.2.1 i hi).2.2.2.1
theorem tb_traits {ad sk sv : Nat → Nat} {tK i : Nat} {A : Nat → Prop} {U : State} {H : Heap} (h : tb ad sk sv tK A U H) (hi : i < 75) : va_OF "CodeWords$Kind" "traits" "I" (.int (k_traits i)) (ad i) A U H := (h.2.2.1 i hi).2.2.2.2.1
theorem tb_ownMask {ad sk sv : Nat → Nat} {tK i : Nat} {A : Nat → Prop} {U : State} {H : Heap} (h : tb ad sk sv tK A U H) (hi : i < 75) : va_OF "CodeWords$Kind" "ownMask" "I" (.int (k_ownMask i)) (ad i) A U H := (h.2.2.1 i hi).2.2.2.2.2.1
theorem tb_ownBits {ad sk sv : Nat → Nat} {tK i : Nat} {A : Nat → Prop} {U : State} {H : Heap} (h : tb ad sk sv tK A U H) (hi : i < 75) : va_OF "CodeWords$Kind" "ownBits" "I" (.int (k_ownBits i)) (ad i) A U H := (h.2.2.1 i hi).2.2.2.2.2.2.1
theorem tb_placeD {ad sk sv : Nat → Nat} {tK i : Nat} {A : Nat → Prop} {U : State} {H : Heap} (h : tb ad sk sv tK A U H) (hi : i < 75) : va_OF "CodeWords$Kind" "placeD" "I" (.int (k_placeD i)) (ad i) A U H := (h.2.2.1 i hi).2.2.2.2.2.2.2.1
theorem tb_placeA {ad sk sv : Nat → Nat} {tK i : Nat} {A : Nat → Prop} {U : State} {H : Heap} (h : tb ad sk sv tK A U H) (hi : i < 75) : va_OF "CodeWords$Kind" "placeA" "I" (.int (k_placeA i)) (ad i) A U H := (h.2.2.1 i hi).2.2.2.2.2.2.2.2.1
theorem tb_placeB {ad sk sv : Nat → Nat} {tK i : Nat} {A : Nat → Prop} {U : State} {H : Heap} (h : tb ad sk sv tK A U H) (hi : i < 75) : va_OF "CodeWords$Kind" "placeB" "I" (.int (k_placeB i)) (ad i) A U H := (h.2.2.1 i hi).2.2.2.2.2.2.2.2.2.1
theorem tb_lowestBit {ad sk sv : Nat → Nat} {tK i : Nat} {A : Nat → Prop} {U : State} {H : Heap} (h : tb ad sk sv tK A U H) (hi : i < 75) : va_OF "CodeWords$Kind" "lowestBit" "I" (.int (k_lowestBit i)) (ad i) A U H := (h.2.2.1 i hi).2.2.2.2.2.2.2.2.2.2.1
theorem tb_highestBit {ad sk sv : Nat → Nat} {tK i : Nat} {A : Nat → Prop} {U : State} {H : Heap} (h : tb ad sk sv tK A U H) (hi : i < 75) : va_OF "CodeWords$Kind" "highestBit" "I" (.int (k_highestBit i)) (ad i) A U H := (h.2.2.1 i hi).2.2.2.2.2.2.2.2.2.2.2.1
theorem tb_title {ad sk sv : Nat → Nat} {tK i : Nat} {A : Nat → Prop} {U : State} {H : Heap} (h : tb ad sk sv tK A U H) (hi : i < 75) : va_OF "CodeWords$Kind" "title" "Ljava/lang/String;" (.ref (sk (k_title i))) (ad i) A U H := (h.2.2.1 i hi).2.2.2.2.2.2.2.2.2.2.2.2.1
theorem tb_layout {ad sk sv : Nat → Nat} {tK i : Nat} {A : Nat → Prop} {U : State} {H : Heap} (h : tb ad sk sv tK A U H) (hi : i < 75) : va_OF "CodeWords$Kind" "layout" "Ljava/lang/String;" (.ref (sk (k_layout i))) (ad i) A U H := (h.2.2.1 i hi).2.2.2.2.2.2.2.2.2.2.2.2.2.1
theorem tb_slots {ad sk sv : Nat → Nat} {tK i : Nat} {A : Nat → Prop} {U : State} {H : Heap} (h : tb ad sk sv tK A U H) (hi : i < 75) (h48 : 48 ≤ i) : va_OF "CodeWords$Kind" "slots" "Ljava/lang/String;" (.ref (sk (k_slots i))) (ad i) A U H := (h.2.2.1 i hi).2.2.2.2.2.2.2.2.2.2.2.2.2.2 h48
theorem tb_so {ad sk sv : Nat → Nat} {tK j : Nat} {A : Nat → Prop} {U : State} {H : Heap} (h : tb ad sk sv tK A U H) (hj : j < 180) : va_O "java/lang/String" (sk j) A U H := (h.2.2.2.1 j hj).1
theorem tb_coder {ad sk sv : Nat → Nat} {tK j : Nat} {A : Nat → Prop} {U : State} {H : Heap} (h : tb ad sk sv tK A U H) (hj : j < 180) : va_OF "java/lang/String" "coder" "B" (.int 0) (sk j) A U H := (h.2.2.2.1 j hj).2.1
theorem tb_value {ad sk sv : Nat → Nat} {tK j : Nat} {A : Nat → Prop} {U : State} {H : Heap} (h : tb ad sk sv tK A U H) (hj : j < 180) : va_OF "java/lang/String" "value" "[B" (.ref (sv j)) (sk j) A U H := (h.2.2.2.1 j hj).2.2.1
theorem tb_bytes {ad sk sv : Nat → Nat} {tK j : Nat} {A : Nat → Prop} {U : State} {H : Heap} (h : tb ad sk sv tK A U H) (hj : j < 180) : va_T .byte (sv j) (sL j) (fun q => .int (sC j q)) A U H := (h.2.2.2.1 j hj).2.2.2
theorem tb_cs {ad sk sv : Nat → Nat} {tK : Nat} {A : Nat → Prop} {U : State} {H : Heap} (h : tb ad sk sv tK A U H) : va_Z "java/lang/String" "COMPACT_STRINGS" "Z" (.int 1) A U H := h.2.2.2.2.1
theorem tb_fm {ad sk sv : Nat → Nat} {tK : Nat} {A : Nat → Prop} {U : State} {H : Heap} (h : tb ad sk sv tK A U H) : va_Zq "jdk/internal/util/Preconditions" "SIOOBE_FORMATTER" "Ljava/util/function/BiFunction;" A U H := h.2.2.2.2.2.1
theorem tb_r23 {ad sk sv : Nat → Nat} {tK : Nat} {A : Nat → Prop} {U : State} {H : Heap} (h : tb ad sk sv tK A U H) : vk_R "CodeWords" 23 "no such kind" (sk 7) U := h.2.2.2.2.2.2.1
theorem tb_r40 {ad sk sv : Nat → Nat} {tK : Nat} {A : Nat → Prop} {U : State} {H : Heap} (h : tb ad sk sv tK A U H) : vk_R "CodeWords" 40 "a part is none that may be" (sk 8) U := h.2.2.2.2.2.2.2.1
theorem tb_r56 {ad sk sv : Nat → Nat} {tK : Nat} {A : Nat → Prop} {U : State} {H : Heap} (h : tb ad sk sv tK A U H) : vk_R "CodeWords" 56 "an illegal word" (sk 9) U := h.2.2.2.2.2.2.2.2.1
theorem tb_r62 {ad sk sv : Nat → Nat} {tK : Nat} {A : Nat → Prop} {U : State} {H : Heap} (h : tb ad sk sv tK A U H) : vk_R "CodeWords" 62 "no such part" (sk 10) U := h.2.2.2.2.2.2.2.2.2.1
theorem tb_r74 {ad sk sv : Nat → Nat} {tK : Nat} {A : Nat → Prop} {U : State} {H : Heap} (h : tb ad sk sv tK A U H) : vk_R "CodeWords" 74 "no short word" (sk 11) U := h.2.2.2.2.2.2.2.2.2.2.1
theorem tb_r91 {ad sk sv : Nat → Nat} {tK : Nat} {A : Nat → Prop} {U : State} {H : Heap} (h : tb ad sk sv tK A U H) : vk_R "CodeWords" 91 "no immediate that may be" (sk 12) U := h.2.2.2.2.2.2.2.2.2.2.2.1
theorem tb_r138 {ad sk sv : Nat → Nat} {tK : Nat} {A : Nat → Prop} {U : State} {H : Heap} (h : tb ad sk sv tK A U H) : vk_R "CodeWords" 138 ".word " (sk 0) U := h.2.2.2.2.2.2.2.2.2.2.2.2.1
theorem tb_r146 {ad sk sv : Nat → Nat} {tK : Nat} {A : Nat → Prop} {U : State} {H : Heap} (h : tb ad sk sv tK A U H) : vk_R "CodeWords" 146 ".half " (sk 2) U := h.2.2.2.2.2.2.2.2.2.2.2.2.2.1
theorem tb_r152 {ad sk sv : Nat → Nat} {tK : Nat} {A : Nat → Prop} {U : State} {H : Heap} (h : tb ad sk sv tK A U H) : vk_R "CodeWords" 152 " " (sk 4) U := h.2.2.2.2.2.2.2.2.2.2.2.2.2.2.1
theorem tb_r154 {ad sk sv : Nat → Nat} {tK : Nat} {A : Nat → Prop} {U : State} {H : Heap} (h : tb ad sk sv tK A U H) : vk_R "CodeWords" 154 ", " (sk 5) U := h.2.2.2.2.2.2.2.2.2.2.2.2.2.2.2.1
theorem tb_r160 {ad sk sv : Nat → Nat} {tK : Nat} {A : Nat → Prop} {U : State} {H : Heap} (h : tb ad sk sv tK A U H) : vk_R "CodeWords" 160 "   dabdaIdO bO abPdX dP P  aP db a  dI dS bS dsIsI " (sk 3) U := h.2.2.2.2.2.2.2.2.2.2.2.2.2.2.2.2.1
theorem tb_r176 {ad sk sv : Nat → Nat} {tK : Nat} {A : Nat → Prop} {U : State} {H : Heap} (h : tb ad sk sv tK A U H) : vk_R "CodeWords" 176 "zerora  sp  gp  tp  t0  t1  t2  s0  s1  a0  a1  a2  a3  a4  a5  a6  a7  s2  s3  s4  s5  s6  s7  s8  s9  s10 s11 t3  t4  t5  t6  " (sk 6) U := h.2.2.2.2.2.2.2.2.2.2.2.2.2.2.2.2.2.1
theorem tb_r178 {ad sk sv : Nat → Nat} {tK : Nat} {A : Nat → Prop} {U : State} {H : Heap} (h : tb ad sk sv tK A U H) : vk_R "CodeWords" 178 "0x" (sk 1) U := h.2.2.2.2.2.2.2.2.2.2.2.2.2.2.2.2.2.2
/-- the object of a constant, of a String: its class, in the heap that a call meets -/
theorem va_O.recv {E : String} {t : Nat} {A : Nat → Prop} {s : State} {H : Heap} {locs : List Loc} (h : va_O E t A s s.heap) (hS : va_S A s.heap H locs) : ∃ cell : Cell, H[t]? = some cell ∧ cell.vm.isStatics = false ∧ s.vm.findClass E = some cell.cls := by
  obtain ⟨cell, h1, h2, h3, h4⟩ := h
  have hlt : t < s.heap.size := (Array.getElem?_eq_some_iff.mp h1).1
  exact ⟨cell, (hS.2.1 t hlt h4).trans h1, h2, h3⟩
theorem tb_recvK {ad sk sv : Nat → Nat} {tK i : Nat} {A : Nat → Prop} {s : State} {H : Heap} {locs : List Loc} (h : tb ad sk sv tK A s s.heap) (hi : i < 75) (hS : va_S A s.heap H locs) : ∃ cell : Cell, H[ad i]? = some cell ∧ cell.vm.isStatics = false ∧ s.vm.findClass "CodeWords$Kind" = some cell.cls := va_O.recv (h.2.2.1 i hi).1 hS
theorem tb_recvS {ad sk sv : Nat → Nat} {tK j : Nat} {A : Nat → Prop} {s : State} {H : Heap} {locs : List Loc} (h : tb ad sk sv tK A s s.heap) (hj : j < 180) (hS : va_S A s.heap H locs) : ∃ cell : Cell, H[sk j]? = some cell ∧ cell.vm.isStatics = false ∧ s.vm.findClass "java/lang/String" = some cell.cls := va_O.recv (h.2.2.2.1 j hj).1 hS
end
section
theorem ju_zq {C n d : String} {A : Nat → Prop} {U : State} {H : Heap} (h : va_Zq C n d A U H) : ∃ o : Value, va_Z C n d o A U H ∧ o.category = 1 := h.elim (fun z => ⟨_, z, rfl⟩) (fun ⟨_, z⟩ => ⟨_, z, rfl⟩)
theorem ju_callv0 {p : Program} {l : Launch} {e : Env} {R : Room} {s : State} {m : MethodId} {args : Array Value} {below : List Frame} {meth : Method} {c : Code} {H : Heap} {locs : List Loc} {cells slots : Nat} {Q : State → Prop} {pc : Nat} {ls : Array Slot} {rest st0 : List Value} {a : Array Value} {post : Unit → Prop} (hr : CallRun p l e R s m args below meth c H locs cells slots 0 0 (F0 m pc ls st0) rest (va_Sv post a) (fun _ => False))
    (kk : W p l e R s m args below meth c H locs cells slots Q (F0 m (pc + 3) ls rest)) : W p l e R s m args below meth c H locs cells slots Q (F0 m pc ls st0) := va_csv hr (fun _ => kk)
theorem ju_nc (x : Int32) : narrow .char (.int (ju_i2c x)) = .int (ju_i2c x) := pk_nc x
def f_S_coder (i : Nat) : Option Int32 :=
  some (0)
set_option maxHeartbeats 4000000 in
set_option maxRecDepth 100000 in
theorem c_S_coder (l : Launch) {ad sk sv : Nat → Nat} {tK : Nat} (i : Nat) (hi : i < 180) (r : Int32) (hf : f_S_coder i = some r) : Met l y_S_coder (Cond.code y_S_coder b_S_coder 1 (Option.some FieldType.byte) :: aw) ({ frames := 0, cells := 0, slots := 0, locals := 0 } : Room) (va_Pc [.ref (sk i)] (fun U => tb ad sk sv tK (fun _ => False) U U.heap)) (QcRead r) 0 0 (fun _ => False) := by
  refine Met.ofW (cc := b_S_coder) (maxL := 1) (ret := (Option.some FieldType.byte)) (by decide) rfl ?_
  intro p e s m args below meth c s₁ B hml hv
  obtain ⟨rfl, hT⟩ := hv
  have hx := B.exec
  have hb := B.bytes
  have hr := B.returns
  have hts := atoms_spec (ws := (Cond.code y_S_coder b_S_coder 1 (Option.some FieldType.byte) :: aw)) B.pre
  have ht : ∀ {w : Cond}, w ∈ aw → w.before ([.ref (sk i)] : List Value).toArray s = true := fun h => hts _ (List.mem_cons_of_mem _ h)
  have hown : s.vm.findClass "java/lang/String" = some m.cls := findClass_of_methodNamed B.named
  have hlocks := B.notSynchronized
  have hS : va_S (fun _ => False) s.heap s.heap [] := va_S.rf
  have hl := lv_entry ([.ref (sk i)]) (n := 1) (Nat.le_of_ble_eq_true rfl)
  rw [lg_entry_eq]
  generalize (lg_sl ([.ref (sk i)]) ++ List.replicate (1 - (lg_sl ([.ref (sk i)])).length) Slot.unset).toArray = ls at hl ⊢
  have hl : lv_has ls 1 [(0, .ref (sk i))] := hl
  rw [f_S_coder] at hf
  refine va_gets (v := .int (1)) hx hb (tb_cs hT) hS hown (ht aw_69) (fun _ h9 => h9) d_S_coder_0 ?_
  refine lv_if_eq (tgt := 13) hx hb d_S_coder_3 (by decide) (fun c_1 => absurd c_1 (by decide)) (fun c_1 => ?_)
  refine lv_aload_n hx hb d_S_coder_6 rfl (lv_at hl 0 rfl) ?_
  refine vk_getf (v := .int (0)) hx hb (tb_coder hT hi) hS hown (ht aw_765) (fun _ h9 => h9) d_S_coder_7 ?_
  refine lv_goto (tgt := 14) hx hb d_S_coder_10 (by decide) ?_
  exact W.zret (v := 0) hx hb hr rfl (fun t ht hW => ⟨congrArg (fun z => Outcome.returned (some (Value.int z))) (Option.some.inj hf), ht⟩) (fun q h => nomatch h) d_S_coder_14

def f_S_length (i : Nat) : Option Int32 :=
  (f_S_coder i).bind fun r_1 => some ((nI (sL i)) >>> (r_1 &&& 31))
set_option maxHeartbeats 4000000 in
set_option maxRecDepth 100000 in
theorem c_S_length (l : Launch) {ad sk sv : Nat → Nat} {tK : Nat} (i : Nat) (hi : i < 180) (r : Int32) (hf : f_S_length i = some r) : Met l y_S_length (Cond.code y_S_length b_S_length 1 (Option.some FieldType.int) :: aw) ({ frames := 1, cells := 0, slots := 0, locals := 20 } : Room) (va_Pc [.ref (sk i)] (fun U => tb ad sk sv tK (fun _ => False) U U.heap)) (QcRead r) 0 0 (fun _ => False) := by
  refine Met.ofW (cc := b_S_length) (maxL := 1) (ret := (Option.some FieldType.int)) (by decide) rfl ?_
  intro p e s m args below meth c s₁ B hml hv
  obtain ⟨rfl, hT⟩ := hv
  have hx := B.exec
  have hb := B.bytes
  have hr := B.returns
  have hts := atoms_spec (ws := (Cond.code y_S_length b_S_length 1 (Option.some FieldType.int) :: aw)) B.pre
  have ht : ∀ {w : Cond}, w ∈ aw → w.before ([.ref (sk i)] : List Value).toArray s = true := fun h => hts _ (List.mem_cons_of_mem _ h)
  have hown : s.vm.findClass "java/lang/String" = some m.cls := findClass_of_methodNamed B.named
  have hlocks := B.notSynchronized
  have hS : va_S (fun _ => False) s.heap s.heap [] := va_S.rf
  have hl := lv_entry ([.ref (sk i)]) (n := 1) (Nat.le_of_ble_eq_true rfl)
  rw [lg_entry_eq]
  generalize (lg_sl ([.ref (sk i)]) ++ List.replicate (1 - (lg_sl ([.ref (sk i)])).length) Slot.unset).toArray = ls at hl ⊢
  have hl : lv_has ls 1 [(0, .ref (sk i))] := hl
  rw [f_S_length] at hf
  refine lv_aload_n hx hb d_S_length_0 rfl (lv_at hl 0 rfl) ?_
  refine vk_getf (v := .ref (sv i)) hx hb (tb_value hT hi) hS hown (ht aw_764) (fun _ h9 => h9) d_S_length_1 ?_
  refine va_tlen (v := nI (sL i)) hx hb (tb_bytes hT hi) hS rfl d_S_length_4 ?_
  refine lv_aload_n hx hb d_S_length_5 rfl (lv_at hl 0 rfl) ?_
  obtain ⟨r_1, g_2, hf⟩ := Option.bind_eq_some_iff.mp hf
  refine ju_calli (W.runV (As := []) (rest := [.int (nI (sL i))]) ⟨hx, hb, hml, hown, hts⟩ (c_S_coder l (ad := ad) (sk := sk) (sv := sv) (tK := tK)  i hi r_1 g_2) (cwV 0 hts (aw_V aw_65 aw_66 aw_67 aw_7 aw_68) rfl rfl rfl (by decide +kernel) ⟨Nat.le_of_ble_eq_true rfl, Nat.le_of_ble_eq_true rfl⟩) ⟨fun a U g mk q => ⟨q.1, q.2.call⟩, tb_recvS hT hi hS, fun U hU hW => ⟨rfl, hT.at hS hU hW (fun _ z => z.elim)⟩⟩ rfl rfl hl.1 rfl (lv_room (Nat.le_of_ble_eq_true rfl)) d_S_length_6 ⟨Nat.le_refl _, Nat.le_refl _⟩) ?_
  refine lv_ishr hx hb d_S_length_9 ?_
  exact W.iret (v := (nI (sL i)) >>> (r_1 &&& 31)) hx hb hr (fun t ht hW => ⟨congrArg (fun z => Outcome.returned (some (Value.int z))) (Option.some.inj hf), ht⟩) (fun q h => nomatch h) d_S_length_10

def f_S_isLatin1 (i : Nat) : Option Bool :=
  some true
set_option maxHeartbeats 4000000 in
set_option maxRecDepth 100000 in
theorem c_S_isLatin1 (l : Launch) {ad sk sv : Nat → Nat} {tK : Nat} (i : Nat) (hi : i < 180) (r : Bool) (hf : f_S_isLatin1 i = some r) : Met l y_S_isLatin1 (Cond.code y_S_isLatin1 b_S_isLatin1 1 (Option.some FieldType.boolean) :: aw) ({ frames := 0, cells := 0, slots := 0, locals := 0 } : Room) (va_Pc [.ref (sk i)] (fun U => tb ad sk sv tK (fun _ => False) U U.heap)) (QcRead (bI r)) 0 0 (fun _ => False) := by
  refine Met.ofW (cc := b_S_isLatin1) (maxL := 1) (ret := (Option.some FieldType.boolean)) (by decide) rfl ?_
  intro p e s m args below meth c s₁ B hml hv
  obtain ⟨rfl, hT⟩ := hv
  have hx := B.exec
  have hb := B.bytes
  have hr := B.returns
  have hts := atoms_spec (ws := (Cond.code y_S_isLatin1 b_S_isLatin1 1 (Option.some FieldType.boolean) :: aw)) B.pre
  have ht : ∀ {w : Cond}, w ∈ aw → w.before ([.ref (sk i)] : List Value).toArray s = true := fun h => hts _ (List.mem_cons_of_mem _ h)
  have hown : s.vm.findClass "java/lang/String" = some m.cls := findClass_of_methodNamed B.named
  have hlocks := B.notSynchronized
  have hS : va_S (fun _ => False) s.heap s.heap [] := va_S.rf
  have hl := lv_entry ([.ref (sk i)]) (n := 1) (Nat.le_of_ble_eq_true rfl)
  rw [lg_entry_eq]
  generalize (lg_sl ([.ref (sk i)]) ++ List.replicate (1 - (lg_sl ([.ref (sk i)])).length) Slot.unset).toArray = ls at hl ⊢
  have hl : lv_has ls 1 [(0, .ref (sk i))] := hl
  rw [f_S_isLatin1] at hf
  refine va_gets (v := .int (1)) hx hb (tb_cs hT) hS hown (ht aw_69) (fun _ h9 => h9) d_S_isLatin1_0 ?_
  refine lv_if_eq (tgt := 17) hx hb d_S_isLatin1_3 (by decide) (fun c_1 => absurd c_1 (by decide)) (fun c_1 => ?_)
  refine lv_aload_n hx hb d_S_isLatin1_6 rfl (lv_at hl 0 rfl) ?_
  refine vk_getf (v := .int (0)) hx hb (tb_coder hT hi) hS hown (ht aw_765) (fun _ h9 => h9) d_S_isLatin1_7 ?_
  refine lv_if_ne (tgt := 17) hx hb d_S_isLatin1_10 (by decide) (fun c_2 => absurd c_2 (by decide)) (fun c_2 => ?_)
  refine lv_iconst (v := 1) hx hb d_S_isLatin1_13 (by decide) ?_
  refine lv_goto (tgt := 18) hx hb d_S_isLatin1_14 (by decide) ?_
  exact W.zret (v := 1) hx hb hr (ju_nz true) (fun t ht hW => ⟨congrArg (fun z => Outcome.returned (some (Value.int (bI z)))) (Option.some.inj hf), ht⟩) (fun q h => nomatch h) d_S_isLatin1_18

def f_Pq_checkIndex (a0 : Int32) (a1 : Int32) : Option Int32 :=
  if a0 < 0 then (none) else (if a0 < a1 then (some (a0)) else (none))
set_option maxHeartbeats 4000000 in
set_option maxRecDepth 100000 in
theorem c_Pq_checkIndex (l : Launch) {ad sk sv : Nat → Nat} {tK : Nat} (a2 : Value) (a0 : Int32) (a1 : Int32) (ha2 : a2.category = 1) (r : Int32) (hf : f_Pq_checkIndex a0 a1 = some r) : Met l y_Pq_checkIndex (Cond.code y_Pq_checkIndex b_Pq_checkIndex 3 (Option.some FieldType.int) :: aw) ({ frames := 0, cells := 0, slots := 0, locals := 0 } : Room) (va_Pc [.int (a0), .int (a1), a2] (fun U => tb ad sk sv tK (fun _ => False) U U.heap)) (QcRead r) 0 0 (fun _ => False) := by
  refine Met.ofW (cc := b_Pq_checkIndex) (maxL := 3) (ret := (Option.some FieldType.int)) (by decide) rfl ?_
  intro p e s m args below meth c s₁ B hml hv
  obtain ⟨rfl, hT⟩ := hv
  have hx := B.exec
  have hb := B.bytes
  have hr := B.returns
  have hts := atoms_spec (ws := (Cond.code y_Pq_checkIndex b_Pq_checkIndex 3 (Option.some FieldType.int) :: aw)) B.pre
  have ht : ∀ {w : Cond}, w ∈ aw → w.before ([.int (a0), .int (a1), a2] : List Value).toArray s = true := fun h => hts _ (List.mem_cons_of_mem _ h)
  have hown : s.vm.findClass "jdk/internal/util/Preconditions" = some m.cls := findClass_of_methodNamed B.named
  have hlocks := B.notSynchronized
  have hS : va_S (fun _ => False) s.heap s.heap [] := va_S.rf
  have hl := lv_entry ([.int (a0), .int (a1), a2]) (n := 3) (by have h9 : ∀ x : Int32, (Value.int x).category = 1 := fun _ => rfl; simp [lg_sl, h9, show a2.category = 1 from ha2])
  rw [lg_entry_eq]
  generalize (lg_sl ([.int (a0), .int (a1), a2]) ++ List.replicate (3 - (lg_sl ([.int (a0), .int (a1), a2])).length) Slot.unset).toArray = ls at hl ⊢
  have hl : lv_has ls 3 [(0, .int (a0)), (1, .int (a1)), (2, a2)] := hl
  rw [f_Pq_checkIndex] at hf
  refine lv_iload_n hx hb d_Pq_checkIndex_0 rfl (lv_at hl 0 rfl) ?_
  refine lv_if_lt (tgt := 9) hx hb d_Pq_checkIndex_1 (by decide) (fun c_1 => ?_) (fun c_1 => ?_)
  · replace hf := (if_pos c_1).symm.trans hf
    cases hf
  · replace hf := (if_neg c_1).symm.trans hf
    refine lv_iload_n hx hb d_Pq_checkIndex_4 rfl (lv_at hl 0 rfl) ?_
    refine lv_iload_n hx hb d_Pq_checkIndex_5 rfl (lv_at hl 1 rfl) ?_
    refine lv_icmp_lt (tgt := 16) hx hb d_Pq_checkIndex_6 (by decide) (fun c_2 => ?_) (fun c_2 => ?_)
    · replace hf := (if_pos c_2).symm.trans hf
      refine lv_iload_n hx hb d_Pq_checkIndex_16 rfl (lv_at hl 0 rfl) ?_
      exact W.iret (v := a0) hx hb hr (fun t ht hW => ⟨congrArg (fun z => Outcome.returned (some (Value.int z))) (Option.some.inj hf), ht⟩) (fun q h => nomatch h) d_Pq_checkIndex_17
    · replace hf := (if_neg c_2).symm.trans hf
      cases hf

def f_S_checkIndex (a0 : Int32) (a1 : Int32) : Option Unit :=
  (f_Pq_checkIndex a0 a1).bind fun r_2 => some ()
set_option maxHeartbeats 4000000 in
set_option maxRecDepth 100000 in
theorem c_S_checkIndex (l : Launch) {ad sk sv : Nat → Nat} {tK : Nat} (a0 : Int32) (a1 : Int32)  (r : Unit) (hf : f_S_checkIndex a0 a1 = some r) : Met l y_S_checkIndex (Cond.code y_S_checkIndex b_S_checkIndex 2 (Option.none : Option FieldType) :: aw) ({ frames := 1, cells := 0, slots := 0, locals := 22 } : Room) (va_Pc [.int (a0), .int (a1)] (fun U => tb ad sk sv tK (fun _ => False) U U.heap)) (va_Sv (fun _ => True)) 0 0 (fun _ => False) := by
  refine Met.ofW (cc := b_S_checkIndex) (maxL := 2) (ret := (Option.none : Option FieldType)) (by decide) rfl ?_
  intro p e s m args below meth c s₁ B hml hv
  obtain ⟨rfl, hT⟩ := hv
  have hx := B.exec
  have hb := B.bytes
  have hr := B.returns
  have hts := atoms_spec (ws := (Cond.code y_S_checkIndex b_S_checkIndex 2 (Option.none : Option FieldType) :: aw)) B.pre
  have ht : ∀ {w : Cond}, w ∈ aw → w.before ([.int (a0), .int (a1)] : List Value).toArray s = true := fun h => hts _ (List.mem_cons_of_mem _ h)
  have hown : s.vm.findClass "java/lang/String" = some m.cls := findClass_of_methodNamed B.named
  have hlocks := B.notSynchronized
  have hS : va_S (fun _ => False) s.heap s.heap [] := va_S.rf
  have hl := lv_entry ([.int (a0), .int (a1)]) (n := 2) (Nat.le_of_ble_eq_true rfl)
  rw [lg_entry_eq]
  generalize (lg_sl ([.int (a0), .int (a1)]) ++ List.replicate (2 - (lg_sl ([.int (a0), .int (a1)])).length) Slot.unset).toArray = ls at hl ⊢
  have hl : lv_has ls 2 [(0, .int (a0)), (1, .int (a1))] := hl
  rw [f_S_checkIndex] at hf
  refine lv_iload_n hx hb d_S_checkIndex_0 rfl (lv_at hl 0 rfl) ?_
  refine lv_iload_n hx hb d_S_checkIndex_1 rfl (lv_at hl 1 rfl) ?_
  obtain ⟨o_1, o_1z, o_1c⟩ := ju_zq (tb_fm hT)
  refine va_gets hx hb o_1z hS hown (ht aw_85) (fun _ h9 => h9) d_S_checkIndex_2 ?_
  obtain ⟨r_2, g_3, hf⟩ := Option.bind_eq_some_iff.mp hf
  refine ju_calli (W.runS (As := [.int (a0), .int (a1), o_1]) (rest := []) ⟨hx, hb, hml, hown, hts⟩ (c_Pq_checkIndex l (ad := ad) (sk := sk) (sv := sv) (tK := tK) o_1 a0 a1 o_1c r_2 g_3) (va_cwS 3 hts (aw_S aw_87 aw_88 aw_9 aw_89) rfl rfl rfl (by decide +kernel) ⟨Nat.le_of_ble_eq_true rfl, Nat.le_of_ble_eq_true rfl⟩) ⟨fun a U g mk q => ⟨q.1, q.2.call⟩, fun U hU hW => ⟨rfl, hT.at hS hU hW (fun _ z => z.elim)⟩⟩ rfl rfl hl.1 rfl (lv_room (Nat.le_of_ble_eq_true rfl)) d_S_checkIndex_5 ⟨Nat.le_refl _, Nat.le_refl _⟩) ?_
  refine lv_pop hx hb d_S_checkIndex_8 rfl ?_
  exact W.vret hx hb hr (fun t ht hW => ⟨rfl, trivial, ht⟩) (fun q h => nomatch h) d_S_checkIndex_9

def f_S1_charAt (a0 : Nat) (a1 : Int32) : Option Int32 :=
  (f_S_checkIndex a1 (nI (sL a0))).bind fun r_1 => if a1 < 0 ∨ sL a0 ≤ a1.toNatClampNeg then none else some (ju_i2c ((sC a0 a1.toNatClampNeg) &&& 255))
set_option maxHeartbeats 4000000 in
set_option maxRecDepth 100000 in
theorem c_S1_charAt (l : Launch) {ad sk sv : Nat → Nat} {tK : Nat} (a0 : Nat) (a1 : Int32) (ha0 : a0 < 180) (r : Int32) (hf : f_S1_charAt a0 a1 = some r) : Met l y_S1_charAt (Cond.code y_S1_charAt b_S1_charAt 2 (Option.some FieldType.char) :: aw) ({ frames := 2, cells := 0, slots := 0, locals := 43 } : Room) (va_Pc [.ref (sv a0), .int (a1)] (fun U => tb ad sk sv tK (fun _ => False) U U.heap)) (QcRead r) 0 0 (fun _ => False) := by
  refine Met.ofW (cc := b_S1_charAt) (maxL := 2) (ret := (Option.some FieldType.char)) (by decide) rfl ?_
  intro p e s m args below meth c s₁ B hml hv
  obtain ⟨rfl, hT⟩ := hv
  have hx := B.exec
  have hb := B.bytes
  have hr := B.returns
  have hts := atoms_spec (ws := (Cond.code y_S1_charAt b_S1_charAt 2 (Option.some FieldType.char) :: aw)) B.pre
  have ht : ∀ {w : Cond}, w ∈ aw → w.before ([.ref (sv a0), .int (a1)] : List Value).toArray s = true := fun h => hts _ (List.mem_cons_of_mem _ h)
  have hown : s.vm.findClass "java/lang/StringLatin1" = some m.cls := findClass_of_methodNamed B.named
  have hlocks := B.notSynchronized
  have hS : va_S (fun _ => False) s.heap s.heap [] := va_S.rf
  have hl := lv_entry ([.ref (sv a0), .int (a1)]) (n := 2) (Nat.le_of_ble_eq_true rfl)
  rw [lg_entry_eq]
  generalize (lg_sl ([.ref (sv a0), .int (a1)]) ++ List.replicate (2 - (lg_sl ([.ref (sv a0), .int (a1)])).length) Slot.unset).toArray = ls at hl ⊢
  have hl : lv_has ls 2 [(0, .ref (sv a0)), (1, .int (a1))] := hl
  rw [f_S1_charAt] at hf
  refine lv_iload_n hx hb d_S1_charAt_0 rfl (lv_at hl 1 rfl) ?_
  refine lv_aload_n hx hb d_S1_charAt_1 rfl (lv_at hl 0 rfl) ?_
  refine va_tlen (v := nI (sL a0)) hx hb (tb_bytes hT ha0) hS rfl d_S1_charAt_2 ?_
  obtain ⟨r_1, g_2, hf⟩ := Option.bind_eq_some_iff.mp hf
  refine ju_callv0 (W.runS (As := [.int (a1), .int (nI (sL a0))]) (rest := []) ⟨hx, hb, hml, hown, hts⟩ (c_S_checkIndex l (ad := ad) (sk := sk) (sv := sv) (tK := tK)  a1 (nI (sL a0))  r_1 g_2) (va_cwS 2 hts (aw_S aw_82 aw_83 aw_7 aw_84) rfl rfl rfl (by decide +kernel) ⟨Nat.le_of_ble_eq_true rfl, Nat.le_of_ble_eq_true rfl⟩) ⟨fun a U g mk q => ⟨q.1, q.2.call⟩, fun U hU hW => ⟨rfl, hT.at hS hU hW (fun _ z => z.elim)⟩⟩ rfl rfl hl.1 rfl (lv_room (Nat.le_of_ble_eq_true rfl)) d_S1_charAt_3 ⟨Nat.le_refl _, Nat.le_refl _⟩) ?_
  refine lv_aload_n hx hb d_S1_charAt_6 rfl (lv_at hl 0 rfl) ?_
  refine lv_iload_n hx hb d_S1_charAt_7 rfl (lv_at hl 1 rfl) ?_
  obtain ⟨z_3, hf⟩ := ju_gd hf
  refine va_tb (v := .int (sC a0 a1.toNatClampNeg)) hx hb (tb_bytes hT ha0) hS z_3 rfl d_S1_charAt_8 ?_
  refine lv_sipush (v := 255) hx hb d_S1_charAt_9 (by decide) ?_
  refine lv_iand hx hb d_S1_charAt_12 ?_
  refine lv_i2c (v := ju_i2c ((sC a0 a1.toNatClampNeg) &&& 255)) hx hb d_S1_charAt_13 rfl ?_
  exact W.zret (v := ju_i2c ((sC a0 a1.toNatClampNeg) &&& 255)) hx hb hr (by first | rfl | exact ju_nc _) (fun t ht hW => ⟨congrArg (fun z => Outcome.returned (some (Value.int z))) (Option.some.inj hf), ht⟩) (fun q h => nomatch h) d_S1_charAt_14

theorem s1_nar {a : Nat} {b r : Int32} (h : f_S1_charAt a b = some r) : narrow .char (.int r) = .int r := by
  rw [f_S1_charAt] at h
  obtain ⟨u, -, h⟩ := Option.bind_eq_some_iff.mp h
  obtain ⟨-, h⟩ := ju_gd h
  rw [← Option.some.inj h]
  exact ju_nc _
def f_S_charAt (i : Nat) (a0 : Int32) : Option Int32 :=
  (f_S_isLatin1 i).bind fun r_1 => if (bI r_1) = 0 then (none) else ((f_S1_charAt i a0).bind fun r_4 => some (r_4))
set_option maxHeartbeats 4000000 in
set_option maxRecDepth 100000 in
theorem c_S_charAt (l : Launch) {ad sk sv : Nat → Nat} {tK : Nat} (i : Nat) (a0 : Int32) (hi : i < 180) (r : Int32) (hf : f_S_charAt i a0 = some r) : Met l y_S_charAt (Cond.code y_S_charAt b_S_charAt 2 (Option.some FieldType.char) :: aw) ({ frames := 3, cells := 0, slots := 0, locals := 64 } : Room) (va_Pc [.ref (sk i), .int (a0)] (fun U => tb ad sk sv tK (fun _ => False) U U.heap)) (QcRead r) 0 0 (fun _ => False) := by
  refine Met.ofW (cc := b_S_charAt) (maxL := 2) (ret := (Option.some FieldType.char)) (by decide) rfl ?_
  intro p e s m args below meth c s₁ B hml hv
  obtain ⟨rfl, hT⟩ := hv
  have hx := B.exec
  have hb := B.bytes
  have hr := B.returns
  have hts := atoms_spec (ws := (Cond.code y_S_charAt b_S_charAt 2 (Option.some FieldType.char) :: aw)) B.pre
  have ht : ∀ {w : Cond}, w ∈ aw → w.before ([.ref (sk i), .int (a0)] : List Value).toArray s = true := fun h => hts _ (List.mem_cons_of_mem _ h)
  have hown : s.vm.findClass "java/lang/String" = some m.cls := findClass_of_methodNamed B.named
  have hlocks := B.notSynchronized
  have hS : va_S (fun _ => False) s.heap s.heap [] := va_S.rf
  have hl := lv_entry ([.ref (sk i), .int (a0)]) (n := 2) (Nat.le_of_ble_eq_true rfl)
  rw [lg_entry_eq]
  generalize (lg_sl ([.ref (sk i), .int (a0)]) ++ List.replicate (2 - (lg_sl ([.ref (sk i), .int (a0)])).length) Slot.unset).toArray = ls at hl ⊢
  have hl : lv_has ls 2 [(0, .ref (sk i)), (1, .int (a0))] := hl
  rw [f_S_charAt] at hf
  refine lv_aload_n hx hb d_S_charAt_0 rfl (lv_at hl 0 rfl) ?_
  obtain ⟨r_1, g_2, hf⟩ := Option.bind_eq_some_iff.mp hf
  refine ju_calli (W.runV (As := []) (rest := []) ⟨hx, hb, hml, hown, hts⟩ (c_S_isLatin1 l (ad := ad) (sk := sk) (sv := sv) (tK := tK)  i hi r_1 g_2) (cwV 0 hts (aw_V aw_75 aw_76 aw_77 aw_7 aw_78) rfl rfl rfl (by decide +kernel) ⟨Nat.le_of_ble_eq_true rfl, Nat.le_of_ble_eq_true rfl⟩) ⟨fun a U g mk q => ⟨q.1, q.2.call⟩, tb_recvS hT hi hS, fun U hU hW => ⟨rfl, hT.at hS hU hW (fun _ z => z.elim)⟩⟩ rfl rfl hl.1 rfl (lv_room (Nat.le_of_ble_eq_true rfl)) d_S_charAt_1 ⟨Nat.le_refl _, Nat.le_refl _⟩) ?_
  refine lv_if_eq (tgt := 16) hx hb d_S_charAt_4 (by decide) (fun c_3 => ?_) (fun c_3 => ?_)
  · replace hf := (if_pos c_3).symm.trans hf
    cases hf
  · replace hf := (if_neg c_3).symm.trans hf
    refine lv_aload_n hx hb d_S_charAt_7 rfl (lv_at hl 0 rfl) ?_
    refine vk_getf (v := .ref (sv i)) hx hb (tb_value hT hi) hS hown (ht aw_764) (fun _ h9 => h9) d_S_charAt_8 ?_
    refine lv_iload_n hx hb d_S_charAt_11 rfl (lv_at hl 1 rfl) ?_
    obtain ⟨r_4, g_5, hf⟩ := Option.bind_eq_some_iff.mp hf
    refine ju_calli (W.runS (As := [.ref (sv i), .int (a0)]) (rest := []) ⟨hx, hb, hml, hown, hts⟩ (c_S1_charAt l (ad := ad) (sk := sk) (sv := sv) (tK := tK)  i a0 hi r_4 g_5) (va_cwS 2 hts (aw_S aw_79 aw_80 aw_8 aw_81) rfl rfl rfl (by decide +kernel) ⟨Nat.le_of_ble_eq_true rfl, Nat.le_of_ble_eq_true rfl⟩) ⟨fun a U g mk q => ⟨q.1, q.2.call⟩, fun U hU hW => ⟨rfl, hT.at hS hU hW (fun _ z => z.elim)⟩⟩ rfl rfl hl.1 rfl (lv_room (Nat.le_of_ble_eq_true rfl)) d_S_charAt_12 ⟨Nat.le_refl _, Nat.le_refl _⟩) ?_
    exact W.zret (v := r_4) hx hb hr (by first | rfl | exact s1_nar ‹_›) (fun t ht hW => ⟨congrArg (fun z => Outcome.returned (some (Value.int z))) (Option.some.inj hf), ht⟩) (fun q h => nomatch h) d_S_charAt_15
end
section
def f_K_partOf_L15 (a0 : Int32)   : Option (Int32) :=
  if a0 = 100 then (some (1)) else (if a0 = 97 then (some (2)) else (if a0 = 98 then (some (4)) else (some (0))))
def f_K_partOf (a0 : Int32) : Option Int32 :=
  if a0 < 65 then (f_K_partOf_L15 a0  ) else (if 85 < a0 then (f_K_partOf_L15 a0  ) else (some (8)))
set_option maxHeartbeats 4000000 in
set_option maxRecDepth 100000 in
theorem c_K_partOf (l : Launch) {ad sk sv : Nat → Nat} {tK : Nat} (a0 : Int32)  (r : Int32) (hf : f_K_partOf a0 = some r) : Met l y_K_partOf (Cond.code y_K_partOf b_K_partOf 1 (Option.some FieldType.int) :: aw) ({ frames := 0, cells := 0, slots := 0, locals := 0 } : Room) (va_Pc [.int (a0)] (fun U => tb ad sk sv tK (fun _ => False) U U.heap)) (QcRead r) 0 0 (fun _ => False) := by
  refine Met.ofW (cc := b_K_partOf) (maxL := 1) (ret := (Option.some FieldType.int)) (by decide) rfl ?_
  intro p e s m args below meth c s₁ B hml hv
  obtain ⟨rfl, hT⟩ := hv
  have hx := B.exec
  have hb := B.bytes
  have hr := B.returns
  have hts := atoms_spec (ws := (Cond.code y_K_partOf b_K_partOf 1 (Option.some FieldType.int) :: aw)) B.pre
  have ht : ∀ {w : Cond}, w ∈ aw → w.before ([.int (a0)] : List Value).toArray s = true := fun h => hts _ (List.mem_cons_of_mem _ h)
  have hown : s.vm.findClass "CodeWords$Kind" = some m.cls := findClass_of_methodNamed B.named
  have hlocks := B.notSynchronized
  have hS : va_S (fun _ => False) s.heap s.heap [] := va_S.rf
  have hl := lv_entry ([.int (a0)]) (n := 1) (Nat.le_of_ble_eq_true rfl)
  rw [lg_entry_eq]
  generalize (lg_sl ([.int (a0)]) ++ List.replicate (1 - (lg_sl ([.int (a0)])).length) Slot.unset).toArray = ls at hl ⊢
  have hl : lv_has ls 1 [(0, .int (a0))] := hl
  have J15 : ∀  (ls : Array Slot), lv_has ls 1 [(0, .int (a0))] → f_K_partOf_L15 a0   = some r → pW p l e (headSpec (Cond.code y_K_partOf b_K_partOf 1 (Option.some FieldType.int) :: aw) ({ frames := 0, cells := 0, slots := 0, locals := 0 } : Room)).room s m ([.int (a0)] : List Value).toArray below meth c r (F0 m 15 ls []) := by
    intro   ls  hl hf
    rw [f_K_partOf_L15] at hf
    refine lv_iload_n hx hb d_K_partOf_15 rfl (lv_at hl 0 rfl) ?_
    refine lv_bipush (v := 100) hx hb d_K_partOf_16 (by decide) ?_
    refine lv_icmp_ne (tgt := 23) hx hb d_K_partOf_18 (by decide) (fun c_2 => ?_) (fun c_2 => ?_)
    · replace hf := (if_neg c_2).symm.trans hf
      refine lv_iload_n hx hb d_K_partOf_23 rfl (lv_at hl 0 rfl) ?_
      refine lv_bipush (v := 97) hx hb d_K_partOf_24 (by decide) ?_
      refine lv_icmp_ne (tgt := 31) hx hb d_K_partOf_26 (by decide) (fun c_3 => ?_) (fun c_3 => ?_)
      · replace hf := (if_neg c_3).symm.trans hf
        refine lv_iload_n hx hb d_K_partOf_31 rfl (lv_at hl 0 rfl) ?_
        refine lv_bipush (v := 98) hx hb d_K_partOf_32 (by decide) ?_
        refine lv_icmp_ne (tgt := 41) hx hb d_K_partOf_34 (by decide) (fun c_4 => ?_) (fun c_4 => ?_)
        · replace hf := (if_neg c_4).symm.trans hf
          refine lv_iconst (v := 0) hx hb d_K_partOf_41 (by decide) ?_
          exact W.iret (v := 0) hx hb hr (fun t ht hW => ⟨congrArg (fun z => Outcome.returned (some (Value.int z))) (Option.some.inj hf), ht⟩) (fun q h => nomatch h) d_K_partOf_42
        · replace hf := (if_pos c_4).symm.trans hf
          refine lv_iconst (v := 4) hx hb d_K_partOf_37 (by decide) ?_
          refine lv_goto (tgt := 42) hx hb d_K_partOf_38 (by decide) ?_
          exact W.iret (v := 4) hx hb hr (fun t ht hW => ⟨congrArg (fun z => Outcome.returned (some (Value.int z))) (Option.some.inj hf), ht⟩) (fun q h => nomatch h) d_K_partOf_42
      · replace hf := (if_pos c_3).symm.trans hf
        refine lv_iconst (v := 2) hx hb d_K_partOf_29 (by decide) ?_
        exact W.iret (v := 2) hx hb hr (fun t ht hW => ⟨congrArg (fun z => Outcome.returned (some (Value.int z))) (Option.some.inj hf), ht⟩) (fun q h => nomatch h) d_K_partOf_30
    · replace hf := (if_pos c_2).symm.trans hf
      refine lv_iconst (v := 1) hx hb d_K_partOf_21 (by decide) ?_
      exact W.iret (v := 1) hx hb hr (fun t ht hW => ⟨congrArg (fun z => Outcome.returned (some (Value.int z))) (Option.some.inj hf), ht⟩) (fun q h => nomatch h) d_K_partOf_22
  rw [f_K_partOf] at hf
  refine lv_iload_n hx hb d_K_partOf_0 rfl (lv_at hl 0 rfl) ?_
  refine lv_bipush (v := 65) hx hb d_K_partOf_1 (by decide) ?_
  refine lv_icmp_lt (tgt := 15) hx hb d_K_partOf_3 (by decide) (fun c_1 => ?_) (fun c_1 => ?_)
  · replace hf := (if_pos c_1).symm.trans hf
    exact J15   _  (lv_sub hl [0] rfl) hf
  · replace hf := (if_neg c_1).symm.trans hf
    refine lv_iload_n hx hb d_K_partOf_6 rfl (lv_at hl 0 rfl) ?_
    refine lv_bipush (v := 85) hx hb d_K_partOf_7 (by decide) ?_
    refine lv_icmp_gt (tgt := 15) hx hb d_K_partOf_9 (by decide) (fun c_5 => ?_) (fun c_5 => ?_)
    · replace hf := (if_pos c_5).symm.trans hf
      exact J15   _  (lv_sub hl [0] rfl) hf
    · replace hf := (if_neg c_5).symm.trans hf
      refine lv_bipush (v := 8) hx hb d_K_partOf_12 (by decide) ?_
      exact W.iret (v := 8) hx hb hr (fun t ht hW => ⟨congrArg (fun z => Outcome.returned (some (Value.int z))) (Option.some.inj hf), ht⟩) (fun q h => nomatch h) d_K_partOf_14

def f_K_has (i : Nat) (a0 : Int32) : Option Bool :=
  if ((k_parts i) &&& a0) = 0 then (some false) else (some true)
set_option maxHeartbeats 4000000 in
set_option maxRecDepth 100000 in
theorem c_K_has (l : Launch) {ad sk sv : Nat → Nat} {tK : Nat} (i : Nat) (a0 : Int32) (hi : i < 75) (r : Bool) (hf : f_K_has i a0 = some r) : Met l y_K_has (Cond.code y_K_has b_K_has 2 (Option.some FieldType.boolean) :: aw) ({ frames := 0, cells := 0, slots := 0, locals := 0 } : Room) (va_Pc [.ref (ad i), .int (a0)] (fun U => tb ad sk sv tK (fun _ => False) U U.heap)) (QcRead (bI r)) 0 0 (fun _ => False) := by
  refine Met.ofW (cc := b_K_has) (maxL := 2) (ret := (Option.some FieldType.boolean)) (by decide) rfl ?_
  intro p e s m args below meth c s₁ B hml hv
  obtain ⟨rfl, hT⟩ := hv
  have hx := B.exec
  have hb := B.bytes
  have hr := B.returns
  have hts := atoms_spec (ws := (Cond.code y_K_has b_K_has 2 (Option.some FieldType.boolean) :: aw)) B.pre
  have ht : ∀ {w : Cond}, w ∈ aw → w.before ([.ref (ad i), .int (a0)] : List Value).toArray s = true := fun h => hts _ (List.mem_cons_of_mem _ h)
  have hown : s.vm.findClass "CodeWords$Kind" = some m.cls := findClass_of_methodNamed B.named
  have hlocks := B.notSynchronized
  have hS : va_S (fun _ => False) s.heap s.heap [] := va_S.rf
  have hl := lv_entry ([.ref (ad i), .int (a0)]) (n := 2) (Nat.le_of_ble_eq_true rfl)
  rw [lg_entry_eq]
  generalize (lg_sl ([.ref (ad i), .int (a0)]) ++ List.replicate (2 - (lg_sl ([.ref (ad i), .int (a0)])).length) Slot.unset).toArray = ls at hl ⊢
  have hl : lv_has ls 2 [(0, .ref (ad i)), (1, .int (a0))] := hl
  rw [f_K_has] at hf
  refine lv_aload_n hx hb d_K_has_0 rfl (lv_at hl 0 rfl) ?_
  refine vk_getf (v := .int (k_parts i)) hx hb (tb_parts hT hi) hS hown (ht aw_762) (fun _ h9 => h9) d_K_has_1 ?_
  refine lv_iload_n hx hb d_K_has_4 rfl (lv_at hl 1 rfl) ?_
  refine lv_iand hx hb d_K_has_5 ?_
  refine lv_if_eq (tgt := 13) hx hb d_K_has_6 (by decide) (fun c_1 => ?_) (fun c_1 => ?_)
  · replace hf := (if_pos c_1).symm.trans hf
    refine lv_iconst (v := 0) hx hb d_K_has_13 (by decide) ?_
    exact W.zret (v := 0) hx hb hr (ju_nz false) (fun t ht hW => ⟨congrArg (fun z => Outcome.returned (some (Value.int (bI z)))) (Option.some.inj hf), ht⟩) (fun q h => nomatch h) d_K_has_14
  · replace hf := (if_neg c_1).symm.trans hf
    refine lv_iconst (v := 1) hx hb d_K_has_9 (by decide) ?_
    refine lv_goto (tgt := 14) hx hb d_K_has_10 (by decide) ?_
    exact W.zret (v := 1) hx hb hr (ju_nz true) (fun t ht hW => ⟨congrArg (fun z => Outcome.returned (some (Value.int (bI z)))) (Option.some.inj hf), ht⟩) (fun q h => nomatch h) d_K_has_14

def f_K_is (i : Nat) (a0 : Int32) : Option Bool :=
  if ((k_traits i) &&& a0) = 0 then (some false) else (some true)
set_option maxHeartbeats 4000000 in
set_option maxRecDepth 100000 in
theorem c_K_is (l : Launch) {ad sk sv : Nat → Nat} {tK : Nat} (i : Nat) (a0 : Int32) (hi : i < 75) (r : Bool) (hf : f_K_is i a0 = some r) : Met l y_K_is (Cond.code y_K_is b_K_is 2 (Option.some FieldType.boolean) :: aw) ({ frames := 0, cells := 0, slots := 0, locals := 0 } : Room) (va_Pc [.ref (ad i), .int (a0)] (fun U => tb ad sk sv tK (fun _ => False) U U.heap)) (QcRead (bI r)) 0 0 (fun _ => False) := by
  refine Met.ofW (cc := b_K_is) (maxL := 2) (ret := (Option.some FieldType.boolean)) (by decide) rfl ?_
  intro p e s m args below meth c s₁ B hml hv
  obtain ⟨rfl, hT⟩ := hv
  have hx := B.exec
  have hb := B.bytes
  have hr := B.returns
  have hts := atoms_spec (ws := (Cond.code y_K_is b_K_is 2 (Option.some FieldType.boolean) :: aw)) B.pre
  have ht : ∀ {w : Cond}, w ∈ aw → w.before ([.ref (ad i), .int (a0)] : List Value).toArray s = true := fun h => hts _ (List.mem_cons_of_mem _ h)
  have hown : s.vm.findClass "CodeWords$Kind" = some m.cls := findClass_of_methodNamed B.named
  have hlocks := B.notSynchronized
  have hS : va_S (fun _ => False) s.heap s.heap [] := va_S.rf
  have hl := lv_entry ([.ref (ad i), .int (a0)]) (n := 2) (Nat.le_of_ble_eq_true rfl)
  rw [lg_entry_eq]
  generalize (lg_sl ([.ref (ad i), .int (a0)]) ++ List.replicate (2 - (lg_sl ([.ref (ad i), .int (a0)])).length) Slot.unset).toArray = ls at hl ⊢
  have hl : lv_has ls 2 [(0, .ref (ad i)), (1, .int (a0))] := hl
  rw [f_K_is] at hf
  refine lv_aload_n hx hb d_K_is_0 rfl (lv_at hl 0 rfl) ?_
  refine vk_getf (v := .int (k_traits i)) hx hb (tb_traits hT hi) hS hown (ht aw_769) (fun _ h9 => h9) d_K_is_1 ?_
  refine lv_iload_n hx hb d_K_is_4 rfl (lv_at hl 1 rfl) ?_
  refine lv_iand hx hb d_K_is_5 ?_
  refine lv_if_eq (tgt := 13) hx hb d_K_is_6 (by decide) (fun c_1 => ?_) (fun c_1 => ?_)
  · replace hf := (if_pos c_1).symm.trans hf
    refine lv_iconst (v := 0) hx hb d_K_is_13 (by decide) ?_
    exact W.zret (v := 0) hx hb hr (ju_nz false) (fun t ht hW => ⟨congrArg (fun z => Outcome.returned (some (Value.int (bI z)))) (Option.some.inj hf), ht⟩) (fun q h => nomatch h) d_K_is_14
  · replace hf := (if_neg c_1).symm.trans hf
    refine lv_iconst (v := 1) hx hb d_K_is_9 (by decide) ?_
    refine lv_goto (tgt := 14) hx hb d_K_is_10 (by decide) ?_
    exact W.zret (v := 1) hx hb hr (ju_nz true) (fun t ht hW => ⟨congrArg (fun z => Outcome.returned (some (Value.int (bI z)))) (Option.some.inj hf), ht⟩) (fun q h => nomatch h) d_K_is_14

def f_K_placeOf (i : Nat) (a0 : Int32) : Option Int32 :=
  if a0 = 1 then (some (k_placeD i)) else (if a0 = 2 then (some (k_placeA i)) else (some (k_placeB i)))
set_option maxHeartbeats 4000000 in
set_option maxRecDepth 100000 in
theorem c_K_placeOf (l : Launch) {ad sk sv : Nat → Nat} {tK : Nat} (i : Nat) (a0 : Int32) (hi : i < 75) (r : Int32) (hf : f_K_placeOf i a0 = some r) : Met l y_K_placeOf (Cond.code y_K_placeOf b_K_placeOf 2 (Option.some FieldType.int) :: aw) ({ frames := 0, cells := 0, slots := 0, locals := 0 } : Room) (va_Pc [.ref (ad i), .int (a0)] (fun U => tb ad sk sv tK (fun _ => False) U U.heap)) (QcRead r) 0 0 (fun _ => False) := by
  refine Met.ofW (cc := b_K_placeOf) (maxL := 2) (ret := (Option.some FieldType.int)) (by decide) rfl ?_
  intro p e s m args below meth c s₁ B hml hv
  obtain ⟨rfl, hT⟩ := hv
  have hx := B.exec
  have hb := B.bytes
  have hr := B.returns
  have hts := atoms_spec (ws := (Cond.code y_K_placeOf b_K_placeOf 2 (Option.some FieldType.int) :: aw)) B.pre
  have ht : ∀ {w : Cond}, w ∈ aw → w.before ([.ref (ad i), .int (a0)] : List Value).toArray s = true := fun h => hts _ (List.mem_cons_of_mem _ h)
  have hown : s.vm.findClass "CodeWords$Kind" = some m.cls := findClass_of_methodNamed B.named
  have hlocks := B.notSynchronized
  have hS : va_S (fun _ => False) s.heap s.heap [] := va_S.rf
  have hl := lv_entry ([.ref (ad i), .int (a0)]) (n := 2) (Nat.le_of_ble_eq_true rfl)
  rw [lg_entry_eq]
  generalize (lg_sl ([.ref (ad i), .int (a0)]) ++ List.replicate (2 - (lg_sl ([.ref (ad i), .int (a0)])).length) Slot.unset).toArray = ls at hl ⊢
  have hl : lv_has ls 2 [(0, .ref (ad i)), (1, .int (a0))] := hl
  rw [f_K_placeOf] at hf
  refine lv_iload_n hx hb d_K_placeOf_0 rfl (lv_at hl 1 rfl) ?_
  refine lv_iconst (v := 1) hx hb d_K_placeOf_1 (by decide) ?_
  refine lv_icmp_ne (tgt := 10) hx hb d_K_placeOf_2 (by decide) (fun c_1 => ?_) (fun c_1 => ?_)
  · replace hf := (if_neg c_1).symm.trans hf
    refine lv_iload_n hx hb d_K_placeOf_10 rfl (lv_at hl 1 rfl) ?_
    refine lv_iconst (v := 2) hx hb d_K_placeOf_11 (by decide) ?_
    refine lv_icmp_ne (tgt := 22) hx hb d_K_placeOf_12 (by decide) (fun c_2 => ?_) (fun c_2 => ?_)
    · replace hf := (if_neg c_2).symm.trans hf
      refine lv_aload_n hx hb d_K_placeOf_22 rfl (lv_at hl 0 rfl) ?_
      refine vk_getf (v := .int (k_placeB i)) hx hb (tb_placeB hT hi) hS hown (ht aw_768) (fun _ h9 => h9) d_K_placeOf_23 ?_
      exact W.iret (v := k_placeB i) hx hb hr (fun t ht hW => ⟨congrArg (fun z => Outcome.returned (some (Value.int z))) (Option.some.inj hf), ht⟩) (fun q h => nomatch h) d_K_placeOf_26
    · replace hf := (if_pos c_2).symm.trans hf
      refine lv_aload_n hx hb d_K_placeOf_15 rfl (lv_at hl 0 rfl) ?_
      refine vk_getf (v := .int (k_placeA i)) hx hb (tb_placeA hT hi) hS hown (ht aw_767) (fun _ h9 => h9) d_K_placeOf_16 ?_
      refine lv_goto (tgt := 26) hx hb d_K_placeOf_19 (by decide) ?_
      exact W.iret (v := k_placeA i) hx hb hr (fun t ht hW => ⟨congrArg (fun z => Outcome.returned (some (Value.int z))) (Option.some.inj hf), ht⟩) (fun q h => nomatch h) d_K_placeOf_26
  · replace hf := (if_pos c_1).symm.trans hf
    refine lv_aload_n hx hb d_K_placeOf_5 rfl (lv_at hl 0 rfl) ?_
    refine vk_getf (v := .int (k_placeD i)) hx hb (tb_placeD hT hi) hS hown (ht aw_766) (fun _ h9 => h9) d_K_placeOf_6 ?_
    exact W.iret (v := k_placeD i) hx hb hr (fun t ht hW => ⟨congrArg (fun z => Outcome.returned (some (Value.int z))) (Option.some.inj hf), ht⟩) (fun q h => nomatch h) d_K_placeOf_9

def f_K_isNarrow (i : Nat) (a0 : Int32) : Option Bool :=
  (f_S_length (k_layout i)).bind fun r_1 => (f_K_placeOf i a0).bind fun r_3 => if (((r_1 - 1) - r_3) - 4) < 0 then (some true) else ((f_S_length (k_layout i)).bind fun r_6 => if r_6 ≤ (((r_1 - 1) - r_3) - 4) then (some true) else ((f_S_charAt (k_layout i) (((r_1 - 1) - r_3) - 4)).bind fun r_9 => (f_K_partOf r_9).bind fun r_11 => if r_11 = a0 then (some false) else (some true)))
set_option maxHeartbeats 4000000 in
set_option maxRecDepth 100000 in
theorem c_K_isNarrow (l : Launch) {ad sk sv : Nat → Nat} {tK : Nat} (i : Nat) (a0 : Int32) (hi : i < 75) (r : Bool) (hf : f_K_isNarrow i a0 = some r) : Met l y_K_isNarrow (Cond.code y_K_isNarrow b_K_isNarrow 3 (Option.some FieldType.boolean) :: aw) ({ frames := 4, cells := 0, slots := 0, locals := 85 } : Room) (va_Pc [.ref (ad i), .int (a0)] (fun U => tb ad sk sv tK (fun _ => False) U U.heap)) (QcRead (bI r)) 0 0 (fun _ => False) := by
  refine Met.ofW (cc := b_K_isNarrow) (maxL := 3) (ret := (Option.some FieldType.boolean)) (by decide) rfl ?_
  intro p e s m args below meth c s₁ B hml hv
  obtain ⟨rfl, hT⟩ := hv
  have hx := B.exec
  have hb := B.bytes
  have hr := B.returns
  have hts := atoms_spec (ws := (Cond.code y_K_isNarrow b_K_isNarrow 3 (Option.some FieldType.boolean) :: aw)) B.pre
  have ht : ∀ {w : Cond}, w ∈ aw → w.before ([.ref (ad i), .int (a0)] : List Value).toArray s = true := fun h => hts _ (List.mem_cons_of_mem _ h)
  have hown : s.vm.findClass "CodeWords$Kind" = some m.cls := findClass_of_methodNamed B.named
  have hlocks := B.notSynchronized
  have hS : va_S (fun _ => False) s.heap s.heap [] := va_S.rf
  have hl := lv_entry ([.ref (ad i), .int (a0)]) (n := 3) (Nat.le_of_ble_eq_true rfl)
  rw [lg_entry_eq]
  generalize (lg_sl ([.ref (ad i), .int (a0)]) ++ List.replicate (3 - (lg_sl ([.ref (ad i), .int (a0)])).length) Slot.unset).toArray = ls at hl ⊢
  have hl : lv_has ls 3 [(0, .ref (ad i)), (1, .int (a0))] := hl
  rw [f_K_isNarrow] at hf
  refine lv_aload_n hx hb d_K_isNarrow_0 rfl (lv_at hl 0 rfl) ?_
  refine vk_getf (v := .ref (sk (k_layout i))) hx hb (tb_layout hT hi) hS hown (ht aw_763) (fun _ h9 => h9) d_K_isNarrow_1 ?_
  obtain ⟨r_1, g_2, hf⟩ := Option.bind_eq_some_iff.mp hf
  refine ju_calli (W.runV (As := []) (rest := []) ⟨hx, hb, hml, hown, hts⟩ (c_S_length l (ad := ad) (sk := sk) (sv := sv) (tK := tK)  (k_layout i) (k_layout_lt hi) r_1 g_2) (cwV 0 hts (aw_V aw_61 aw_62 aw_63 aw_7 aw_64) rfl rfl rfl (by decide +kernel) ⟨Nat.le_of_ble_eq_true rfl, Nat.le_of_ble_eq_true rfl⟩) ⟨fun a U g mk q => ⟨q.1, q.2.call⟩, tb_recvS hT (k_layout_lt hi) hS, fun U hU hW => ⟨rfl, hT.at hS hU hW (fun _ z => z.elim)⟩⟩ rfl rfl hl.1 rfl (lv_room (Nat.le_of_ble_eq_true rfl)) d_K_isNarrow_4 ⟨Nat.le_refl _, Nat.le_refl _⟩) ?_
  refine lv_iconst (v := 1) hx hb d_K_isNarrow_7 (by decide) ?_
  refine lv_isub hx hb d_K_isNarrow_8 ?_
  refine lv_aload_n hx hb d_K_isNarrow_9 rfl (lv_at hl 0 rfl) ?_
  refine lv_iload_n hx hb d_K_isNarrow_10 rfl (lv_at hl 1 rfl) ?_
  obtain ⟨r_3, g_4, hf⟩ := Option.bind_eq_some_iff.mp hf
  refine ju_calli (W.runV (As := [.int (a0)]) (rest := [.int (r_1 - 1)]) ⟨hx, hb, hml, hown, hts⟩ (c_K_placeOf l (ad := ad) (sk := sk) (sv := sv) (tK := tK)  i a0 hi r_3 g_4) (cwV 1 hts (aw_V aw_52 aw_54 aw_p0 aw_12 aw_56) rfl rfl rfl (by decide +kernel) ⟨Nat.le_of_ble_eq_true rfl, Nat.le_of_ble_eq_true rfl⟩) ⟨fun a U g mk q => ⟨q.1, q.2.call⟩, tb_recvK hT hi hS, fun U hU hW => ⟨rfl, hT.at hS hU hW (fun _ z => z.elim)⟩⟩ rfl rfl hl.1 rfl (lv_room (Nat.le_of_ble_eq_true rfl)) d_K_isNarrow_11 ⟨Nat.le_refl _, Nat.le_refl _⟩) ?_
  refine lv_isub hx hb d_K_isNarrow_14 ?_
  refine lv_iconst (v := 4) hx hb d_K_isNarrow_15 (by decide) ?_
  refine lv_isub hx hb d_K_isNarrow_16 ?_
  refine lv_istore_n (lv' := [(2, .int (((r_1 - 1) - r_3) - 4)), (0, .ref (ad i)), (1, .int (a0))]) hx hb d_K_isNarrow_17 rfl hl (by decide) rfl (fun ls hl => ?_)
  refine lv_iload_n hx hb d_K_isNarrow_18 rfl (lv_at hl 0 rfl) ?_
  refine lv_if_lt (tgt := 48) hx hb d_K_isNarrow_19 (by decide) (fun c_5 => ?_) (fun c_5 => ?_)
  · replace hf := (if_pos c_5).symm.trans hf
    refine lv_iconst (v := 1) hx hb d_K_isNarrow_48 (by decide) ?_
    refine lv_goto (tgt := 53) hx hb d_K_isNarrow_49 (by decide) ?_
    exact W.zret (v := 1) hx hb hr (ju_nz true) (fun t ht hW => ⟨congrArg (fun z => Outcome.returned (some (Value.int (bI z)))) (Option.some.inj hf), ht⟩) (fun q h => nomatch h) d_K_isNarrow_53
  · replace hf := (if_neg c_5).symm.trans hf
    refine lv_iload_n hx hb d_K_isNarrow_22 rfl (lv_at hl 0 rfl) ?_
    refine lv_aload_n hx hb d_K_isNarrow_23 rfl (lv_at hl 1 rfl) ?_
    refine vk_getf (v := .ref (sk (k_layout i))) hx hb (tb_layout hT hi) hS hown (ht aw_763) (fun _ h9 => h9) d_K_isNarrow_24 ?_
    obtain ⟨r_6, g_7, hf⟩ := Option.bind_eq_some_iff.mp hf
    refine ju_calli (W.runV (As := []) (rest := [.int (((r_1 - 1) - r_3) - 4)]) ⟨hx, hb, hml, hown, hts⟩ (c_S_length l (ad := ad) (sk := sk) (sv := sv) (tK := tK)  (k_layout i) (k_layout_lt hi) r_6 g_7) (cwV 0 hts (aw_V aw_61 aw_62 aw_63 aw_7 aw_64) rfl rfl rfl (by decide +kernel) ⟨Nat.le_of_ble_eq_true rfl, Nat.le_of_ble_eq_true rfl⟩) ⟨fun a U g mk q => ⟨q.1, q.2.call⟩, tb_recvS hT (k_layout_lt hi) hS, fun U hU hW => ⟨rfl, hT.at hS hU hW (fun _ z => z.elim)⟩⟩ rfl rfl hl.1 rfl (lv_room (Nat.le_of_ble_eq_true rfl)) d_K_isNarrow_27 ⟨Nat.le_refl _, Nat.le_refl _⟩) ?_
    refine lv_icmp_ge (tgt := 48) hx hb d_K_isNarrow_30 (by decide) (fun c_8 => ?_) (fun c_8 => ?_)
    · replace hf := (if_pos c_8).symm.trans hf
      refine lv_iconst (v := 1) hx hb d_K_isNarrow_48 (by decide) ?_
      refine lv_goto (tgt := 53) hx hb d_K_isNarrow_49 (by decide) ?_
      exact W.zret (v := 1) hx hb hr (ju_nz true) (fun t ht hW => ⟨congrArg (fun z => Outcome.returned (some (Value.int (bI z)))) (Option.some.inj hf), ht⟩) (fun q h => nomatch h) d_K_isNarrow_53
    · replace hf := (if_neg c_8).symm.trans hf
      refine lv_aload_n hx hb d_K_isNarrow_33 rfl (lv_at hl 1 rfl) ?_
      refine vk_getf (v := .ref (sk (k_layout i))) hx hb (tb_layout hT hi) hS hown (ht aw_763) (fun _ h9 => h9) d_K_isNarrow_34 ?_
      refine lv_iload_n hx hb d_K_isNarrow_37 rfl (lv_at hl 0 rfl) ?_
      obtain ⟨r_9, g_10, hf⟩ := Option.bind_eq_some_iff.mp hf
      refine ju_calli (W.runV (As := [.int (((r_1 - 1) - r_3) - 4)]) (rest := []) ⟨hx, hb, hml, hown, hts⟩ (c_S_charAt l (ad := ad) (sk := sk) (sv := sv) (tK := tK)  (k_layout i) (((r_1 - 1) - r_3) - 4) (k_layout_lt hi) r_9 g_10) (cwV 1 hts (aw_V aw_71 aw_72 aw_73 aw_7 aw_74) rfl rfl rfl (by decide +kernel) ⟨Nat.le_of_ble_eq_true rfl, Nat.le_of_ble_eq_true rfl⟩) ⟨fun a U g mk q => ⟨q.1, q.2.call⟩, tb_recvS hT (k_layout_lt hi) hS, fun U hU hW => ⟨rfl, hT.at hS hU hW (fun _ z => z.elim)⟩⟩ rfl rfl hl.1 rfl (lv_room (Nat.le_of_ble_eq_true rfl)) d_K_isNarrow_38 ⟨Nat.le_refl _, Nat.le_refl _⟩) ?_
      obtain ⟨r_11, g_12, hf⟩ := Option.bind_eq_some_iff.mp hf
      refine ju_calli (W.runS (As := [.int (r_9)]) (rest := []) ⟨hx, hb, hml, hown, hts⟩ (c_K_partOf l (ad := ad) (sk := sk) (sv := sv) (tK := tK)  r_9  r_11 g_12) (va_cwS 1 hts (aw_S aw_109 aw_110 aw_12 aw_111) rfl rfl rfl (by decide +kernel) ⟨Nat.le_of_ble_eq_true rfl, Nat.le_of_ble_eq_true rfl⟩) ⟨fun a U g mk q => ⟨q.1, q.2.call⟩, fun U hU hW => ⟨rfl, hT.at hS hU hW (fun _ z => z.elim)⟩⟩ rfl rfl hl.1 rfl (lv_room (Nat.le_of_ble_eq_true rfl)) d_K_isNarrow_41 ⟨Nat.le_refl _, Nat.le_refl _⟩) ?_
      refine lv_iload_n hx hb d_K_isNarrow_44 rfl (lv_at hl 2 rfl) ?_
      refine lv_icmp_eq (tgt := 52) hx hb d_K_isNarrow_45 (by decide) (fun c_13 => ?_) (fun c_13 => ?_)
      · replace hf := (if_pos c_13).symm.trans hf
        refine lv_iconst (v := 0) hx hb d_K_isNarrow_52 (by decide) ?_
        exact W.zret (v := 0) hx hb hr (ju_nz false) (fun t ht hW => ⟨congrArg (fun z => Outcome.returned (some (Value.int (bI z)))) (Option.some.inj hf), ht⟩) (fun q h => nomatch h) d_K_isNarrow_53
      · replace hf := (if_neg c_13).symm.trans hf
        refine lv_iconst (v := 1) hx hb d_K_isNarrow_48 (by decide) ?_
        refine lv_goto (tgt := 53) hx hb d_K_isNarrow_49 (by decide) ?_
        exact W.zret (v := 1) hx hb hr (ju_nz true) (fun t ht hW => ⟨congrArg (fun z => Outcome.returned (some (Value.int (bI z)))) (Option.some.inj hf), ht⟩) (fun q h => nomatch h) d_K_isNarrow_53

def f_K_register (i : Nat) (a0 : Int32) (a1 : Int32) : Option Int32 :=
  (f_K_has i a1).bind fun r_1 => if (bI r_1) = 0 then (some (0)) else ((f_K_placeOf i a1).bind fun r_4 => (f_K_isNarrow i a1).bind fun r_6 => if (bI r_6) = 0 then (some ((ju_ushr a0 r_4) &&& 31)) else (some (8 + ((ju_ushr a0 r_4) &&& 7))))
set_option maxHeartbeats 4000000 in
set_option maxRecDepth 100000 in
theorem c_K_register (l : Launch) {ad sk sv : Nat → Nat} {tK : Nat} (i : Nat) (a0 : Int32) (a1 : Int32) (hi : i < 75) (r : Int32) (hf : f_K_register i a0 a1 = some r) : Met l y_K_register (Cond.code y_K_register b_K_register 4 (Option.some FieldType.int) :: aw) ({ frames := 5, cells := 0, slots := 0, locals := 107 } : Room) (va_Pc [.ref (ad i), .int (a0), .int (a1)] (fun U => tb ad sk sv tK (fun _ => False) U U.heap)) (QcRead r) 0 0 (fun _ => False) := by
  refine Met.ofW (cc := b_K_register) (maxL := 4) (ret := (Option.some FieldType.int)) (by decide) rfl ?_
  intro p e s m args below meth c s₁ B hml hv
  obtain ⟨rfl, hT⟩ := hv
  have hx := B.exec
  have hb := B.bytes
  have hr := B.returns
  have hts := atoms_spec (ws := (Cond.code y_K_register b_K_register 4 (Option.some FieldType.int) :: aw)) B.pre
  have ht : ∀ {w : Cond}, w ∈ aw → w.before ([.ref (ad i), .int (a0), .int (a1)] : List Value).toArray s = true := fun h => hts _ (List.mem_cons_of_mem _ h)
  have hown : s.vm.findClass "CodeWords$Kind" = some m.cls := findClass_of_methodNamed B.named
  have hlocks := B.notSynchronized
  have hS : va_S (fun _ => False) s.heap s.heap [] := va_S.rf
  have hl := lv_entry ([.ref (ad i), .int (a0), .int (a1)]) (n := 4) (Nat.le_of_ble_eq_true rfl)
  rw [lg_entry_eq]
  generalize (lg_sl ([.ref (ad i), .int (a0), .int (a1)]) ++ List.replicate (4 - (lg_sl ([.ref (ad i), .int (a0), .int (a1)])).length) Slot.unset).toArray = ls at hl ⊢
  have hl : lv_has ls 4 [(0, .ref (ad i)), (1, .int (a0)), (2, .int (a1))] := hl
  rw [f_K_register] at hf
  refine lv_aload_n hx hb d_K_register_0 rfl (lv_at hl 0 rfl) ?_
  refine lv_iload_n hx hb d_K_register_1 rfl (lv_at hl 2 rfl) ?_
  obtain ⟨r_1, g_2, hf⟩ := Option.bind_eq_some_iff.mp hf
  refine ju_calli (W.runV (As := [.int (a1)]) (rest := []) ⟨hx, hb, hml, hown, hts⟩ (c_K_has l (ad := ad) (sk := sk) (sv := sv) (tK := tK)  i a1 hi r_1 g_2) (cwV 1 hts (aw_V aw_48 aw_49 aw_50 aw_12 aw_51) rfl rfl rfl (by decide +kernel) ⟨Nat.le_of_ble_eq_true rfl, Nat.le_of_ble_eq_true rfl⟩) ⟨fun a U g mk q => ⟨q.1, q.2.call⟩, tb_recvK hT hi hS, fun U hU hW => ⟨rfl, hT.at hS hU hW (fun _ z => z.elim)⟩⟩ rfl rfl hl.1 rfl (lv_room (Nat.le_of_ble_eq_true rfl)) d_K_register_2 ⟨Nat.le_refl _, Nat.le_refl _⟩) ?_
  refine lv_if_ne (tgt := 10) hx hb d_K_register_5 (by decide) (fun c_3 => ?_) (fun c_3 => ?_)
  · replace hf := (if_neg c_3).symm.trans hf
    refine lv_iload_n hx hb d_K_register_10 rfl (lv_at hl 1 rfl) ?_
    refine lv_aload_n hx hb d_K_register_11 rfl (lv_at hl 0 rfl) ?_
    refine lv_iload_n hx hb d_K_register_12 rfl (lv_at hl 2 rfl) ?_
    obtain ⟨r_4, g_5, hf⟩ := Option.bind_eq_some_iff.mp hf
    refine ju_calli (W.runV (As := [.int (a1)]) (rest := [.int (a0)]) ⟨hx, hb, hml, hown, hts⟩ (c_K_placeOf l (ad := ad) (sk := sk) (sv := sv) (tK := tK)  i a1 hi r_4 g_5) (cwV 1 hts (aw_V aw_52 aw_54 aw_p0 aw_12 aw_56) rfl rfl rfl (by decide +kernel) ⟨Nat.le_of_ble_eq_true rfl, Nat.le_of_ble_eq_true rfl⟩) ⟨fun a U g mk q => ⟨q.1, q.2.call⟩, tb_recvK hT hi hS, fun U hU hW => ⟨rfl, hT.at hS hU hW (fun _ z => z.elim)⟩⟩ rfl rfl hl.1 rfl (lv_room (Nat.le_of_ble_eq_true rfl)) d_K_register_13 ⟨Nat.le_refl _, Nat.le_refl _⟩) ?_
    refine lv_iushr (v := ju_ushr a0 r_4) hx hb d_K_register_16 rfl ?_
    refine lv_istore_n (lv' := [(3, .int (ju_ushr a0 r_4)), (0, .ref (ad i)), (1, .int (a0)), (2, .int (a1))]) hx hb d_K_register_17 rfl hl (by decide) rfl (fun ls hl => ?_)
    refine lv_aload_n hx hb d_K_register_18 rfl (lv_at hl 1 rfl) ?_
    refine lv_iload_n hx hb d_K_register_19 rfl (lv_at hl 3 rfl) ?_
    obtain ⟨r_6, g_7, hf⟩ := Option.bind_eq_some_iff.mp hf
    refine ju_calli (W.runV (As := [.int (a1)]) (rest := []) ⟨hx, hb, hml, hown, hts⟩ (c_K_isNarrow l (ad := ad) (sk := sk) (sv := sv) (tK := tK)  i a1 hi r_6 g_7) (cwV 1 hts (aw_V aw_57 aw_59 aw_p1 aw_12 aw_60) rfl rfl rfl (by decide +kernel) ⟨Nat.le_of_ble_eq_true rfl, Nat.le_of_ble_eq_true rfl⟩) ⟨fun a U g mk q => ⟨q.1, q.2.call⟩, tb_recvK hT hi hS, fun U hU hW => ⟨rfl, hT.at hS hU hW (fun _ z => z.elim)⟩⟩ rfl rfl hl.1 rfl (lv_room (Nat.le_of_ble_eq_true rfl)) d_K_register_20 ⟨Nat.le_refl _, Nat.le_refl _⟩) ?_
    refine lv_if_eq (tgt := 36) hx hb d_K_register_23 (by decide) (fun c_8 => ?_) (fun c_8 => ?_)
    · replace hf := (if_pos c_8).symm.trans hf
      refine lv_iload_n hx hb d_K_register_36 rfl (lv_at hl 0 rfl) ?_
      refine lv_bipush (v := 31) hx hb d_K_register_37 (by decide) ?_
      refine lv_iand hx hb d_K_register_39 ?_
      exact W.iret (v := (ju_ushr a0 r_4) &&& 31) hx hb hr (fun t ht hW => ⟨congrArg (fun z => Outcome.returned (some (Value.int z))) (Option.some.inj hf), ht⟩) (fun q h => nomatch h) d_K_register_40
    · replace hf := (if_neg c_8).symm.trans hf
      refine lv_bipush (v := 8) hx hb d_K_register_26 (by decide) ?_
      refine lv_iload_n hx hb d_K_register_28 rfl (lv_at hl 0 rfl) ?_
      refine lv_bipush (v := 7) hx hb d_K_register_29 (by decide) ?_
      refine lv_iand hx hb d_K_register_31 ?_
      refine lv_iadd hx hb d_K_register_32 ?_
      refine lv_goto (tgt := 40) hx hb d_K_register_33 (by decide) ?_
      exact W.iret (v := 8 + ((ju_ushr a0 r_4) &&& 7)) hx hb hr (fun t ht hW => ⟨congrArg (fun z => Outcome.returned (some (Value.int z))) (Option.some.inj hf), ht⟩) (fun q h => nomatch h) d_K_register_40
  · replace hf := (if_pos c_3).symm.trans hf
    refine lv_iconst (v := 0) hx hb d_K_register_8 (by decide) ?_
    exact W.iret (v := 0) hx hb hr (fun t ht hW => ⟨congrArg (fun z => Outcome.returned (some (Value.int z))) (Option.some.inj hf), ht⟩) (fun q h => nomatch h) d_K_register_9

def f_K_registerBits (i : Nat) (a0 : Int32) (a1 : Int32) : Option Int32 :=
  (f_K_has i a0).bind fun r_1 => if (bI r_1) = 0 then (some (0)) else ((f_K_isNarrow i a0).bind fun r_4 => if (bI r_4) = 0 then ((f_K_placeOf i a0).bind fun r_7 => some ((a1 &&& 31) <<< (r_7 &&& 31))) else ((f_K_placeOf i a0).bind fun r_9 => some ((a1 &&& 7) <<< (r_9 &&& 31))))
set_option maxHeartbeats 4000000 in
set_option maxRecDepth 100000 in
theorem c_K_registerBits (l : Launch) {ad sk sv : Nat → Nat} {tK : Nat} (i : Nat) (a0 : Int32) (a1 : Int32) (hi : i < 75) (r : Int32) (hf : f_K_registerBits i a0 a1 = some r) : Met l y_K_registerBits (Cond.code y_K_registerBits b_K_registerBits 3 (Option.some FieldType.int) :: aw) ({ frames := 5, cells := 0, slots := 0, locals := 107 } : Room) (va_Pc [.ref (ad i), .int (a0), .int (a1)] (fun U => tb ad sk sv tK (fun _ => False) U U.heap)) (QcRead r) 0 0 (fun _ => False) := by
  refine Met.ofW (cc := b_K_registerBits) (maxL := 3) (ret := (Option.some FieldType.int)) (by decide) rfl ?_
  intro p e s m args below meth c s₁ B hml hv
  obtain ⟨rfl, hT⟩ := hv
  have hx := B.exec
  have hb := B.bytes
  have hr := B.returns
  have hts := atoms_spec (ws := (Cond.code y_K_registerBits b_K_registerBits 3 (Option.some FieldType.int) :: aw)) B.pre
  have ht : ∀ {w : Cond}, w ∈ aw → w.before ([.ref (ad i), .int (a0), .int (a1)] : List Value).toArray s = true := fun h => hts _ (List.mem_cons_of_mem _ h)
  have hown : s.vm.findClass "CodeWords$Kind" = some m.cls := findClass_of_methodNamed B.named
  have hlocks := B.notSynchronized
  have hS : va_S (fun _ => False) s.heap s.heap [] := va_S.rf
  have hl := lv_entry ([.ref (ad i), .int (a0), .int (a1)]) (n := 3) (Nat.le_of_ble_eq_true rfl)
  rw [lg_entry_eq]
  generalize (lg_sl ([.ref (ad i), .int (a0), .int (a1)]) ++ List.replicate (3 - (lg_sl ([.ref (ad i), .int (a0), .int (a1)])).length) Slot.unset).toArray = ls at hl ⊢
  have hl : lv_has ls 3 [(0, .ref (ad i)), (1, .int (a0)), (2, .int (a1))] := hl
  rw [f_K_registerBits] at hf
  refine lv_aload_n hx hb d_K_registerBits_0 rfl (lv_at hl 0 rfl) ?_
  refine lv_iload_n hx hb d_K_registerBits_1 rfl (lv_at hl 1 rfl) ?_
  obtain ⟨r_1, g_2, hf⟩ := Option.bind_eq_some_iff.mp hf
  refine ju_calli (W.runV (As := [.int (a0)]) (rest := []) ⟨hx, hb, hml, hown, hts⟩ (c_K_has l (ad := ad) (sk := sk) (sv := sv) (tK := tK)  i a0 hi r_1 g_2) (cwV 1 hts (aw_V aw_48 aw_49 aw_50 aw_12 aw_51) rfl rfl rfl (by decide +kernel) ⟨Nat.le_of_ble_eq_true rfl, Nat.le_of_ble_eq_true rfl⟩) ⟨fun a U g mk q => ⟨q.1, q.2.call⟩, tb_recvK hT hi hS, fun U hU hW => ⟨rfl, hT.at hS hU hW (fun _ z => z.elim)⟩⟩ rfl rfl hl.1 rfl (lv_room (Nat.le_of_ble_eq_true rfl)) d_K_registerBits_2 ⟨Nat.le_refl _, Nat.le_refl _⟩) ?_
  refine lv_if_ne (tgt := 10) hx hb d_K_registerBits_5 (by decide) (fun c_3 => ?_) (fun c_3 => ?_)
  · replace hf := (if_neg c_3).symm.trans hf
    refine lv_aload_n hx hb d_K_registerBits_10 rfl (lv_at hl 0 rfl) ?_
    refine lv_iload_n hx hb d_K_registerBits_11 rfl (lv_at hl 1 rfl) ?_
    obtain ⟨r_4, g_5, hf⟩ := Option.bind_eq_some_iff.mp hf
    refine ju_calli (W.runV (As := [.int (a0)]) (rest := []) ⟨hx, hb, hml, hown, hts⟩ (c_K_isNarrow l (ad := ad) (sk := sk) (sv := sv) (tK := tK)  i a0 hi r_4 g_5) (cwV 1 hts (aw_V aw_57 aw_59 aw_p1 aw_12 aw_60) rfl rfl rfl (by decide +kernel) ⟨Nat.le_of_ble_eq_true rfl, Nat.le_of_ble_eq_true rfl⟩) ⟨fun a U g mk q => ⟨q.1, q.2.call⟩, tb_recvK hT hi hS, fun U hU hW => ⟨rfl, hT.at hS hU hW (fun _ z => z.elim)⟩⟩ rfl rfl hl.1 rfl (lv_room (Nat.le_of_ble_eq_true rfl)) d_K_registerBits_12 ⟨Nat.le_refl _, Nat.le_refl _⟩) ?_
    refine lv_if_eq (tgt := 25) hx hb d_K_registerBits_15 (by decide) (fun c_6 => ?_) (fun c_6 => ?_)
    · replace hf := (if_pos c_6).symm.trans hf
      refine lv_iload_n hx hb d_K_registerBits_25 rfl (lv_at hl 2 rfl) ?_
      refine lv_bipush (v := 31) hx hb d_K_registerBits_26 (by decide) ?_
      refine lv_iand hx hb d_K_registerBits_28 ?_
      refine lv_aload_n hx hb d_K_registerBits_29 rfl (lv_at hl 0 rfl) ?_
      refine lv_iload_n hx hb d_K_registerBits_30 rfl (lv_at hl 1 rfl) ?_
      obtain ⟨r_7, g_8, hf⟩ := Option.bind_eq_some_iff.mp hf
      refine ju_calli (W.runV (As := [.int (a0)]) (rest := [.int (a1 &&& 31)]) ⟨hx, hb, hml, hown, hts⟩ (c_K_placeOf l (ad := ad) (sk := sk) (sv := sv) (tK := tK)  i a0 hi r_7 g_8) (cwV 1 hts (aw_V aw_52 aw_54 aw_p0 aw_12 aw_56) rfl rfl rfl (by decide +kernel) ⟨Nat.le_of_ble_eq_true rfl, Nat.le_of_ble_eq_true rfl⟩) ⟨fun a U g mk q => ⟨q.1, q.2.call⟩, tb_recvK hT hi hS, fun U hU hW => ⟨rfl, hT.at hS hU hW (fun _ z => z.elim)⟩⟩ rfl rfl hl.1 rfl (lv_room (Nat.le_of_ble_eq_true rfl)) d_K_registerBits_31 ⟨Nat.le_refl _, Nat.le_refl _⟩) ?_
      refine lv_ishl hx hb d_K_registerBits_34 ?_
      exact W.iret (v := (a1 &&& 31) <<< (r_7 &&& 31)) hx hb hr (fun t ht hW => ⟨congrArg (fun z => Outcome.returned (some (Value.int z))) (Option.some.inj hf), ht⟩) (fun q h => nomatch h) d_K_registerBits_35
    · replace hf := (if_neg c_6).symm.trans hf
      refine lv_iload_n hx hb d_K_registerBits_18 rfl (lv_at hl 2 rfl) ?_
      refine lv_bipush (v := 7) hx hb d_K_registerBits_19 (by decide) ?_
      refine lv_iand hx hb d_K_registerBits_21 ?_
      refine lv_goto (tgt := 29) hx hb d_K_registerBits_22 (by decide) ?_
      refine lv_aload_n hx hb d_K_registerBits_29 rfl (lv_at hl 0 rfl) ?_
      refine lv_iload_n hx hb d_K_registerBits_30 rfl (lv_at hl 1 rfl) ?_
      obtain ⟨r_9, g_10, hf⟩ := Option.bind_eq_some_iff.mp hf
      refine ju_calli (W.runV (As := [.int (a0)]) (rest := [.int (a1 &&& 7)]) ⟨hx, hb, hml, hown, hts⟩ (c_K_placeOf l (ad := ad) (sk := sk) (sv := sv) (tK := tK)  i a0 hi r_9 g_10) (cwV 1 hts (aw_V aw_52 aw_54 aw_p0 aw_12 aw_56) rfl rfl rfl (by decide +kernel) ⟨Nat.le_of_ble_eq_true rfl, Nat.le_of_ble_eq_true rfl⟩) ⟨fun a U g mk q => ⟨q.1, q.2.call⟩, tb_recvK hT hi hS, fun U hU hW => ⟨rfl, hT.at hS hU hW (fun _ z => z.elim)⟩⟩ rfl rfl hl.1 rfl (lv_room (Nat.le_of_ble_eq_true rfl)) d_K_registerBits_31 ⟨Nat.le_refl _, Nat.le_refl _⟩) ?_
      refine lv_ishl hx hb d_K_registerBits_34 ?_
      exact W.iret (v := (a1 &&& 7) <<< (r_9 &&& 31)) hx hb hr (fun t ht hW => ⟨congrArg (fun z => Outcome.returned (some (Value.int z))) (Option.some.inj hf), ht⟩) (fun q h => nomatch h) d_K_registerBits_35
  · replace hf := (if_pos c_3).symm.trans hf
    refine lv_iconst (v := 0) hx hb d_K_registerBits_8 (by decide) ?_
    exact W.iret (v := 0) hx hb hr (fun t ht hW => ⟨congrArg (fun z => Outcome.returned (some (Value.int z))) (Option.some.inj hf), ht⟩) (fun q h => nomatch h) d_K_registerBits_9

def f_K_allowsImmediate_L124 (i : Nat) (a0 : Int64)  (x3 : Int64) (x5 : Int64) (t0 : Int64) : Option (Bool) :=
  if (lg_cmp x3 t0) < 0 then (some false) else (if 0 ≤ (lg_cmp x3 x5) then (some false) else (if (lg_cmp (x3 &&& ((ju_lshl 1 (k_lowestBit i)) - 1)) 0) = 0 then (some true) else (some false)))
def f_K_allowsImmediate_L106 (i : Nat) (a0 : Int64)  (x3 : Int64) (t0 : Int64) : Option (Bool) :=
  (f_K_is i 32).bind fun r_16 => if (bI r_16) = 0 then (f_K_allowsImmediate_L124 i a0  x3 t0 0) else (f_K_allowsImmediate_L124 i a0  x3 t0 (-t0))
def f_K_allowsImmediate_L79 (i : Nat) (a0 : Int64)  (t0 : Int64) : Option (Bool) :=
  (f_K_is i 32).bind fun r_13 => if (bI r_13) = 0 then (f_K_allowsImmediate_L106 i a0  t0 (ju_lshl 2 (k_highestBit i))) else (f_K_allowsImmediate_L106 i a0  t0 (ju_lshl 1 (k_highestBit i)))
def f_K_allowsImmediate_L78 (i : Nat) (a0 : Int64)   : Option (Bool) :=
  f_K_allowsImmediate_L79 i a0  a0
def f_K_allowsImmediate_L52 (i : Nat) (a0 : Int64)   : Option (Bool) :=
  (f_K_is i 256).bind fun r_10 => if (bI r_10) = 0 then (f_K_allowsImmediate_L78 i a0  ) else (if (lg_cmp a0 524288) < 0 then (f_K_allowsImmediate_L78 i a0  ) else (f_K_allowsImmediate_L79 i a0  (a0 - 1048576)))
def f_K_allowsImmediate_L26 (i : Nat) (a0 : Int64)   : Option (Bool) :=
  (f_K_is i 256).bind fun r_7 => if (bI r_7) = 0 then (f_K_allowsImmediate_L52 i a0  ) else (if (lg_cmp a0 0) < 0 then (some false) else (if (lg_cmp a0 1048576) < 0 then (f_K_allowsImmediate_L52 i a0  ) else (some false)))
def f_K_allowsImmediate (i : Nat) (a0 : Int64) : Option Bool :=
  (f_K_has i 8).bind fun r_1 => if (bI r_1) = 0 then (some false) else ((f_K_is i 64).bind fun r_4 => if (bI r_4) = 0 then (f_K_allowsImmediate_L26 i a0  ) else (if (lg_cmp a0 0) = 0 then (some false) else (f_K_allowsImmediate_L26 i a0  )))
set_option maxHeartbeats 4000000 in
set_option maxRecDepth 100000 in
theorem c_K_allowsImmediate (l : Launch) {ad sk sv : Nat → Nat} {tK : Nat} (i : Nat) (a0 : Int64) (hi : i < 75) (r : Bool) (hf : f_K_allowsImmediate i a0 = some r) : Met l y_K_allowsImmediate (Cond.code y_K_allowsImmediate b_K_allowsImmediate 9 (Option.some FieldType.boolean) :: aw) ({ frames := 1, cells := 0, slots := 0, locals := 21 } : Room) (va_Pc [.ref (ad i), .long (a0)] (fun U => tb ad sk sv tK (fun _ => False) U U.heap)) (QcRead (bI r)) 0 0 (fun _ => False) := by
  refine Met.ofW (cc := b_K_allowsImmediate) (maxL := 9) (ret := (Option.some FieldType.boolean)) (by decide) rfl ?_
  intro p e s m args below meth c s₁ B hml hv
  obtain ⟨rfl, hT⟩ := hv
  have hx := B.exec
  have hb := B.bytes
  have hr := B.returns
  have hts := atoms_spec (ws := (Cond.code y_K_allowsImmediate b_K_allowsImmediate 9 (Option.some FieldType.boolean) :: aw)) B.pre
  have ht : ∀ {w : Cond}, w ∈ aw → w.before ([.ref (ad i), .long (a0)] : List Value).toArray s = true := fun h => hts _ (List.mem_cons_of_mem _ h)
  have hown : s.vm.findClass "CodeWords$Kind" = some m.cls := findClass_of_methodNamed B.named
  have hlocks := B.notSynchronized
  have hS : va_S (fun _ => False) s.heap s.heap [] := va_S.rf
  have hl := lv_entry ([.ref (ad i), .long (a0)]) (n := 9) (Nat.le_of_ble_eq_true rfl)
  rw [lg_entry_eq]
  generalize (lg_sl ([.ref (ad i), .long (a0)]) ++ List.replicate (9 - (lg_sl ([.ref (ad i), .long (a0)])).length) Slot.unset).toArray = ls at hl ⊢
  have hl : lv_has ls 9 [(0, .ref (ad i)), (1, .long (a0))] := hl
  have J124 : ∀ (x3 : Int64) (x5 : Int64) (t0 : Int64) (ls : Array Slot), lv_has ls 9 [(0, .ref (ad i)), (1, .long (a0)), (3, .long (x3)), (5, .long (x5))] → f_K_allowsImmediate_L124 i a0  x3 x5 t0 = some r → pW p l e (headSpec (Cond.code y_K_allowsImmediate b_K_allowsImmediate 9 (Option.some FieldType.boolean) :: aw) ({ frames := 1, cells := 0, slots := 0, locals := 21 } : Room)).room s m ([.ref (ad i), .long (a0)] : List Value).toArray below meth c (bI r) (F0 m 124 ls [.long (t0)]) := by
    intro x3 x5 t0  ls  hl hf
    rw [f_K_allowsImmediate_L124] at hf
    refine lv_lstore (lv' := [(7, .long (t0)), (0, .ref (ad i)), (1, .long (a0)), (3, .long (x3)), (5, .long (x5))]) hx hb d_K_allowsImmediate_124 hl (by decide) rfl (fun ls hl => ?_)
    refine lv_lload_n hx hb d_K_allowsImmediate_126 rfl (lv_at hl 3 rfl) ?_
    refine lv_lload hx hb d_K_allowsImmediate_127 (lv_at hl 0 rfl) ?_
    refine W.lcmp hx hb d_K_allowsImmediate_129 ?_
    refine lv_if_lt (tgt := 159) hx hb d_K_allowsImmediate_130 (by decide) (fun c_19 => ?_) (fun c_19 => ?_)
    · replace hf := (if_pos c_19).symm.trans hf
      refine lv_iconst (v := 0) hx hb d_K_allowsImmediate_159 (by decide) ?_
      exact W.zret (v := 0) hx hb hr (ju_nz false) (fun t ht hW => ⟨congrArg (fun z => Outcome.returned (some (Value.int (bI z)))) (Option.some.inj hf), ht⟩) (fun q h => nomatch h) d_K_allowsImmediate_160
    · replace hf := (if_neg c_19).symm.trans hf
      refine lv_lload_n hx hb d_K_allowsImmediate_133 rfl (lv_at hl 3 rfl) ?_
      refine lv_lload hx hb d_K_allowsImmediate_134 (lv_at hl 4 rfl) ?_
      refine W.lcmp hx hb d_K_allowsImmediate_136 ?_
      refine lv_if_ge (tgt := 159) hx hb d_K_allowsImmediate_137 (by decide) (fun c_20 => ?_) (fun c_20 => ?_)
      · replace hf := (if_pos c_20).symm.trans hf
        refine lv_iconst (v := 0) hx hb d_K_allowsImmediate_159 (by decide) ?_
        exact W.zret (v := 0) hx hb hr (ju_nz false) (fun t ht hW => ⟨congrArg (fun z => Outcome.returned (some (Value.int (bI z)))) (Option.some.inj hf), ht⟩) (fun q h => nomatch h) d_K_allowsImmediate_160
      · replace hf := (if_neg c_20).symm.trans hf
        refine lv_lload_n hx hb d_K_allowsImmediate_140 rfl (lv_at hl 3 rfl) ?_
        refine lv_lconst (v := 1) hx hb d_K_allowsImmediate_141 (by decide) ?_
        refine lv_aload_n hx hb d_K_allowsImmediate_142 rfl (lv_at hl 1 rfl) ?_
        refine vk_getf (v := .int (k_lowestBit i)) hx hb (tb_lowestBit hT hi) hS hown (ht aw_771) (fun _ h9 => h9) d_K_allowsImmediate_143 ?_
        refine lv_lshl (v := ju_lshl 1 (k_lowestBit i)) hx hb d_K_allowsImmediate_146 rfl ?_
        refine lv_lconst (v := 1) hx hb d_K_allowsImmediate_147 (by decide) ?_
        refine lv_lsub hx hb d_K_allowsImmediate_148 ?_
        refine lv_land hx hb d_K_allowsImmediate_149 ?_
        refine lv_lconst (v := 0) hx hb d_K_allowsImmediate_150 (by decide) ?_
        refine W.lcmp hx hb d_K_allowsImmediate_151 ?_
        refine lv_if_ne (tgt := 159) hx hb d_K_allowsImmediate_152 (by decide) (fun c_21 => ?_) (fun c_21 => ?_)
        · replace hf := (if_neg c_21).symm.trans hf
          refine lv_iconst (v := 0) hx hb d_K_allowsImmediate_159 (by decide) ?_
          exact W.zret (v := 0) hx hb hr (ju_nz false) (fun t ht hW => ⟨congrArg (fun z => Outcome.returned (some (Value.int (bI z)))) (Option.some.inj hf), ht⟩) (fun q h => nomatch h) d_K_allowsImmediate_160
        · replace hf := (if_pos c_21).symm.trans hf
          refine lv_iconst (v := 1) hx hb d_K_allowsImmediate_155 (by decide) ?_
          refine lv_goto (tgt := 160) hx hb d_K_allowsImmediate_156 (by decide) ?_
          exact W.zret (v := 1) hx hb hr (ju_nz true) (fun t ht hW => ⟨congrArg (fun z => Outcome.returned (some (Value.int (bI z)))) (Option.some.inj hf), ht⟩) (fun q h => nomatch h) d_K_allowsImmediate_160
  have J106 : ∀ (x3 : Int64) (t0 : Int64) (ls : Array Slot), lv_has ls 9 [(0, .ref (ad i)), (1, .long (a0)), (3, .long (x3))] → f_K_allowsImmediate_L106 i a0  x3 t0 = some r → pW p l e (headSpec (Cond.code y_K_allowsImmediate b_K_allowsImmediate 9 (Option.some FieldType.boolean) :: aw) ({ frames := 1, cells := 0, slots := 0, locals := 21 } : Room)).room s m ([.ref (ad i), .long (a0)] : List Value).toArray below meth c (bI r) (F0 m 106 ls [.long (t0)]) := by
    intro x3 t0  ls  hl hf
    rw [f_K_allowsImmediate_L106] at hf
    refine lv_lstore (lv' := [(5, .long (t0)), (0, .ref (ad i)), (1, .long (a0)), (3, .long (x3))]) hx hb d_K_allowsImmediate_106 hl (by decide) rfl (fun ls hl => ?_)
    refine lv_aload_n hx hb d_K_allowsImmediate_108 rfl (lv_at hl 1 rfl) ?_
    refine lv_bipush (v := 32) hx hb d_K_allowsImmediate_109 (by decide) ?_
    obtain ⟨r_16, g_17, hf⟩ := Option.bind_eq_some_iff.mp hf
    refine ju_calli (W.runV (As := [.int (32)]) (rest := []) ⟨hx, hb, hml, hown, hts⟩ (c_K_is l (ad := ad) (sk := sk) (sv := sv) (tK := tK)  i 32 hi r_16 g_17) (cwV 1 hts (aw_V aw_116 aw_118 aw_p2 aw_12 aw_119) rfl rfl rfl (by decide +kernel) ⟨Nat.le_of_ble_eq_true rfl, Nat.le_of_ble_eq_true rfl⟩) ⟨fun a U g mk q => ⟨q.1, q.2.call⟩, tb_recvK hT hi hS, fun U hU hW => ⟨rfl, hT.at hS hU hW (fun _ z => z.elim)⟩⟩ rfl rfl hl.1 rfl (lv_room (Nat.le_of_ble_eq_true rfl)) d_K_allowsImmediate_111 ⟨Nat.le_refl _, Nat.le_refl _⟩) ?_
    refine lv_if_eq (tgt := 123) hx hb d_K_allowsImmediate_114 (by decide) (fun c_18 => ?_) (fun c_18 => ?_)
    · replace hf := (if_pos c_18).symm.trans hf
      refine lv_lconst (v := 0) hx hb d_K_allowsImmediate_123 (by decide) ?_
      exact J124 x3 t0 0  _  (lv_sub hl [1, 2, 3, 0] rfl) hf
    · replace hf := (if_neg c_18).symm.trans hf
      refine lv_lload hx hb d_K_allowsImmediate_117 (lv_at hl 0 rfl) ?_
      refine lv_lneg hx hb d_K_allowsImmediate_119 ?_
      refine lv_goto (tgt := 124) hx hb d_K_allowsImmediate_120 (by decide) ?_
      exact J124 x3 t0 (-t0)  _  (lv_sub hl [1, 2, 3, 0] rfl) hf
  have J79 : ∀ (t0 : Int64) (ls : Array Slot), lv_has ls 9 [(0, .ref (ad i)), (1, .long (a0))] → f_K_allowsImmediate_L79 i a0  t0 = some r → pW p l e (headSpec (Cond.code y_K_allowsImmediate b_K_allowsImmediate 9 (Option.some FieldType.boolean) :: aw) ({ frames := 1, cells := 0, slots := 0, locals := 21 } : Room)).room s m ([.ref (ad i), .long (a0)] : List Value).toArray below meth c (bI r) (F0 m 79 ls [.long (t0)]) := by
    intro t0  ls  hl hf
    rw [f_K_allowsImmediate_L79] at hf
    refine lv_lstore_n (lv' := [(3, .long (t0)), (0, .ref (ad i)), (1, .long (a0))]) hx hb d_K_allowsImmediate_79 rfl hl (by decide) rfl (fun ls hl => ?_)
    refine lv_aload_n hx hb d_K_allowsImmediate_80 rfl (lv_at hl 1 rfl) ?_
    refine lv_bipush (v := 32) hx hb d_K_allowsImmediate_81 (by decide) ?_
    obtain ⟨r_13, g_14, hf⟩ := Option.bind_eq_some_iff.mp hf
    refine ju_calli (W.runV (As := [.int (32)]) (rest := []) ⟨hx, hb, hml, hown, hts⟩ (c_K_is l (ad := ad) (sk := sk) (sv := sv) (tK := tK)  i 32 hi r_13 g_14) (cwV 1 hts (aw_V aw_116 aw_118 aw_p2 aw_12 aw_119) rfl rfl rfl (by decide +kernel) ⟨Nat.le_of_ble_eq_true rfl, Nat.le_of_ble_eq_true rfl⟩) ⟨fun a U g mk q => ⟨q.1, q.2.call⟩, tb_recvK hT hi hS, fun U hU hW => ⟨rfl, hT.at hS hU hW (fun _ z => z.elim)⟩⟩ rfl rfl hl.1 rfl (lv_room (Nat.le_of_ble_eq_true rfl)) d_K_allowsImmediate_83 ⟨Nat.le_refl _, Nat.le_refl _⟩) ?_
    refine lv_if_eq (tgt := 98) hx hb d_K_allowsImmediate_86 (by decide) (fun c_15 => ?_) (fun c_15 => ?_)
    · replace hf := (if_pos c_15).symm.trans hf
      refine lv_ldc2 (v := 2) hx hb hown (ht aw_135) d_K_allowsImmediate_98 ?_
      refine lv_aload_n hx hb d_K_allowsImmediate_101 rfl (lv_at hl 1 rfl) ?_
      refine vk_getf (v := .int (k_highestBit i)) hx hb (tb_highestBit hT hi) hS hown (ht aw_770) (fun _ h9 => h9) d_K_allowsImmediate_102 ?_
      refine lv_lshl (v := ju_lshl 2 (k_highestBit i)) hx hb d_K_allowsImmediate_105 rfl ?_
      exact J106 t0 (ju_lshl 2 (k_highestBit i))  _  (lv_sub hl [1, 2, 0] rfl) hf
    · replace hf := (if_neg c_15).symm.trans hf
      refine lv_lconst (v := 1) hx hb d_K_allowsImmediate_89 (by decide) ?_
      refine lv_aload_n hx hb d_K_allowsImmediate_90 rfl (lv_at hl 1 rfl) ?_
      refine vk_getf (v := .int (k_highestBit i)) hx hb (tb_highestBit hT hi) hS hown (ht aw_770) (fun _ h9 => h9) d_K_allowsImmediate_91 ?_
      refine lv_lshl (v := ju_lshl 1 (k_highestBit i)) hx hb d_K_allowsImmediate_94 rfl ?_
      refine lv_goto (tgt := 106) hx hb d_K_allowsImmediate_95 (by decide) ?_
      exact J106 t0 (ju_lshl 1 (k_highestBit i))  _  (lv_sub hl [1, 2, 0] rfl) hf
  have J78 : ∀  (ls : Array Slot), lv_has ls 9 [(0, .ref (ad i)), (1, .long (a0))] → f_K_allowsImmediate_L78 i a0   = some r → pW p l e (headSpec (Cond.code y_K_allowsImmediate b_K_allowsImmediate 9 (Option.some FieldType.boolean) :: aw) ({ frames := 1, cells := 0, slots := 0, locals := 21 } : Room)).room s m ([.ref (ad i), .long (a0)] : List Value).toArray below meth c (bI r) (F0 m 78 ls []) := by
    intro   ls  hl hf
    rw [f_K_allowsImmediate_L78] at hf
    refine lv_lload_n hx hb d_K_allowsImmediate_78 rfl (lv_at hl 1 rfl) ?_
    exact J79 a0  _  (lv_sub hl [0, 1] rfl) hf
  have J52 : ∀  (ls : Array Slot), lv_has ls 9 [(0, .ref (ad i)), (1, .long (a0))] → f_K_allowsImmediate_L52 i a0   = some r → pW p l e (headSpec (Cond.code y_K_allowsImmediate b_K_allowsImmediate 9 (Option.some FieldType.boolean) :: aw) ({ frames := 1, cells := 0, slots := 0, locals := 21 } : Room)).room s m ([.ref (ad i), .long (a0)] : List Value).toArray below meth c (bI r) (F0 m 52 ls []) := by
    intro   ls  hl hf
    rw [f_K_allowsImmediate_L52] at hf
    refine lv_aload_n hx hb d_K_allowsImmediate_52 rfl (lv_at hl 0 rfl) ?_
    refine lv_sipush (v := 256) hx hb d_K_allowsImmediate_53 (by decide) ?_
    obtain ⟨r_10, g_11, hf⟩ := Option.bind_eq_some_iff.mp hf
    refine ju_calli (W.runV (As := [.int (256)]) (rest := []) ⟨hx, hb, hml, hown, hts⟩ (c_K_is l (ad := ad) (sk := sk) (sv := sv) (tK := tK)  i 256 hi r_10 g_11) (cwV 1 hts (aw_V aw_116 aw_118 aw_p2 aw_12 aw_119) rfl rfl rfl (by decide +kernel) ⟨Nat.le_of_ble_eq_true rfl, Nat.le_of_ble_eq_true rfl⟩) ⟨fun a U g mk q => ⟨q.1, q.2.call⟩, tb_recvK hT hi hS, fun U hU hW => ⟨rfl, hT.at hS hU hW (fun _ z => z.elim)⟩⟩ rfl rfl hl.1 rfl (lv_room (Nat.le_of_ble_eq_true rfl)) d_K_allowsImmediate_56 ⟨Nat.le_refl _, Nat.le_refl _⟩) ?_
    refine lv_if_eq (tgt := 78) hx hb d_K_allowsImmediate_59 (by decide) (fun c_12 => ?_) (fun c_12 => ?_)
    · replace hf := (if_pos c_12).symm.trans hf
      exact J78   _  (lv_sub hl [0, 1] rfl) hf
    · replace hf := (if_neg c_12).symm.trans hf
      refine lv_lload_n hx hb d_K_allowsImmediate_62 rfl (lv_at hl 1 rfl) ?_
      refine lv_ldc2 (v := 524288) hx hb hown (ht aw_134) d_K_allowsImmediate_63 ?_
      refine W.lcmp hx hb d_K_allowsImmediate_66 ?_
      refine lv_if_lt (tgt := 78) hx hb d_K_allowsImmediate_67 (by decide) (fun c_22 => ?_) (fun c_22 => ?_)
      · replace hf := (if_pos c_22).symm.trans hf
        exact J78   _  (lv_sub hl [0, 1] rfl) hf
      · replace hf := (if_neg c_22).symm.trans hf
        refine lv_lload_n hx hb d_K_allowsImmediate_70 rfl (lv_at hl 1 rfl) ?_
        refine lv_ldc2 (v := 1048576) hx hb hown (ht aw_133) d_K_allowsImmediate_71 ?_
        refine lv_lsub hx hb d_K_allowsImmediate_74 ?_
        refine lv_goto (tgt := 79) hx hb d_K_allowsImmediate_75 (by decide) ?_
        exact J79 (a0 - 1048576)  _  (lv_sub hl [0, 1] rfl) hf
  have J26 : ∀  (ls : Array Slot), lv_has ls 9 [(0, .ref (ad i)), (1, .long (a0))] → f_K_allowsImmediate_L26 i a0   = some r → pW p l e (headSpec (Cond.code y_K_allowsImmediate b_K_allowsImmediate 9 (Option.some FieldType.boolean) :: aw) ({ frames := 1, cells := 0, slots := 0, locals := 21 } : Room)).room s m ([.ref (ad i), .long (a0)] : List Value).toArray below meth c (bI r) (F0 m 26 ls []) := by
    intro   ls  hl hf
    rw [f_K_allowsImmediate_L26] at hf
    refine lv_aload_n hx hb d_K_allowsImmediate_26 rfl (lv_at hl 0 rfl) ?_
    refine lv_sipush (v := 256) hx hb d_K_allowsImmediate_27 (by decide) ?_
    obtain ⟨r_7, g_8, hf⟩ := Option.bind_eq_some_iff.mp hf
    refine ju_calli (W.runV (As := [.int (256)]) (rest := []) ⟨hx, hb, hml, hown, hts⟩ (c_K_is l (ad := ad) (sk := sk) (sv := sv) (tK := tK)  i 256 hi r_7 g_8) (cwV 1 hts (aw_V aw_116 aw_118 aw_p2 aw_12 aw_119) rfl rfl rfl (by decide +kernel) ⟨Nat.le_of_ble_eq_true rfl, Nat.le_of_ble_eq_true rfl⟩) ⟨fun a U g mk q => ⟨q.1, q.2.call⟩, tb_recvK hT hi hS, fun U hU hW => ⟨rfl, hT.at hS hU hW (fun _ z => z.elim)⟩⟩ rfl rfl hl.1 rfl (lv_room (Nat.le_of_ble_eq_true rfl)) d_K_allowsImmediate_30 ⟨Nat.le_refl _, Nat.le_refl _⟩) ?_
    refine lv_if_eq (tgt := 52) hx hb d_K_allowsImmediate_33 (by decide) (fun c_9 => ?_) (fun c_9 => ?_)
    · replace hf := (if_pos c_9).symm.trans hf
      exact J52   _  (lv_sub hl [0, 1] rfl) hf
    · replace hf := (if_neg c_9).symm.trans hf
      refine lv_lload_n hx hb d_K_allowsImmediate_36 rfl (lv_at hl 1 rfl) ?_
      refine lv_lconst (v := 0) hx hb d_K_allowsImmediate_37 (by decide) ?_
      refine W.lcmp hx hb d_K_allowsImmediate_38 ?_
      refine lv_if_lt (tgt := 50) hx hb d_K_allowsImmediate_39 (by decide) (fun c_23 => ?_) (fun c_23 => ?_)
      · replace hf := (if_pos c_23).symm.trans hf
        refine lv_iconst (v := 0) hx hb d_K_allowsImmediate_50 (by decide) ?_
        exact W.zret (v := 0) hx hb hr (ju_nz false) (fun t ht hW => ⟨congrArg (fun z => Outcome.returned (some (Value.int (bI z)))) (Option.some.inj hf), ht⟩) (fun q h => nomatch h) d_K_allowsImmediate_51
      · replace hf := (if_neg c_23).symm.trans hf
        refine lv_lload_n hx hb d_K_allowsImmediate_42 rfl (lv_at hl 1 rfl) ?_
        refine lv_ldc2 (v := 1048576) hx hb hown (ht aw_133) d_K_allowsImmediate_43 ?_
        refine W.lcmp hx hb d_K_allowsImmediate_46 ?_
        refine lv_if_lt (tgt := 52) hx hb d_K_allowsImmediate_47 (by decide) (fun c_24 => ?_) (fun c_24 => ?_)
        · replace hf := (if_pos c_24).symm.trans hf
          exact J52   _  (lv_sub hl [0, 1] rfl) hf
        · replace hf := (if_neg c_24).symm.trans hf
          refine lv_iconst (v := 0) hx hb d_K_allowsImmediate_50 (by decide) ?_
          exact W.zret (v := 0) hx hb hr (ju_nz false) (fun t ht hW => ⟨congrArg (fun z => Outcome.returned (some (Value.int (bI z)))) (Option.some.inj hf), ht⟩) (fun q h => nomatch h) d_K_allowsImmediate_51
  rw [f_K_allowsImmediate] at hf
  refine lv_aload_n hx hb d_K_allowsImmediate_0 rfl (lv_at hl 0 rfl) ?_
  refine lv_bipush (v := 8) hx hb d_K_allowsImmediate_1 (by decide) ?_
  obtain ⟨r_1, g_2, hf⟩ := Option.bind_eq_some_iff.mp hf
  refine ju_calli (W.runV (As := [.int (8)]) (rest := []) ⟨hx, hb, hml, hown, hts⟩ (c_K_has l (ad := ad) (sk := sk) (sv := sv) (tK := tK)  i 8 hi r_1 g_2) (cwV 1 hts (aw_V aw_48 aw_49 aw_50 aw_12 aw_51) rfl rfl rfl (by decide +kernel) ⟨Nat.le_of_ble_eq_true rfl, Nat.le_of_ble_eq_true rfl⟩) ⟨fun a U g mk q => ⟨q.1, q.2.call⟩, tb_recvK hT hi hS, fun U hU hW => ⟨rfl, hT.at hS hU hW (fun _ z => z.elim)⟩⟩ rfl rfl hl.1 rfl (lv_room (Nat.le_of_ble_eq_true rfl)) d_K_allowsImmediate_3 ⟨Nat.le_refl _, Nat.le_refl _⟩) ?_
  refine lv_if_eq (tgt := 24) hx hb d_K_allowsImmediate_6 (by decide) (fun c_3 => ?_) (fun c_3 => ?_)
  · replace hf := (if_pos c_3).symm.trans hf
    refine lv_iconst (v := 0) hx hb d_K_allowsImmediate_24 (by decide) ?_
    exact W.zret (v := 0) hx hb hr (ju_nz false) (fun t ht hW => ⟨congrArg (fun z => Outcome.returned (some (Value.int (bI z)))) (Option.some.inj hf), ht⟩) (fun q h => nomatch h) d_K_allowsImmediate_25
  · replace hf := (if_neg c_3).symm.trans hf
    refine lv_aload_n hx hb d_K_allowsImmediate_9 rfl (lv_at hl 0 rfl) ?_
    refine lv_bipush (v := 64) hx hb d_K_allowsImmediate_10 (by decide) ?_
    obtain ⟨r_4, g_5, hf⟩ := Option.bind_eq_some_iff.mp hf
    refine ju_calli (W.runV (As := [.int (64)]) (rest := []) ⟨hx, hb, hml, hown, hts⟩ (c_K_is l (ad := ad) (sk := sk) (sv := sv) (tK := tK)  i 64 hi r_4 g_5) (cwV 1 hts (aw_V aw_116 aw_118 aw_p2 aw_12 aw_119) rfl rfl rfl (by decide +kernel) ⟨Nat.le_of_ble_eq_true rfl, Nat.le_of_ble_eq_true rfl⟩) ⟨fun a U g mk q => ⟨q.1, q.2.call⟩, tb_recvK hT hi hS, fun U hU hW => ⟨rfl, hT.at hS hU hW (fun _ z => z.elim)⟩⟩ rfl rfl hl.1 rfl (lv_room (Nat.le_of_ble_eq_true rfl)) d_K_allowsImmediate_12 ⟨Nat.le_refl _, Nat.le_refl _⟩) ?_
    refine lv_if_eq (tgt := 26) hx hb d_K_allowsImmediate_15 (by decide) (fun c_6 => ?_) (fun c_6 => ?_)
    · replace hf := (if_pos c_6).symm.trans hf
      exact J26   _  (lv_sub hl [0, 1] rfl) hf
    · replace hf := (if_neg c_6).symm.trans hf
      refine lv_lload_n hx hb d_K_allowsImmediate_18 rfl (lv_at hl 1 rfl) ?_
      refine lv_lconst (v := 0) hx hb d_K_allowsImmediate_19 (by decide) ?_
      refine W.lcmp hx hb d_K_allowsImmediate_20 ?_
      refine lv_if_ne (tgt := 26) hx hb d_K_allowsImmediate_21 (by decide) (fun c_25 => ?_) (fun c_25 => ?_)
      · replace hf := (if_neg c_25).symm.trans hf
        exact J26   _  (lv_sub hl [0, 1] rfl) hf
      · replace hf := (if_pos c_25).symm.trans hf
        refine lv_iconst (v := 0) hx hb d_K_allowsImmediate_24 (by decide) ?_
        exact W.zret (v := 0) hx hb hr (ju_nz false) (fun t ht hW => ⟨congrArg (fun z => Outcome.returned (some (Value.int (bI z)))) (Option.some.inj hf), ht⟩) (fun q h => nomatch h) d_K_allowsImmediate_25

def f_K_allowsRegister (i : Nat) (a0 : Int32) (a1 : Int32) : Option Bool :=
  (f_K_has i a0).bind fun r_1 => if (bI r_1) = 0 then (some true) else ((f_K_isNarrow i a0).bind fun r_4 => if (bI r_4) = 0 then (if a1 = 0 then ((f_S_length (k_layout i)).bind fun r_14 => if r_14 = 32 then (some true) else ((f_K_is i 128).bind fun r_17 => if (bI r_17) = 0 then (some false) else (some true))) else (if a1 = 2 then ((f_K_is i 256).bind fun r_11 => if (bI r_11) = 0 then (some true) else (some false)) else (if a1 ≤ 0 then (some false) else (if 31 < a1 then (some false) else (some true))))) else (if a1 < 8 then (some false) else (if 15 < a1 then (some false) else (some true))))
set_option maxHeartbeats 4000000 in
set_option maxRecDepth 100000 in
theorem c_K_allowsRegister (l : Launch) {ad sk sv : Nat → Nat} {tK : Nat} (i : Nat) (a0 : Int32) (a1 : Int32) (hi : i < 75) (r : Bool) (hf : f_K_allowsRegister i a0 a1 = some r) : Met l y_K_allowsRegister (Cond.code y_K_allowsRegister b_K_allowsRegister 3 (Option.some FieldType.boolean) :: aw) ({ frames := 5, cells := 0, slots := 0, locals := 107 } : Room) (va_Pc [.ref (ad i), .int (a0), .int (a1)] (fun U => tb ad sk sv tK (fun _ => False) U U.heap)) (QcRead (bI r)) 0 0 (fun _ => False) := by
  refine Met.ofW (cc := b_K_allowsRegister) (maxL := 3) (ret := (Option.some FieldType.boolean)) (by decide) rfl ?_
  intro p e s m args below meth c s₁ B hml hv
  obtain ⟨rfl, hT⟩ := hv
  have hx := B.exec
  have hb := B.bytes
  have hr := B.returns
  have hts := atoms_spec (ws := (Cond.code y_K_allowsRegister b_K_allowsRegister 3 (Option.some FieldType.boolean) :: aw)) B.pre
  have ht : ∀ {w : Cond}, w ∈ aw → w.before ([.ref (ad i), .int (a0), .int (a1)] : List Value).toArray s = true := fun h => hts _ (List.mem_cons_of_mem _ h)
  have hown : s.vm.findClass "CodeWords$Kind" = some m.cls := findClass_of_methodNamed B.named
  have hlocks := B.notSynchronized
  have hS : va_S (fun _ => False) s.heap s.heap [] := va_S.rf
  have hl := lv_entry ([.ref (ad i), .int (a0), .int (a1)]) (n := 3) (Nat.le_of_ble_eq_true rfl)
  rw [lg_entry_eq]
  generalize (lg_sl ([.ref (ad i), .int (a0), .int (a1)]) ++ List.replicate (3 - (lg_sl ([.ref (ad i), .int (a0), .int (a1)])).length) Slot.unset).toArray = ls at hl ⊢
  have hl : lv_has ls 3 [(0, .ref (ad i)), (1, .int (a0)), (2, .int (a1))] := hl
  rw [f_K_allowsRegister] at hf
  refine lv_aload_n hx hb d_K_allowsRegister_0 rfl (lv_at hl 0 rfl) ?_
  refine lv_iload_n hx hb d_K_allowsRegister_1 rfl (lv_at hl 1 rfl) ?_
  obtain ⟨r_1, g_2, hf⟩ := Option.bind_eq_some_iff.mp hf
  refine ju_calli (W.runV (As := [.int (a0)]) (rest := []) ⟨hx, hb, hml, hown, hts⟩ (c_K_has l (ad := ad) (sk := sk) (sv := sv) (tK := tK)  i a0 hi r_1 g_2) (cwV 1 hts (aw_V aw_48 aw_49 aw_50 aw_12 aw_51) rfl rfl rfl (by decide +kernel) ⟨Nat.le_of_ble_eq_true rfl, Nat.le_of_ble_eq_true rfl⟩) ⟨fun a U g mk q => ⟨q.1, q.2.call⟩, tb_recvK hT hi hS, fun U hU hW => ⟨rfl, hT.at hS hU hW (fun _ z => z.elim)⟩⟩ rfl rfl hl.1 rfl (lv_room (Nat.le_of_ble_eq_true rfl)) d_K_allowsRegister_2 ⟨Nat.le_refl _, Nat.le_refl _⟩) ?_
  refine lv_if_ne (tgt := 10) hx hb d_K_allowsRegister_5 (by decide) (fun c_3 => ?_) (fun c_3 => ?_)
  · replace hf := (if_neg c_3).symm.trans hf
    refine lv_aload_n hx hb d_K_allowsRegister_10 rfl (lv_at hl 0 rfl) ?_
    refine lv_iload_n hx hb d_K_allowsRegister_11 rfl (lv_at hl 1 rfl) ?_
    obtain ⟨r_4, g_5, hf⟩ := Option.bind_eq_some_iff.mp hf
    refine ju_calli (W.runV (As := [.int (a0)]) (rest := []) ⟨hx, hb, hml, hown, hts⟩ (c_K_isNarrow l (ad := ad) (sk := sk) (sv := sv) (tK := tK)  i a0 hi r_4 g_5) (cwV 1 hts (aw_V aw_57 aw_59 aw_p1 aw_12 aw_60) rfl rfl rfl (by decide +kernel) ⟨Nat.le_of_ble_eq_true rfl, Nat.le_of_ble_eq_true rfl⟩) ⟨fun a U g mk q => ⟨q.1, q.2.call⟩, tb_recvK hT hi hS, fun U hU hW => ⟨rfl, hT.at hS hU hW (fun _ z => z.elim)⟩⟩ rfl rfl hl.1 rfl (lv_room (Nat.le_of_ble_eq_true rfl)) d_K_allowsRegister_12 ⟨Nat.le_refl _, Nat.le_refl _⟩) ?_
    refine lv_if_eq (tgt := 36) hx hb d_K_allowsRegister_15 (by decide) (fun c_6 => ?_) (fun c_6 => ?_)
    · replace hf := (if_pos c_6).symm.trans hf
      refine lv_iload_n hx hb d_K_allowsRegister_36 rfl (lv_at hl 2 rfl) ?_
      refine lv_if_ne (tgt := 68) hx hb d_K_allowsRegister_37 (by decide) (fun c_7 => ?_) (fun c_7 => ?_)
      · replace hf := (if_neg c_7).symm.trans hf
        refine lv_iload_n hx hb d_K_allowsRegister_68 rfl (lv_at hl 2 rfl) ?_
        refine lv_iconst (v := 2) hx hb d_K_allowsRegister_69 (by decide) ?_
        refine lv_icmp_ne (tgt := 89) hx hb d_K_allowsRegister_70 (by decide) (fun c_8 => ?_) (fun c_8 => ?_)
        · replace hf := (if_neg c_8).symm.trans hf
          refine lv_iload_n hx hb d_K_allowsRegister_89 rfl (lv_at hl 2 rfl) ?_
          refine lv_if_le (tgt := 103) hx hb d_K_allowsRegister_90 (by decide) (fun c_9 => ?_) (fun c_9 => ?_)
          · replace hf := (if_pos c_9).symm.trans hf
            refine lv_iconst (v := 0) hx hb d_K_allowsRegister_103 (by decide) ?_
            exact W.zret (v := 0) hx hb hr (ju_nz false) (fun t ht hW => ⟨congrArg (fun z => Outcome.returned (some (Value.int (bI z)))) (Option.some.inj hf), ht⟩) (fun q h => nomatch h) d_K_allowsRegister_104
          · replace hf := (if_neg c_9).symm.trans hf
            refine lv_iload_n hx hb d_K_allowsRegister_93 rfl (lv_at hl 2 rfl) ?_
            refine lv_bipush (v := 31) hx hb d_K_allowsRegister_94 (by decide) ?_
            refine lv_icmp_gt (tgt := 103) hx hb d_K_allowsRegister_96 (by decide) (fun c_10 => ?_) (fun c_10 => ?_)
            · replace hf := (if_pos c_10).symm.trans hf
              refine lv_iconst (v := 0) hx hb d_K_allowsRegister_103 (by decide) ?_
              exact W.zret (v := 0) hx hb hr (ju_nz false) (fun t ht hW => ⟨congrArg (fun z => Outcome.returned (some (Value.int (bI z)))) (Option.some.inj hf), ht⟩) (fun q h => nomatch h) d_K_allowsRegister_104
            · replace hf := (if_neg c_10).symm.trans hf
              refine lv_iconst (v := 1) hx hb d_K_allowsRegister_99 (by decide) ?_
              refine lv_goto (tgt := 104) hx hb d_K_allowsRegister_100 (by decide) ?_
              exact W.zret (v := 1) hx hb hr (ju_nz true) (fun t ht hW => ⟨congrArg (fun z => Outcome.returned (some (Value.int (bI z)))) (Option.some.inj hf), ht⟩) (fun q h => nomatch h) d_K_allowsRegister_104
        · replace hf := (if_pos c_8).symm.trans hf
          refine lv_aload_n hx hb d_K_allowsRegister_73 rfl (lv_at hl 0 rfl) ?_
          refine lv_sipush (v := 256) hx hb d_K_allowsRegister_74 (by decide) ?_
          obtain ⟨r_11, g_12, hf⟩ := Option.bind_eq_some_iff.mp hf
          refine ju_calli (W.runV (As := [.int (256)]) (rest := []) ⟨hx, hb, hml, hown, hts⟩ (c_K_is l (ad := ad) (sk := sk) (sv := sv) (tK := tK)  i 256 hi r_11 g_12) (cwV 1 hts (aw_V aw_116 aw_118 aw_p2 aw_12 aw_119) rfl rfl rfl (by decide +kernel) ⟨Nat.le_of_ble_eq_true rfl, Nat.le_of_ble_eq_true rfl⟩) ⟨fun a U g mk q => ⟨q.1, q.2.call⟩, tb_recvK hT hi hS, fun U hU hW => ⟨rfl, hT.at hS hU hW (fun _ z => z.elim)⟩⟩ rfl rfl hl.1 rfl (lv_room (Nat.le_of_ble_eq_true rfl)) d_K_allowsRegister_77 ⟨Nat.le_refl _, Nat.le_refl _⟩) ?_
          refine lv_if_ne (tgt := 87) hx hb d_K_allowsRegister_80 (by decide) (fun c_13 => ?_) (fun c_13 => ?_)
          · replace hf := (if_neg c_13).symm.trans hf
            refine lv_iconst (v := 0) hx hb d_K_allowsRegister_87 (by decide) ?_
            exact W.zret (v := 0) hx hb hr (ju_nz false) (fun t ht hW => ⟨congrArg (fun z => Outcome.returned (some (Value.int (bI z)))) (Option.some.inj hf), ht⟩) (fun q h => nomatch h) d_K_allowsRegister_88
          · replace hf := (if_pos c_13).symm.trans hf
            refine lv_iconst (v := 1) hx hb d_K_allowsRegister_83 (by decide) ?_
            refine lv_goto (tgt := 88) hx hb d_K_allowsRegister_84 (by decide) ?_
            exact W.zret (v := 1) hx hb hr (ju_nz true) (fun t ht hW => ⟨congrArg (fun z => Outcome.returned (some (Value.int (bI z)))) (Option.some.inj hf), ht⟩) (fun q h => nomatch h) d_K_allowsRegister_88
      · replace hf := (if_pos c_7).symm.trans hf
        refine lv_aload_n hx hb d_K_allowsRegister_40 rfl (lv_at hl 0 rfl) ?_
        refine vk_getf (v := .ref (sk (k_layout i))) hx hb (tb_layout hT hi) hS hown (ht aw_763) (fun _ h9 => h9) d_K_allowsRegister_41 ?_
        obtain ⟨r_14, g_15, hf⟩ := Option.bind_eq_some_iff.mp hf
        refine ju_calli (W.runV (As := []) (rest := []) ⟨hx, hb, hml, hown, hts⟩ (c_S_length l (ad := ad) (sk := sk) (sv := sv) (tK := tK)  (k_layout i) (k_layout_lt hi) r_14 g_15) (cwV 0 hts (aw_V aw_61 aw_62 aw_63 aw_7 aw_64) rfl rfl rfl (by decide +kernel) ⟨Nat.le_of_ble_eq_true rfl, Nat.le_of_ble_eq_true rfl⟩) ⟨fun a U g mk q => ⟨q.1, q.2.call⟩, tb_recvS hT (k_layout_lt hi) hS, fun U hU hW => ⟨rfl, hT.at hS hU hW (fun _ z => z.elim)⟩⟩ rfl rfl hl.1 rfl (lv_room (Nat.le_of_ble_eq_true rfl)) d_K_allowsRegister_44 ⟨Nat.le_refl _, Nat.le_refl _⟩) ?_
        refine lv_bipush (v := 32) hx hb d_K_allowsRegister_47 (by decide) ?_
        refine lv_icmp_eq (tgt := 62) hx hb d_K_allowsRegister_49 (by decide) (fun c_16 => ?_) (fun c_16 => ?_)
        · replace hf := (if_pos c_16).symm.trans hf
          refine lv_iconst (v := 1) hx hb d_K_allowsRegister_62 (by decide) ?_
          refine lv_goto (tgt := 67) hx hb d_K_allowsRegister_63 (by decide) ?_
          exact W.zret (v := 1) hx hb hr (ju_nz true) (fun t ht hW => ⟨congrArg (fun z => Outcome.returned (some (Value.int (bI z)))) (Option.some.inj hf), ht⟩) (fun q h => nomatch h) d_K_allowsRegister_67
        · replace hf := (if_neg c_16).symm.trans hf
          refine lv_aload_n hx hb d_K_allowsRegister_52 rfl (lv_at hl 0 rfl) ?_
          refine lv_sipush (v := 128) hx hb d_K_allowsRegister_53 (by decide) ?_
          obtain ⟨r_17, g_18, hf⟩ := Option.bind_eq_some_iff.mp hf
          refine ju_calli (W.runV (As := [.int (128)]) (rest := []) ⟨hx, hb, hml, hown, hts⟩ (c_K_is l (ad := ad) (sk := sk) (sv := sv) (tK := tK)  i 128 hi r_17 g_18) (cwV 1 hts (aw_V aw_116 aw_118 aw_p2 aw_12 aw_119) rfl rfl rfl (by decide +kernel) ⟨Nat.le_of_ble_eq_true rfl, Nat.le_of_ble_eq_true rfl⟩) ⟨fun a U g mk q => ⟨q.1, q.2.call⟩, tb_recvK hT hi hS, fun U hU hW => ⟨rfl, hT.at hS hU hW (fun _ z => z.elim)⟩⟩ rfl rfl hl.1 rfl (lv_room (Nat.le_of_ble_eq_true rfl)) d_K_allowsRegister_56 ⟨Nat.le_refl _, Nat.le_refl _⟩) ?_
          refine lv_if_eq (tgt := 66) hx hb d_K_allowsRegister_59 (by decide) (fun c_19 => ?_) (fun c_19 => ?_)
          · replace hf := (if_pos c_19).symm.trans hf
            refine lv_iconst (v := 0) hx hb d_K_allowsRegister_66 (by decide) ?_
            exact W.zret (v := 0) hx hb hr (ju_nz false) (fun t ht hW => ⟨congrArg (fun z => Outcome.returned (some (Value.int (bI z)))) (Option.some.inj hf), ht⟩) (fun q h => nomatch h) d_K_allowsRegister_67
          · replace hf := (if_neg c_19).symm.trans hf
            refine lv_iconst (v := 1) hx hb d_K_allowsRegister_62 (by decide) ?_
            refine lv_goto (tgt := 67) hx hb d_K_allowsRegister_63 (by decide) ?_
            exact W.zret (v := 1) hx hb hr (ju_nz true) (fun t ht hW => ⟨congrArg (fun z => Outcome.returned (some (Value.int (bI z)))) (Option.some.inj hf), ht⟩) (fun q h => nomatch h) d_K_allowsRegister_67
    · replace hf := (if_neg c_6).symm.trans hf
      refine lv_iload_n hx hb d_K_allowsRegister_18 rfl (lv_at hl 2 rfl) ?_
      refine lv_bipush (v := 8) hx hb d_K_allowsRegister_19 (by decide) ?_
      refine lv_icmp_lt (tgt := 34) hx hb d_K_allowsRegister_21 (by decide) (fun c_20 => ?_) (fun c_20 => ?_)
      · replace hf := (if_pos c_20).symm.trans hf
        refine lv_iconst (v := 0) hx hb d_K_allowsRegister_34 (by decide) ?_
        exact W.zret (v := 0) hx hb hr (ju_nz false) (fun t ht hW => ⟨congrArg (fun z => Outcome.returned (some (Value.int (bI z)))) (Option.some.inj hf), ht⟩) (fun q h => nomatch h) d_K_allowsRegister_35
      · replace hf := (if_neg c_20).symm.trans hf
        refine lv_iload_n hx hb d_K_allowsRegister_24 rfl (lv_at hl 2 rfl) ?_
        refine lv_bipush (v := 15) hx hb d_K_allowsRegister_25 (by decide) ?_
        refine lv_icmp_gt (tgt := 34) hx hb d_K_allowsRegister_27 (by decide) (fun c_21 => ?_) (fun c_21 => ?_)
        · replace hf := (if_pos c_21).symm.trans hf
          refine lv_iconst (v := 0) hx hb d_K_allowsRegister_34 (by decide) ?_
          exact W.zret (v := 0) hx hb hr (ju_nz false) (fun t ht hW => ⟨congrArg (fun z => Outcome.returned (some (Value.int (bI z)))) (Option.some.inj hf), ht⟩) (fun q h => nomatch h) d_K_allowsRegister_35
        · replace hf := (if_neg c_21).symm.trans hf
          refine lv_iconst (v := 1) hx hb d_K_allowsRegister_30 (by decide) ?_
          refine lv_goto (tgt := 35) hx hb d_K_allowsRegister_31 (by decide) ?_
          exact W.zret (v := 1) hx hb hr (ju_nz true) (fun t ht hW => ⟨congrArg (fun z => Outcome.returned (some (Value.int (bI z)))) (Option.some.inj hf), ht⟩) (fun q h => nomatch h) d_K_allowsRegister_35
  · replace hf := (if_pos c_3).symm.trans hf
    refine lv_iconst (v := 1) hx hb d_K_allowsRegister_8 (by decide) ?_
    exact W.zret (v := 1) hx hb hr (ju_nz true) (fun t ht hW => ⟨congrArg (fun z => Outcome.returned (some (Value.int (bI z)))) (Option.some.inj hf), ht⟩) (fun q h => nomatch h) d_K_allowsRegister_9

def f_K_immediate_L105 (i : Nat) (a0 : Int32)  (x2 : Int32) (x3 : Int32) : Option (Int32) :=
  (f_K_is i 256).bind fun r_10 => if (bI r_10) = 0 then (some (x2)) else (some (x2 &&& 1048575))
def f_K_immediate_L15 (i : Nat) (a0 : Int32)  : Nat → Int32 → Int32 → Option (Int32)
  | 0, _, _ => none
  | n + 1, x2, x3 =>
    (f_S_length (k_layout i)).bind fun r_4 => if r_4 ≤ x3 then ((f_K_is i 32).bind fun r_7 => if (bI r_7) = 0 then (f_K_immediate_L105 i a0  x2 x3) else (if ((x2 >>> ((k_highestBit i) &&& 31)) &&& 1) = 0 then (f_K_immediate_L105 i a0  x2 x3) else (f_K_immediate_L105 i a0  (x2 - ((2 : Int32) <<< ((k_highestBit i) &&& 31))) x3))) else ((f_S_charAt (k_layout i) x3).bind fun r_14 => (f_K_partOf r_14).bind fun r_16 => if r_16 = 8 then ((f_S_length (k_layout i)).bind fun r_19 => f_K_immediate_L15 i a0  n (x2 ||| (((ju_ushr a0 ((r_19 - 1) - x3)) &&& 1) <<< ((r_14 - 65) &&& 31))) (x3 + 1)) else (f_K_immediate_L15 i a0  n x2 (x3 + 1)))
def f_K_immediate (i : Nat) (a0 : Int32) : Option Int32 :=
  (f_K_has i 8).bind fun r_1 => if (bI r_1) = 0 then (some (0)) else (f_K_immediate_L15 i a0  40 0 0)
set_option maxHeartbeats 4000000 in
set_option maxRecDepth 100000 in
theorem c_K_immediate (l : Launch) {ad sk sv : Nat → Nat} {tK : Nat} (i : Nat) (a0 : Int32) (hi : i < 75) (r : Int32) (hf : f_K_immediate i a0 = some r) : Met l y_K_immediate (Cond.code y_K_immediate b_K_immediate 5 (Option.some FieldType.int) :: aw) ({ frames := 4, cells := 0, slots := 0, locals := 85 } : Room) (va_Pc [.ref (ad i), .int (a0)] (fun U => tb ad sk sv tK (fun _ => False) U U.heap)) (QcRead r) 0 0 (fun _ => False) := by
  refine Met.ofW (cc := b_K_immediate) (maxL := 5) (ret := (Option.some FieldType.int)) (by decide) rfl ?_
  intro p e s m args below meth c s₁ B hml hv
  obtain ⟨rfl, hT⟩ := hv
  have hx := B.exec
  have hb := B.bytes
  have hr := B.returns
  have hts := atoms_spec (ws := (Cond.code y_K_immediate b_K_immediate 5 (Option.some FieldType.int) :: aw)) B.pre
  have ht : ∀ {w : Cond}, w ∈ aw → w.before ([.ref (ad i), .int (a0)] : List Value).toArray s = true := fun h => hts _ (List.mem_cons_of_mem _ h)
  have hown : s.vm.findClass "CodeWords$Kind" = some m.cls := findClass_of_methodNamed B.named
  have hlocks := B.notSynchronized
  have hS : va_S (fun _ => False) s.heap s.heap [] := va_S.rf
  have hl := lv_entry ([.ref (ad i), .int (a0)]) (n := 5) (Nat.le_of_ble_eq_true rfl)
  rw [lg_entry_eq]
  generalize (lg_sl ([.ref (ad i), .int (a0)]) ++ List.replicate (5 - (lg_sl ([.ref (ad i), .int (a0)])).length) Slot.unset).toArray = ls at hl ⊢
  have hl : lv_has ls 5 [(0, .ref (ad i)), (1, .int (a0))] := hl
  have J105 : ∀ (x2 : Int32) (x3 : Int32) (ls : Array Slot), lv_has ls 5 [(0, .ref (ad i)), (1, .int (a0)), (2, .int (x2)), (3, .int (x3))] → f_K_immediate_L105 i a0  x2 x3 = some r → pW p l e (headSpec (Cond.code y_K_immediate b_K_immediate 5 (Option.some FieldType.int) :: aw) ({ frames := 4, cells := 0, slots := 0, locals := 85 } : Room)).room s m ([.ref (ad i), .int (a0)] : List Value).toArray below meth c r (F0 m 105 ls []) := by
    intro x2 x3  ls  hl hf
    rw [f_K_immediate_L105] at hf
    refine lv_aload_n hx hb d_K_immediate_105 rfl (lv_at hl 0 rfl) ?_
    refine lv_sipush (v := 256) hx hb d_K_immediate_106 (by decide) ?_
    obtain ⟨r_10, g_11, hf⟩ := Option.bind_eq_some_iff.mp hf
    refine ju_calli (W.runV (As := [.int (256)]) (rest := []) ⟨hx, hb, hml, hown, hts⟩ (c_K_is l (ad := ad) (sk := sk) (sv := sv) (tK := tK)  i 256 hi r_10 g_11) (cwV 1 hts (aw_V aw_116 aw_118 aw_p2 aw_12 aw_119) rfl rfl rfl (by decide +kernel) ⟨Nat.le_of_ble_eq_true rfl, Nat.le_of_ble_eq_true rfl⟩) ⟨fun a U g mk q => ⟨q.1, q.2.call⟩, tb_recvK hT hi hS, fun U hU hW => ⟨rfl, hT.at hS hU hW (fun _ z => z.elim)⟩⟩ rfl rfl hl.1 rfl (lv_room (Nat.le_of_ble_eq_true rfl)) d_K_immediate_109 ⟨Nat.le_refl _, Nat.le_refl _⟩) ?_
    refine lv_if_eq (tgt := 123) hx hb d_K_immediate_112 (by decide) (fun c_12 => ?_) (fun c_12 => ?_)
    · replace hf := (if_pos c_12).symm.trans hf
      refine lv_iload_n hx hb d_K_immediate_123 rfl (lv_at hl 2 rfl) ?_
      exact W.iret (v := x2) hx hb hr (fun t ht hW => ⟨congrArg (fun z => Outcome.returned (some (Value.int z))) (Option.some.inj hf), ht⟩) (fun q h => nomatch h) d_K_immediate_124
    · replace hf := (if_neg c_12).symm.trans hf
      refine lv_iload_n hx hb d_K_immediate_115 rfl (lv_at hl 2 rfl) ?_
      refine lv_ldcw (v := 1048575) hx hb hown (ht aw_120) d_K_immediate_116 ?_
      refine lv_iand hx hb d_K_immediate_119 ?_
      refine lv_goto (tgt := 124) hx hb d_K_immediate_120 (by decide) ?_
      exact W.iret (v := x2 &&& 1048575) hx hb hr (fun t ht hW => ⟨congrArg (fun z => Outcome.returned (some (Value.int z))) (Option.some.inj hf), ht⟩) (fun q h => nomatch h) d_K_immediate_124
  have J15 : ∀ (n : Nat) (x2 : Int32) (x3 : Int32) (ls : Array Slot), lv_has ls 5 [(0, .ref (ad i)), (1, .int (a0)), (2, .int (x2)), (3, .int (x3))] → f_K_immediate_L15 i a0  n x2 x3 = some r → pW p l e (headSpec (Cond.code y_K_immediate b_K_immediate 5 (Option.some FieldType.int) :: aw) ({ frames := 4, cells := 0, slots := 0, locals := 85 } : Room)).room s m ([.ref (ad i), .int (a0)] : List Value).toArray below meth c r (F0 m 15 ls []) := by
    intro n
    induction n with
    | zero =>
      intro x2 x3  ls  hl hf
      rw [f_K_immediate_L15] at hf
      cases hf
    | succ n ih =>
      intro x2 x3  ls  hl hf
      rw [f_K_immediate_L15] at hf
      refine lv_iload_n hx hb d_K_immediate_15 rfl (lv_at hl 3 rfl) ?_
      refine lv_aload_n hx hb d_K_immediate_16 rfl (lv_at hl 0 rfl) ?_
      refine vk_getf (v := .ref (sk (k_layout i))) hx hb (tb_layout hT hi) hS hown (ht aw_763) (fun _ h9 => h9) d_K_immediate_17 ?_
      obtain ⟨r_4, g_5, hf⟩ := Option.bind_eq_some_iff.mp hf
      refine ju_calli (W.runV (As := []) (rest := [.int (x3)]) ⟨hx, hb, hml, hown, hts⟩ (c_S_length l (ad := ad) (sk := sk) (sv := sv) (tK := tK)  (k_layout i) (k_layout_lt hi) r_4 g_5) (cwV 0 hts (aw_V aw_61 aw_62 aw_63 aw_7 aw_64) rfl rfl rfl (by decide +kernel) ⟨Nat.le_of_ble_eq_true rfl, Nat.le_of_ble_eq_true rfl⟩) ⟨fun a U g mk q => ⟨q.1, q.2.call⟩, tb_recvS hT (k_layout_lt hi) hS, fun U hU hW => ⟨rfl, hT.at hS hU hW (fun _ z => z.elim)⟩⟩ rfl rfl hl.1 rfl (lv_room (Nat.le_of_ble_eq_true rfl)) d_K_immediate_20 ⟨Nat.le_refl _, Nat.le_refl _⟩) ?_
      refine lv_icmp_ge (tgt := 76) hx hb d_K_immediate_23 (by decide) (fun c_6 => ?_) (fun c_6 => ?_)
      · replace hf := (if_pos c_6).symm.trans hf
        refine lv_aload_n hx hb d_K_immediate_76 rfl (lv_at hl 0 rfl) ?_
        refine lv_bipush (v := 32) hx hb d_K_immediate_77 (by decide) ?_
        obtain ⟨r_7, g_8, hf⟩ := Option.bind_eq_some_iff.mp hf
        refine ju_calli (W.runV (As := [.int (32)]) (rest := []) ⟨hx, hb, hml, hown, hts⟩ (c_K_is l (ad := ad) (sk := sk) (sv := sv) (tK := tK)  i 32 hi r_7 g_8) (cwV 1 hts (aw_V aw_116 aw_118 aw_p2 aw_12 aw_119) rfl rfl rfl (by decide +kernel) ⟨Nat.le_of_ble_eq_true rfl, Nat.le_of_ble_eq_true rfl⟩) ⟨fun a U g mk q => ⟨q.1, q.2.call⟩, tb_recvK hT hi hS, fun U hU hW => ⟨rfl, hT.at hS hU hW (fun _ z => z.elim)⟩⟩ rfl rfl hl.1 rfl (lv_room (Nat.le_of_ble_eq_true rfl)) d_K_immediate_79 ⟨Nat.le_refl _, Nat.le_refl _⟩) ?_
        refine lv_if_eq (tgt := 105) hx hb d_K_immediate_82 (by decide) (fun c_9 => ?_) (fun c_9 => ?_)
        · replace hf := (if_pos c_9).symm.trans hf
          exact J105 x2 x3  _  (lv_sub hl [0, 1, 2, 3] rfl) hf
        · replace hf := (if_neg c_9).symm.trans hf
          refine lv_iload_n hx hb d_K_immediate_85 rfl (lv_at hl 2 rfl) ?_
          refine lv_aload_n hx hb d_K_immediate_86 rfl (lv_at hl 0 rfl) ?_
          refine vk_getf (v := .int (k_highestBit i)) hx hb (tb_highestBit hT hi) hS hown (ht aw_770) (fun _ h9 => h9) d_K_immediate_87 ?_
          refine lv_ishr hx hb d_K_immediate_90 ?_
          refine lv_iconst (v := 1) hx hb d_K_immediate_91 (by decide) ?_
          refine lv_iand hx hb d_K_immediate_92 ?_
          refine lv_if_eq (tgt := 105) hx hb d_K_immediate_93 (by decide) (fun c_13 => ?_) (fun c_13 => ?_)
          · replace hf := (if_pos c_13).symm.trans hf
            exact J105 x2 x3  _  (lv_sub hl [0, 1, 2, 3] rfl) hf
          · replace hf := (if_neg c_13).symm.trans hf
            refine lv_iload_n hx hb d_K_immediate_96 rfl (lv_at hl 2 rfl) ?_
            refine lv_iconst (v := 2) hx hb d_K_immediate_97 (by decide) ?_
            refine lv_aload_n hx hb d_K_immediate_98 rfl (lv_at hl 0 rfl) ?_
            refine vk_getf (v := .int (k_highestBit i)) hx hb (tb_highestBit hT hi) hS hown (ht aw_770) (fun _ h9 => h9) d_K_immediate_99 ?_
            refine lv_ishl hx hb d_K_immediate_102 ?_
            refine lv_isub hx hb d_K_immediate_103 ?_
            refine lv_istore_n (lv' := [(2, .int (x2 - ((2 : Int32) <<< ((k_highestBit i) &&& 31)))), (0, .ref (ad i)), (1, .int (a0)), (3, .int (x3))]) hx hb d_K_immediate_104 rfl hl (by decide) rfl (fun ls hl => ?_)
            exact J105 (x2 - ((2 : Int32) <<< ((k_highestBit i) &&& 31))) x3  _  (lv_sub hl [1, 2, 0, 3] rfl) hf
      · replace hf := (if_neg c_6).symm.trans hf
        refine lv_aload_n hx hb d_K_immediate_26 rfl (lv_at hl 0 rfl) ?_
        refine vk_getf (v := .ref (sk (k_layout i))) hx hb (tb_layout hT hi) hS hown (ht aw_763) (fun _ h9 => h9) d_K_immediate_27 ?_
        refine lv_iload_n hx hb d_K_immediate_30 rfl (lv_at hl 3 rfl) ?_
        obtain ⟨r_14, g_15, hf⟩ := Option.bind_eq_some_iff.mp hf
        refine ju_calli (W.runV (As := [.int (x3)]) (rest := []) ⟨hx, hb, hml, hown, hts⟩ (c_S_charAt l (ad := ad) (sk := sk) (sv := sv) (tK := tK)  (k_layout i) x3 (k_layout_lt hi) r_14 g_15) (cwV 1 hts (aw_V aw_71 aw_72 aw_73 aw_7 aw_74) rfl rfl rfl (by decide +kernel) ⟨Nat.le_of_ble_eq_true rfl, Nat.le_of_ble_eq_true rfl⟩) ⟨fun a U g mk q => ⟨q.1, q.2.call⟩, tb_recvS hT (k_layout_lt hi) hS, fun U hU hW => ⟨rfl, hT.at hS hU hW (fun _ z => z.elim)⟩⟩ rfl rfl hl.1 rfl (lv_room (Nat.le_of_ble_eq_true rfl)) d_K_immediate_31 ⟨Nat.le_refl _, Nat.le_refl _⟩) ?_
        refine lv_istore (lv' := [(4, .int (r_14)), (0, .ref (ad i)), (1, .int (a0)), (2, .int (x2)), (3, .int (x3))]) hx hb d_K_immediate_34 hl (by decide) rfl (fun ls hl => ?_)
        refine lv_iload hx hb d_K_immediate_36 (lv_at hl 0 rfl) ?_
        obtain ⟨r_16, g_17, hf⟩ := Option.bind_eq_some_iff.mp hf
        refine ju_calli (W.runS (As := [.int (r_14)]) (rest := []) ⟨hx, hb, hml, hown, hts⟩ (c_K_partOf l (ad := ad) (sk := sk) (sv := sv) (tK := tK)  r_14  r_16 g_17) (va_cwS 1 hts (aw_S aw_109 aw_110 aw_12 aw_111) rfl rfl rfl (by decide +kernel) ⟨Nat.le_of_ble_eq_true rfl, Nat.le_of_ble_eq_true rfl⟩) ⟨fun a U g mk q => ⟨q.1, q.2.call⟩, fun U hU hW => ⟨rfl, hT.at hS hU hW (fun _ z => z.elim)⟩⟩ rfl rfl hl.1 rfl (lv_room (Nat.le_of_ble_eq_true rfl)) d_K_immediate_38 ⟨Nat.le_refl _, Nat.le_refl _⟩) ?_
        refine lv_bipush (v := 8) hx hb d_K_immediate_41 (by decide) ?_
        refine lv_icmp_ne (tgt := 70) hx hb d_K_immediate_43 (by decide) (fun c_18 => ?_) (fun c_18 => ?_)
        · replace hf := (if_neg c_18).symm.trans hf
          refine lv_iinc (v := x3 + 1) (lv' := [(3, .int (x3 + 1)), (4, .int (r_14)), (0, .ref (ad i)), (1, .int (a0)), (2, .int (x2))]) hx hb d_K_immediate_70 hl (k := 4) rfl rfl (by decide) rfl (fun ls hl => ?_)
          refine lv_goto (tgt := 15) hx hb d_K_immediate_73 (by decide) ?_
          exact ih x2 (x3 + 1)  _  (lv_sub hl [2, 3, 4, 0] rfl) hf
        · replace hf := (if_pos c_18).symm.trans hf
          refine lv_iload_n hx hb d_K_immediate_46 rfl (lv_at hl 3 rfl) ?_
          refine lv_iload_n hx hb d_K_immediate_47 rfl (lv_at hl 2 rfl) ?_
          refine lv_aload_n hx hb d_K_immediate_48 rfl (lv_at hl 1 rfl) ?_
          refine vk_getf (v := .ref (sk (k_layout i))) hx hb (tb_layout hT hi) hS hown (ht aw_763) (fun _ h9 => h9) d_K_immediate_49 ?_
          obtain ⟨r_19, g_20, hf⟩ := Option.bind_eq_some_iff.mp hf
          refine ju_calli (W.runV (As := []) (rest := [.int (a0), .int (x2)]) ⟨hx, hb, hml, hown, hts⟩ (c_S_length l (ad := ad) (sk := sk) (sv := sv) (tK := tK)  (k_layout i) (k_layout_lt hi) r_19 g_20) (cwV 0 hts (aw_V aw_61 aw_62 aw_63 aw_7 aw_64) rfl rfl rfl (by decide +kernel) ⟨Nat.le_of_ble_eq_true rfl, Nat.le_of_ble_eq_true rfl⟩) ⟨fun a U g mk q => ⟨q.1, q.2.call⟩, tb_recvS hT (k_layout_lt hi) hS, fun U hU hW => ⟨rfl, hT.at hS hU hW (fun _ z => z.elim)⟩⟩ rfl rfl hl.1 rfl (lv_room (Nat.le_of_ble_eq_true rfl)) d_K_immediate_52 ⟨Nat.le_refl _, Nat.le_refl _⟩) ?_
          refine lv_iconst (v := 1) hx hb d_K_immediate_55 (by decide) ?_
          refine lv_isub hx hb d_K_immediate_56 ?_
          refine lv_iload_n hx hb d_K_immediate_57 rfl (lv_at hl 4 rfl) ?_
          refine lv_isub hx hb d_K_immediate_58 ?_
          refine lv_iushr (v := ju_ushr a0 ((r_19 - 1) - x3)) hx hb d_K_immediate_59 rfl ?_
          refine lv_iconst (v := 1) hx hb d_K_immediate_60 (by decide) ?_
          refine lv_iand hx hb d_K_immediate_61 ?_
          refine lv_iload hx hb d_K_immediate_62 (lv_at hl 0 rfl) ?_
          refine lv_bipush (v := 65) hx hb d_K_immediate_64 (by decide) ?_
          refine lv_isub hx hb d_K_immediate_66 ?_
          refine lv_ishl hx hb d_K_immediate_67 ?_
          refine lv_ior hx hb d_K_immediate_68 ?_
          refine lv_istore_n (lv' := [(2, .int (x2 ||| (((ju_ushr a0 ((r_19 - 1) - x3)) &&& 1) <<< ((r_14 - 65) &&& 31)))), (4, .int (r_14)), (0, .ref (ad i)), (1, .int (a0)), (3, .int (x3))]) hx hb d_K_immediate_69 rfl hl (by decide) rfl (fun ls hl => ?_)
          refine lv_iinc (v := x3 + 1) (lv' := [(3, .int (x3 + 1)), (2, .int (x2 ||| (((ju_ushr a0 ((r_19 - 1) - x3)) &&& 1) <<< ((r_14 - 65) &&& 31)))), (4, .int (r_14)), (0, .ref (ad i)), (1, .int (a0))]) hx hb d_K_immediate_70 hl (k := 4) rfl rfl (by decide) rfl (fun ls hl => ?_)
          refine lv_goto (tgt := 15) hx hb d_K_immediate_73 (by decide) ?_
          exact ih (x2 ||| (((ju_ushr a0 ((r_19 - 1) - x3)) &&& 1) <<< ((r_14 - 65) &&& 31))) (x3 + 1)  _  (lv_sub hl [3, 4, 1, 0] rfl) hf
  rw [f_K_immediate] at hf
  refine lv_aload_n hx hb d_K_immediate_0 rfl (lv_at hl 0 rfl) ?_
  refine lv_bipush (v := 8) hx hb d_K_immediate_1 (by decide) ?_
  obtain ⟨r_1, g_2, hf⟩ := Option.bind_eq_some_iff.mp hf
  refine ju_calli (W.runV (As := [.int (8)]) (rest := []) ⟨hx, hb, hml, hown, hts⟩ (c_K_has l (ad := ad) (sk := sk) (sv := sv) (tK := tK)  i 8 hi r_1 g_2) (cwV 1 hts (aw_V aw_48 aw_49 aw_50 aw_12 aw_51) rfl rfl rfl (by decide +kernel) ⟨Nat.le_of_ble_eq_true rfl, Nat.le_of_ble_eq_true rfl⟩) ⟨fun a U g mk q => ⟨q.1, q.2.call⟩, tb_recvK hT hi hS, fun U hU hW => ⟨rfl, hT.at hS hU hW (fun _ z => z.elim)⟩⟩ rfl rfl hl.1 rfl (lv_room (Nat.le_of_ble_eq_true rfl)) d_K_immediate_3 ⟨Nat.le_refl _, Nat.le_refl _⟩) ?_
  refine lv_if_ne (tgt := 11) hx hb d_K_immediate_6 (by decide) (fun c_3 => ?_) (fun c_3 => ?_)
  · replace hf := (if_neg c_3).symm.trans hf
    refine lv_iconst (v := 0) hx hb d_K_immediate_11 (by decide) ?_
    refine lv_istore_n (lv' := [(2, .int (0)), (0, .ref (ad i)), (1, .int (a0))]) hx hb d_K_immediate_12 rfl hl (by decide) rfl (fun ls hl => ?_)
    refine lv_iconst (v := 0) hx hb d_K_immediate_13 (by decide) ?_
    refine lv_istore_n (lv' := [(3, .int (0)), (2, .int (0)), (0, .ref (ad i)), (1, .int (a0))]) hx hb d_K_immediate_14 rfl hl (by decide) rfl (fun ls hl => ?_)
    exact J15 40 0 0  _  (lv_sub hl [2, 3, 1, 0] rfl) hf
  · replace hf := (if_pos c_3).symm.trans hf
    refine lv_iconst (v := 0) hx hb d_K_immediate_9 (by decide) ?_
    exact W.iret (v := 0) hx hb hr (fun t ht hW => ⟨congrArg (fun z => Outcome.returned (some (Value.int z))) (Option.some.inj hf), ht⟩) (fun q h => nomatch h) d_K_immediate_10

def f_K_immediateBits_L4 (i : Nat) (a0 : Int32)  : Nat → Int32 → Int32 → Option (Int32)
  | 0, _, _ => none
  | n + 1, x2, x3 =>
    (f_K_has i 8).bind fun r_1 => if (bI r_1) = 0 then (some (x2)) else ((f_S_length (k_layout i)).bind fun r_4 => if r_4 ≤ x3 then (some (x2)) else ((f_S_charAt (k_layout i) x3).bind fun r_7 => (f_K_partOf r_7).bind fun r_9 => if r_9 = 8 then ((f_S_length (k_layout i)).bind fun r_12 => f_K_immediateBits_L4 i a0  n (x2 ||| (((a0 >>> ((r_7 - 65) &&& 31)) &&& 1) <<< (((r_12 - 1) - x3) &&& 31))) (x3 + 1)) else (f_K_immediateBits_L4 i a0  n x2 (x3 + 1))))
def f_K_immediateBits (i : Nat) (a0 : Int32) : Option Int32 :=
  f_K_immediateBits_L4 i a0  40 0 0
set_option maxHeartbeats 4000000 in
set_option maxRecDepth 100000 in
theorem c_K_immediateBits (l : Launch) {ad sk sv : Nat → Nat} {tK : Nat} (i : Nat) (a0 : Int32) (hi : i < 75) (r : Int32) (hf : f_K_immediateBits i a0 = some r) : Met l y_K_immediateBits (Cond.code y_K_immediateBits b_K_immediateBits 5 (Option.some FieldType.int) :: aw) ({ frames := 4, cells := 0, slots := 0, locals := 85 } : Room) (va_Pc [.ref (ad i), .int (a0)] (fun U => tb ad sk sv tK (fun _ => False) U U.heap)) (QcRead r) 0 0 (fun _ => False) := by
  refine Met.ofW (cc := b_K_immediateBits) (maxL := 5) (ret := (Option.some FieldType.int)) (by decide) rfl ?_
  intro p e s m args below meth c s₁ B hml hv
  obtain ⟨rfl, hT⟩ := hv
  have hx := B.exec
  have hb := B.bytes
  have hr := B.returns
  have hts := atoms_spec (ws := (Cond.code y_K_immediateBits b_K_immediateBits 5 (Option.some FieldType.int) :: aw)) B.pre
  have ht : ∀ {w : Cond}, w ∈ aw → w.before ([.ref (ad i), .int (a0)] : List Value).toArray s = true := fun h => hts _ (List.mem_cons_of_mem _ h)
  have hown : s.vm.findClass "CodeWords$Kind" = some m.cls := findClass_of_methodNamed B.named
  have hlocks := B.notSynchronized
  have hS : va_S (fun _ => False) s.heap s.heap [] := va_S.rf
  have hl := lv_entry ([.ref (ad i), .int (a0)]) (n := 5) (Nat.le_of_ble_eq_true rfl)
  rw [lg_entry_eq]
  generalize (lg_sl ([.ref (ad i), .int (a0)]) ++ List.replicate (5 - (lg_sl ([.ref (ad i), .int (a0)])).length) Slot.unset).toArray = ls at hl ⊢
  have hl : lv_has ls 5 [(0, .ref (ad i)), (1, .int (a0))] := hl
  have J4 : ∀ (n : Nat) (x2 : Int32) (x3 : Int32) (ls : Array Slot), lv_has ls 5 [(0, .ref (ad i)), (1, .int (a0)), (2, .int (x2)), (3, .int (x3))] → f_K_immediateBits_L4 i a0  n x2 x3 = some r → pW p l e (headSpec (Cond.code y_K_immediateBits b_K_immediateBits 5 (Option.some FieldType.int) :: aw) ({ frames := 4, cells := 0, slots := 0, locals := 85 } : Room)).room s m ([.ref (ad i), .int (a0)] : List Value).toArray below meth c r (F0 m 4 ls []) := by
    intro n
    induction n with
    | zero =>
      intro x2 x3  ls  hl hf
      rw [f_K_immediateBits_L4] at hf
      cases hf
    | succ n ih =>
      intro x2 x3  ls  hl hf
      rw [f_K_immediateBits_L4] at hf
      refine lv_aload_n hx hb d_K_immediateBits_4 rfl (lv_at hl 0 rfl) ?_
      refine lv_bipush (v := 8) hx hb d_K_immediateBits_5 (by decide) ?_
      obtain ⟨r_1, g_2, hf⟩ := Option.bind_eq_some_iff.mp hf
      refine ju_calli (W.runV (As := [.int (8)]) (rest := []) ⟨hx, hb, hml, hown, hts⟩ (c_K_has l (ad := ad) (sk := sk) (sv := sv) (tK := tK)  i 8 hi r_1 g_2) (cwV 1 hts (aw_V aw_48 aw_49 aw_50 aw_12 aw_51) rfl rfl rfl (by decide +kernel) ⟨Nat.le_of_ble_eq_true rfl, Nat.le_of_ble_eq_true rfl⟩) ⟨fun a U g mk q => ⟨q.1, q.2.call⟩, tb_recvK hT hi hS, fun U hU hW => ⟨rfl, hT.at hS hU hW (fun _ z => z.elim)⟩⟩ rfl rfl hl.1 rfl (lv_room (Nat.le_of_ble_eq_true rfl)) d_K_immediateBits_7 ⟨Nat.le_refl _, Nat.le_refl _⟩) ?_
      refine lv_if_eq (tgt := 74) hx hb d_K_immediateBits_10 (by decide) (fun c_3 => ?_) (fun c_3 => ?_)
      · replace hf := (if_pos c_3).symm.trans hf
        refine lv_iload_n hx hb d_K_immediateBits_74 rfl (lv_at hl 2 rfl) ?_
        exact W.iret (v := x2) hx hb hr (fun t ht hW => ⟨congrArg (fun z => Outcome.returned (some (Value.int z))) (Option.some.inj hf), ht⟩) (fun q h => nomatch h) d_K_immediateBits_75
      · replace hf := (if_neg c_3).symm.trans hf
        refine lv_iload_n hx hb d_K_immediateBits_13 rfl (lv_at hl 3 rfl) ?_
        refine lv_aload_n hx hb d_K_immediateBits_14 rfl (lv_at hl 0 rfl) ?_
        refine vk_getf (v := .ref (sk (k_layout i))) hx hb (tb_layout hT hi) hS hown (ht aw_763) (fun _ h9 => h9) d_K_immediateBits_15 ?_
        obtain ⟨r_4, g_5, hf⟩ := Option.bind_eq_some_iff.mp hf
        refine ju_calli (W.runV (As := []) (rest := [.int (x3)]) ⟨hx, hb, hml, hown, hts⟩ (c_S_length l (ad := ad) (sk := sk) (sv := sv) (tK := tK)  (k_layout i) (k_layout_lt hi) r_4 g_5) (cwV 0 hts (aw_V aw_61 aw_62 aw_63 aw_7 aw_64) rfl rfl rfl (by decide +kernel) ⟨Nat.le_of_ble_eq_true rfl, Nat.le_of_ble_eq_true rfl⟩) ⟨fun a U g mk q => ⟨q.1, q.2.call⟩, tb_recvS hT (k_layout_lt hi) hS, fun U hU hW => ⟨rfl, hT.at hS hU hW (fun _ z => z.elim)⟩⟩ rfl rfl hl.1 rfl (lv_room (Nat.le_of_ble_eq_true rfl)) d_K_immediateBits_18 ⟨Nat.le_refl _, Nat.le_refl _⟩) ?_
        refine lv_icmp_ge (tgt := 74) hx hb d_K_immediateBits_21 (by decide) (fun c_6 => ?_) (fun c_6 => ?_)
        · replace hf := (if_pos c_6).symm.trans hf
          refine lv_iload_n hx hb d_K_immediateBits_74 rfl (lv_at hl 2 rfl) ?_
          exact W.iret (v := x2) hx hb hr (fun t ht hW => ⟨congrArg (fun z => Outcome.returned (some (Value.int z))) (Option.some.inj hf), ht⟩) (fun q h => nomatch h) d_K_immediateBits_75
        · replace hf := (if_neg c_6).symm.trans hf
          refine lv_aload_n hx hb d_K_immediateBits_24 rfl (lv_at hl 0 rfl) ?_
          refine vk_getf (v := .ref (sk (k_layout i))) hx hb (tb_layout hT hi) hS hown (ht aw_763) (fun _ h9 => h9) d_K_immediateBits_25 ?_
          refine lv_iload_n hx hb d_K_immediateBits_28 rfl (lv_at hl 3 rfl) ?_
          obtain ⟨r_7, g_8, hf⟩ := Option.bind_eq_some_iff.mp hf
          refine ju_calli (W.runV (As := [.int (x3)]) (rest := []) ⟨hx, hb, hml, hown, hts⟩ (c_S_charAt l (ad := ad) (sk := sk) (sv := sv) (tK := tK)  (k_layout i) x3 (k_layout_lt hi) r_7 g_8) (cwV 1 hts (aw_V aw_71 aw_72 aw_73 aw_7 aw_74) rfl rfl rfl (by decide +kernel) ⟨Nat.le_of_ble_eq_true rfl, Nat.le_of_ble_eq_true rfl⟩) ⟨fun a U g mk q => ⟨q.1, q.2.call⟩, tb_recvS hT (k_layout_lt hi) hS, fun U hU hW => ⟨rfl, hT.at hS hU hW (fun _ z => z.elim)⟩⟩ rfl rfl hl.1 rfl (lv_room (Nat.le_of_ble_eq_true rfl)) d_K_immediateBits_29 ⟨Nat.le_refl _, Nat.le_refl _⟩) ?_
          refine lv_istore (lv' := [(4, .int (r_7)), (0, .ref (ad i)), (1, .int (a0)), (2, .int (x2)), (3, .int (x3))]) hx hb d_K_immediateBits_32 hl (by decide) rfl (fun ls hl => ?_)
          refine lv_iload hx hb d_K_immediateBits_34 (lv_at hl 0 rfl) ?_
          obtain ⟨r_9, g_10, hf⟩ := Option.bind_eq_some_iff.mp hf
          refine ju_calli (W.runS (As := [.int (r_7)]) (rest := []) ⟨hx, hb, hml, hown, hts⟩ (c_K_partOf l (ad := ad) (sk := sk) (sv := sv) (tK := tK)  r_7  r_9 g_10) (va_cwS 1 hts (aw_S aw_109 aw_110 aw_12 aw_111) rfl rfl rfl (by decide +kernel) ⟨Nat.le_of_ble_eq_true rfl, Nat.le_of_ble_eq_true rfl⟩) ⟨fun a U g mk q => ⟨q.1, q.2.call⟩, fun U hU hW => ⟨rfl, hT.at hS hU hW (fun _ z => z.elim)⟩⟩ rfl rfl hl.1 rfl (lv_room (Nat.le_of_ble_eq_true rfl)) d_K_immediateBits_36 ⟨Nat.le_refl _, Nat.le_refl _⟩) ?_
          refine lv_bipush (v := 8) hx hb d_K_immediateBits_39 (by decide) ?_
          refine lv_icmp_ne (tgt := 68) hx hb d_K_immediateBits_41 (by decide) (fun c_11 => ?_) (fun c_11 => ?_)
          · replace hf := (if_neg c_11).symm.trans hf
            refine lv_iinc (v := x3 + 1) (lv' := [(3, .int (x3 + 1)), (4, .int (r_7)), (0, .ref (ad i)), (1, .int (a0)), (2, .int (x2))]) hx hb d_K_immediateBits_68 hl (k := 4) rfl rfl (by decide) rfl (fun ls hl => ?_)
            refine lv_goto (tgt := 4) hx hb d_K_immediateBits_71 (by decide) ?_
            exact ih x2 (x3 + 1)  _  (lv_sub hl [2, 3, 4, 0] rfl) hf
          · replace hf := (if_pos c_11).symm.trans hf
            refine lv_iload_n hx hb d_K_immediateBits_44 rfl (lv_at hl 3 rfl) ?_
            refine lv_iload_n hx hb d_K_immediateBits_45 rfl (lv_at hl 2 rfl) ?_
            refine lv_iload hx hb d_K_immediateBits_46 (lv_at hl 0 rfl) ?_
            refine lv_bipush (v := 65) hx hb d_K_immediateBits_48 (by decide) ?_
            refine lv_isub hx hb d_K_immediateBits_50 ?_
            refine lv_ishr hx hb d_K_immediateBits_51 ?_
            refine lv_iconst (v := 1) hx hb d_K_immediateBits_52 (by decide) ?_
            refine lv_iand hx hb d_K_immediateBits_53 ?_
            refine lv_aload_n hx hb d_K_immediateBits_54 rfl (lv_at hl 1 rfl) ?_
            refine vk_getf (v := .ref (sk (k_layout i))) hx hb (tb_layout hT hi) hS hown (ht aw_763) (fun _ h9 => h9) d_K_immediateBits_55 ?_
            obtain ⟨r_12, g_13, hf⟩ := Option.bind_eq_some_iff.mp hf
            refine ju_calli (W.runV (As := []) (rest := [.int ((a0 >>> ((r_7 - 65) &&& 31)) &&& 1), .int (x2)]) ⟨hx, hb, hml, hown, hts⟩ (c_S_length l (ad := ad) (sk := sk) (sv := sv) (tK := tK)  (k_layout i) (k_layout_lt hi) r_12 g_13) (cwV 0 hts (aw_V aw_61 aw_62 aw_63 aw_7 aw_64) rfl rfl rfl (by decide +kernel) ⟨Nat.le_of_ble_eq_true rfl, Nat.le_of_ble_eq_true rfl⟩) ⟨fun a U g mk q => ⟨q.1, q.2.call⟩, tb_recvS hT (k_layout_lt hi) hS, fun U hU hW => ⟨rfl, hT.at hS hU hW (fun _ z => z.elim)⟩⟩ rfl rfl hl.1 rfl (lv_room (Nat.le_of_ble_eq_true rfl)) d_K_immediateBits_58 ⟨Nat.le_refl _, Nat.le_refl _⟩) ?_
            refine lv_iconst (v := 1) hx hb d_K_immediateBits_61 (by decide) ?_
            refine lv_isub hx hb d_K_immediateBits_62 ?_
            refine lv_iload_n hx hb d_K_immediateBits_63 rfl (lv_at hl 4 rfl) ?_
            refine lv_isub hx hb d_K_immediateBits_64 ?_
            refine lv_ishl hx hb d_K_immediateBits_65 ?_
            refine lv_ior hx hb d_K_immediateBits_66 ?_
            refine lv_istore_n (lv' := [(2, .int (x2 ||| (((a0 >>> ((r_7 - 65) &&& 31)) &&& 1) <<< (((r_12 - 1) - x3) &&& 31)))), (4, .int (r_7)), (0, .ref (ad i)), (1, .int (a0)), (3, .int (x3))]) hx hb d_K_immediateBits_67 rfl hl (by decide) rfl (fun ls hl => ?_)
            refine lv_iinc (v := x3 + 1) (lv' := [(3, .int (x3 + 1)), (2, .int (x2 ||| (((a0 >>> ((r_7 - 65) &&& 31)) &&& 1) <<< (((r_12 - 1) - x3) &&& 31)))), (4, .int (r_7)), (0, .ref (ad i)), (1, .int (a0))]) hx hb d_K_immediateBits_68 hl (k := 4) rfl rfl (by decide) rfl (fun ls hl => ?_)
            refine lv_goto (tgt := 4) hx hb d_K_immediateBits_71 (by decide) ?_
            exact ih (x2 ||| (((a0 >>> ((r_7 - 65) &&& 31)) &&& 1) <<< (((r_12 - 1) - x3) &&& 31))) (x3 + 1)  _  (lv_sub hl [3, 4, 1, 0] rfl) hf
  rw [f_K_immediateBits] at hf
  refine lv_iconst (v := 0) hx hb d_K_immediateBits_0 (by decide) ?_
  refine lv_istore_n (lv' := [(2, .int (0)), (0, .ref (ad i)), (1, .int (a0))]) hx hb d_K_immediateBits_1 rfl hl (by decide) rfl (fun ls hl => ?_)
  refine lv_iconst (v := 0) hx hb d_K_immediateBits_2 (by decide) ?_
  refine lv_istore_n (lv' := [(3, .int (0)), (2, .int (0)), (0, .ref (ad i)), (1, .int (a0))]) hx hb d_K_immediateBits_3 rfl hl (by decide) rfl (fun ls hl => ?_)
  exact J4 40 0 0  _  (lv_sub hl [2, 3, 1, 0] rfl) hf

def f_K_compose (i : Nat) (a0 : Int32) (a1 : Int32) (a2 : Int32) (a3 : Int32) : Option Int32 :=
  (f_K_registerBits i 1 a0).bind fun r_1 => (f_K_registerBits i 2 a1).bind fun r_3 => (f_K_registerBits i 4 a2).bind fun r_5 => (f_K_immediateBits i a3).bind fun r_7 => some (((((k_ownBits i) ||| r_1) ||| r_3) ||| r_5) ||| r_7)
set_option maxHeartbeats 4000000 in
set_option maxRecDepth 100000 in
theorem c_K_compose (l : Launch) {ad sk sv : Nat → Nat} {tK : Nat} (i : Nat) (a0 : Int32) (a1 : Int32) (a2 : Int32) (a3 : Int32) (hi : i < 75) (r : Int32) (hf : f_K_compose i a0 a1 a2 a3 = some r) : Met l y_K_compose (Cond.code y_K_compose b_K_compose 5 (Option.some FieldType.int) :: aw) ({ frames := 6, cells := 0, slots := 0, locals := 129 } : Room) (va_Pc [.ref (ad i), .int (a0), .int (a1), .int (a2), .int (a3)] (fun U => tb ad sk sv tK (fun _ => False) U U.heap)) (QcRead r) 0 0 (fun _ => False) := by
  refine Met.ofW (cc := b_K_compose) (maxL := 5) (ret := (Option.some FieldType.int)) (by decide) rfl ?_
  intro p e s m args below meth c s₁ B hml hv
  obtain ⟨rfl, hT⟩ := hv
  have hx := B.exec
  have hb := B.bytes
  have hr := B.returns
  have hts := atoms_spec (ws := (Cond.code y_K_compose b_K_compose 5 (Option.some FieldType.int) :: aw)) B.pre
  have ht : ∀ {w : Cond}, w ∈ aw → w.before ([.ref (ad i), .int (a0), .int (a1), .int (a2), .int (a3)] : List Value).toArray s = true := fun h => hts _ (List.mem_cons_of_mem _ h)
  have hown : s.vm.findClass "CodeWords$Kind" = some m.cls := findClass_of_methodNamed B.named
  have hlocks := B.notSynchronized
  have hS : va_S (fun _ => False) s.heap s.heap [] := va_S.rf
  have hl := lv_entry ([.ref (ad i), .int (a0), .int (a1), .int (a2), .int (a3)]) (n := 5) (Nat.le_of_ble_eq_true rfl)
  rw [lg_entry_eq]
  generalize (lg_sl ([.ref (ad i), .int (a0), .int (a1), .int (a2), .int (a3)]) ++ List.replicate (5 - (lg_sl ([.ref (ad i), .int (a0), .int (a1), .int (a2), .int (a3)])).length) Slot.unset).toArray = ls at hl ⊢
  have hl : lv_has ls 5 [(0, .ref (ad i)), (1, .int (a0)), (2, .int (a1)), (3, .int (a2)), (4, .int (a3))] := hl
  rw [f_K_compose] at hf
  refine lv_aload_n hx hb d_K_compose_0 rfl (lv_at hl 0 rfl) ?_
  refine vk_getf (v := .int (k_ownBits i)) hx hb (tb_ownBits hT hi) hS hown (ht aw_772) (fun _ h9 => h9) d_K_compose_1 ?_
  refine lv_aload_n hx hb d_K_compose_4 rfl (lv_at hl 0 rfl) ?_
  refine lv_iconst (v := 1) hx hb d_K_compose_5 (by decide) ?_
  refine lv_iload_n hx hb d_K_compose_6 rfl (lv_at hl 1 rfl) ?_
  obtain ⟨r_1, g_2, hf⟩ := Option.bind_eq_some_iff.mp hf
  refine ju_calli (W.runV (As := [.int (1), .int (a0)]) (rest := [.int (k_ownBits i)]) ⟨hx, hb, hml, hown, hts⟩ (c_K_registerBits l (ad := ad) (sk := sk) (sv := sv) (tK := tK)  i 1 a0 hi r_1 g_2) (cwV 2 hts (aw_V aw_159 aw_161 aw_p4 aw_12 aw_162) rfl rfl rfl (by decide +kernel) ⟨Nat.le_of_ble_eq_true rfl, Nat.le_of_ble_eq_true rfl⟩) ⟨fun a U g mk q => ⟨q.1, q.2.call⟩, tb_recvK hT hi hS, fun U hU hW => ⟨rfl, hT.at hS hU hW (fun _ z => z.elim)⟩⟩ rfl rfl hl.1 rfl (lv_room (Nat.le_of_ble_eq_true rfl)) d_K_compose_7 ⟨Nat.le_refl _, Nat.le_refl _⟩) ?_
  refine lv_ior hx hb d_K_compose_10 ?_
  refine lv_aload_n hx hb d_K_compose_11 rfl (lv_at hl 0 rfl) ?_
  refine lv_iconst (v := 2) hx hb d_K_compose_12 (by decide) ?_
  refine lv_iload_n hx hb d_K_compose_13 rfl (lv_at hl 2 rfl) ?_
  obtain ⟨r_3, g_4, hf⟩ := Option.bind_eq_some_iff.mp hf
  refine ju_calli (W.runV (As := [.int (2), .int (a1)]) (rest := [.int ((k_ownBits i) ||| r_1)]) ⟨hx, hb, hml, hown, hts⟩ (c_K_registerBits l (ad := ad) (sk := sk) (sv := sv) (tK := tK)  i 2 a1 hi r_3 g_4) (cwV 2 hts (aw_V aw_159 aw_161 aw_p4 aw_12 aw_162) rfl rfl rfl (by decide +kernel) ⟨Nat.le_of_ble_eq_true rfl, Nat.le_of_ble_eq_true rfl⟩) ⟨fun a U g mk q => ⟨q.1, q.2.call⟩, tb_recvK hT hi hS, fun U hU hW => ⟨rfl, hT.at hS hU hW (fun _ z => z.elim)⟩⟩ rfl rfl hl.1 rfl (lv_room (Nat.le_of_ble_eq_true rfl)) d_K_compose_14 ⟨Nat.le_refl _, Nat.le_refl _⟩) ?_
  refine lv_ior hx hb d_K_compose_17 ?_
  refine lv_aload_n hx hb d_K_compose_18 rfl (lv_at hl 0 rfl) ?_
  refine lv_iconst (v := 4) hx hb d_K_compose_19 (by decide) ?_
  refine lv_iload_n hx hb d_K_compose_20 rfl (lv_at hl 3 rfl) ?_
  obtain ⟨r_5, g_6, hf⟩ := Option.bind_eq_some_iff.mp hf
  refine ju_calli (W.runV (As := [.int (4), .int (a2)]) (rest := [.int (((k_ownBits i) ||| r_1) ||| r_3)]) ⟨hx, hb, hml, hown, hts⟩ (c_K_registerBits l (ad := ad) (sk := sk) (sv := sv) (tK := tK)  i 4 a2 hi r_5 g_6) (cwV 2 hts (aw_V aw_159 aw_161 aw_p4 aw_12 aw_162) rfl rfl rfl (by decide +kernel) ⟨Nat.le_of_ble_eq_true rfl, Nat.le_of_ble_eq_true rfl⟩) ⟨fun a U g mk q => ⟨q.1, q.2.call⟩, tb_recvK hT hi hS, fun U hU hW => ⟨rfl, hT.at hS hU hW (fun _ z => z.elim)⟩⟩ rfl rfl hl.1 rfl (lv_room (Nat.le_of_ble_eq_true rfl)) d_K_compose_21 ⟨Nat.le_refl _, Nat.le_refl _⟩) ?_
  refine lv_ior hx hb d_K_compose_24 ?_
  refine lv_aload_n hx hb d_K_compose_25 rfl (lv_at hl 0 rfl) ?_
  refine lv_iload hx hb d_K_compose_26 (lv_at hl 4 rfl) ?_
  obtain ⟨r_7, g_8, hf⟩ := Option.bind_eq_some_iff.mp hf
  refine ju_calli (W.runV (As := [.int (a3)]) (rest := [.int ((((k_ownBits i) ||| r_1) ||| r_3) ||| r_5)]) ⟨hx, hb, hml, hown, hts⟩ (c_K_immediateBits l (ad := ad) (sk := sk) (sv := sv) (tK := tK)  i a3 hi r_7 g_8) (cwV 1 hts (aw_V aw_163 aw_165 aw_p5 aw_12 aw_166) rfl rfl rfl (by decide +kernel) ⟨Nat.le_of_ble_eq_true rfl, Nat.le_of_ble_eq_true rfl⟩) ⟨fun a U g mk q => ⟨q.1, q.2.call⟩, tb_recvK hT hi hS, fun U hU hW => ⟨rfl, hT.at hS hU hW (fun _ z => z.elim)⟩⟩ rfl rfl hl.1 rfl (lv_room (Nat.le_of_ble_eq_true rfl)) d_K_compose_28 ⟨Nat.le_refl _, Nat.le_refl _⟩) ?_
  refine lv_ior hx hb d_K_compose_31 ?_
  exact W.iret (v := ((((k_ownBits i) ||| r_1) ||| r_3) ||| r_5) ||| r_7) hx hb hr (fun t ht hW => ⟨congrArg (fun z => Outcome.returned (some (Value.int z))) (Option.some.inj hf), ht⟩) (fun q h => nomatch h) d_K_compose_32

def f_K_allows (i : Nat) (a0 : Int32) (a1 : Int32) (a2 : Int32) (a3 : Int32) : Option Bool :=
  (f_K_allowsRegister i 1 a0).bind fun r_1 => if (bI r_1) = 0 then (some false) else ((f_K_allowsRegister i 2 a1).bind fun r_4 => if (bI r_4) = 0 then (some false) else ((f_K_allowsRegister i 4 a2).bind fun r_7 => if (bI r_7) = 0 then (some false) else ((f_K_has i 8).bind fun r_10 => if (bI r_10) = 0 then (some true) else ((f_K_allowsImmediate i a3.toInt64).bind fun r_13 => if (bI r_13) = 0 then (some false) else (some true)))))
set_option maxHeartbeats 4000000 in
set_option maxRecDepth 100000 in
theorem c_K_allows (l : Launch) {ad sk sv : Nat → Nat} {tK : Nat} (i : Nat) (a0 : Int32) (a1 : Int32) (a2 : Int32) (a3 : Int32) (hi : i < 75) (r : Bool) (hf : f_K_allows i a0 a1 a2 a3 = some r) : Met l y_K_allows (Cond.code y_K_allows b_K_allows 5 (Option.some FieldType.boolean) :: aw) ({ frames := 6, cells := 0, slots := 0, locals := 129 } : Room) (va_Pc [.ref (ad i), .int (a0), .int (a1), .int (a2), .int (a3)] (fun U => tb ad sk sv tK (fun _ => False) U U.heap)) (QcRead (bI r)) 0 0 (fun _ => False) := by
  refine Met.ofW (cc := b_K_allows) (maxL := 5) (ret := (Option.some FieldType.boolean)) (by decide) rfl ?_
  intro p e s m args below meth c s₁ B hml hv
  obtain ⟨rfl, hT⟩ := hv
  have hx := B.exec
  have hb := B.bytes
  have hr := B.returns
  have hts := atoms_spec (ws := (Cond.code y_K_allows b_K_allows 5 (Option.some FieldType.boolean) :: aw)) B.pre
  have ht : ∀ {w : Cond}, w ∈ aw → w.before ([.ref (ad i), .int (a0), .int (a1), .int (a2), .int (a3)] : List Value).toArray s = true := fun h => hts _ (List.mem_cons_of_mem _ h)
  have hown : s.vm.findClass "CodeWords$Kind" = some m.cls := findClass_of_methodNamed B.named
  have hlocks := B.notSynchronized
  have hS : va_S (fun _ => False) s.heap s.heap [] := va_S.rf
  have hl := lv_entry ([.ref (ad i), .int (a0), .int (a1), .int (a2), .int (a3)]) (n := 5) (Nat.le_of_ble_eq_true rfl)
  rw [lg_entry_eq]
  generalize (lg_sl ([.ref (ad i), .int (a0), .int (a1), .int (a2), .int (a3)]) ++ List.replicate (5 - (lg_sl ([.ref (ad i), .int (a0), .int (a1), .int (a2), .int (a3)])).length) Slot.unset).toArray = ls at hl ⊢
  have hl : lv_has ls 5 [(0, .ref (ad i)), (1, .int (a0)), (2, .int (a1)), (3, .int (a2)), (4, .int (a3))] := hl
  rw [f_K_allows] at hf
  refine lv_aload_n hx hb d_K_allows_0 rfl (lv_at hl 0 rfl) ?_
  refine lv_iconst (v := 1) hx hb d_K_allows_1 (by decide) ?_
  refine lv_iload_n hx hb d_K_allows_2 rfl (lv_at hl 1 rfl) ?_
  obtain ⟨r_1, g_2, hf⟩ := Option.bind_eq_some_iff.mp hf
  refine ju_calli (W.runV (As := [.int (1), .int (a0)]) (rest := []) ⟨hx, hb, hml, hown, hts⟩ (c_K_allowsRegister l (ad := ad) (sk := sk) (sv := sv) (tK := tK)  i 1 a0 hi r_1 g_2) (cwV 2 hts (aw_V aw_125 aw_127 aw_p3 aw_12 aw_128) rfl rfl rfl (by decide +kernel) ⟨Nat.le_of_ble_eq_true rfl, Nat.le_of_ble_eq_true rfl⟩) ⟨fun a U g mk q => ⟨q.1, q.2.call⟩, tb_recvK hT hi hS, fun U hU hW => ⟨rfl, hT.at hS hU hW (fun _ z => z.elim)⟩⟩ rfl rfl hl.1 rfl (lv_room (Nat.le_of_ble_eq_true rfl)) d_K_allows_3 ⟨Nat.le_refl _, Nat.le_refl _⟩) ?_
  refine lv_if_eq (tgt := 50) hx hb d_K_allows_6 (by decide) (fun c_3 => ?_) (fun c_3 => ?_)
  · replace hf := (if_pos c_3).symm.trans hf
    refine lv_iconst (v := 0) hx hb d_K_allows_50 (by decide) ?_
    exact W.zret (v := 0) hx hb hr (ju_nz false) (fun t ht hW => ⟨congrArg (fun z => Outcome.returned (some (Value.int (bI z)))) (Option.some.inj hf), ht⟩) (fun q h => nomatch h) d_K_allows_51
  · replace hf := (if_neg c_3).symm.trans hf
    refine lv_aload_n hx hb d_K_allows_9 rfl (lv_at hl 0 rfl) ?_
    refine lv_iconst (v := 2) hx hb d_K_allows_10 (by decide) ?_
    refine lv_iload_n hx hb d_K_allows_11 rfl (lv_at hl 2 rfl) ?_
    obtain ⟨r_4, g_5, hf⟩ := Option.bind_eq_some_iff.mp hf
    refine ju_calli (W.runV (As := [.int (2), .int (a1)]) (rest := []) ⟨hx, hb, hml, hown, hts⟩ (c_K_allowsRegister l (ad := ad) (sk := sk) (sv := sv) (tK := tK)  i 2 a1 hi r_4 g_5) (cwV 2 hts (aw_V aw_125 aw_127 aw_p3 aw_12 aw_128) rfl rfl rfl (by decide +kernel) ⟨Nat.le_of_ble_eq_true rfl, Nat.le_of_ble_eq_true rfl⟩) ⟨fun a U g mk q => ⟨q.1, q.2.call⟩, tb_recvK hT hi hS, fun U hU hW => ⟨rfl, hT.at hS hU hW (fun _ z => z.elim)⟩⟩ rfl rfl hl.1 rfl (lv_room (Nat.le_of_ble_eq_true rfl)) d_K_allows_12 ⟨Nat.le_refl _, Nat.le_refl _⟩) ?_
    refine lv_if_eq (tgt := 50) hx hb d_K_allows_15 (by decide) (fun c_6 => ?_) (fun c_6 => ?_)
    · replace hf := (if_pos c_6).symm.trans hf
      refine lv_iconst (v := 0) hx hb d_K_allows_50 (by decide) ?_
      exact W.zret (v := 0) hx hb hr (ju_nz false) (fun t ht hW => ⟨congrArg (fun z => Outcome.returned (some (Value.int (bI z)))) (Option.some.inj hf), ht⟩) (fun q h => nomatch h) d_K_allows_51
    · replace hf := (if_neg c_6).symm.trans hf
      refine lv_aload_n hx hb d_K_allows_18 rfl (lv_at hl 0 rfl) ?_
      refine lv_iconst (v := 4) hx hb d_K_allows_19 (by decide) ?_
      refine lv_iload_n hx hb d_K_allows_20 rfl (lv_at hl 3 rfl) ?_
      obtain ⟨r_7, g_8, hf⟩ := Option.bind_eq_some_iff.mp hf
      refine ju_calli (W.runV (As := [.int (4), .int (a2)]) (rest := []) ⟨hx, hb, hml, hown, hts⟩ (c_K_allowsRegister l (ad := ad) (sk := sk) (sv := sv) (tK := tK)  i 4 a2 hi r_7 g_8) (cwV 2 hts (aw_V aw_125 aw_127 aw_p3 aw_12 aw_128) rfl rfl rfl (by decide +kernel) ⟨Nat.le_of_ble_eq_true rfl, Nat.le_of_ble_eq_true rfl⟩) ⟨fun a U g mk q => ⟨q.1, q.2.call⟩, tb_recvK hT hi hS, fun U hU hW => ⟨rfl, hT.at hS hU hW (fun _ z => z.elim)⟩⟩ rfl rfl hl.1 rfl (lv_room (Nat.le_of_ble_eq_true rfl)) d_K_allows_21 ⟨Nat.le_refl _, Nat.le_refl _⟩) ?_
      refine lv_if_eq (tgt := 50) hx hb d_K_allows_24 (by decide) (fun c_9 => ?_) (fun c_9 => ?_)
      · replace hf := (if_pos c_9).symm.trans hf
        refine lv_iconst (v := 0) hx hb d_K_allows_50 (by decide) ?_
        exact W.zret (v := 0) hx hb hr (ju_nz false) (fun t ht hW => ⟨congrArg (fun z => Outcome.returned (some (Value.int (bI z)))) (Option.some.inj hf), ht⟩) (fun q h => nomatch h) d_K_allows_51
      · replace hf := (if_neg c_9).symm.trans hf
        refine lv_aload_n hx hb d_K_allows_27 rfl (lv_at hl 0 rfl) ?_
        refine lv_bipush (v := 8) hx hb d_K_allows_28 (by decide) ?_
        obtain ⟨r_10, g_11, hf⟩ := Option.bind_eq_some_iff.mp hf
        refine ju_calli (W.runV (As := [.int (8)]) (rest := []) ⟨hx, hb, hml, hown, hts⟩ (c_K_has l (ad := ad) (sk := sk) (sv := sv) (tK := tK)  i 8 hi r_10 g_11) (cwV 1 hts (aw_V aw_48 aw_49 aw_50 aw_12 aw_51) rfl rfl rfl (by decide +kernel) ⟨Nat.le_of_ble_eq_true rfl, Nat.le_of_ble_eq_true rfl⟩) ⟨fun a U g mk q => ⟨q.1, q.2.call⟩, tb_recvK hT hi hS, fun U hU hW => ⟨rfl, hT.at hS hU hW (fun _ z => z.elim)⟩⟩ rfl rfl hl.1 rfl (lv_room (Nat.le_of_ble_eq_true rfl)) d_K_allows_30 ⟨Nat.le_refl _, Nat.le_refl _⟩) ?_
        refine lv_if_eq (tgt := 46) hx hb d_K_allows_33 (by decide) (fun c_12 => ?_) (fun c_12 => ?_)
        · replace hf := (if_pos c_12).symm.trans hf
          refine lv_iconst (v := 1) hx hb d_K_allows_46 (by decide) ?_
          refine lv_goto (tgt := 51) hx hb d_K_allows_47 (by decide) ?_
          exact W.zret (v := 1) hx hb hr (ju_nz true) (fun t ht hW => ⟨congrArg (fun z => Outcome.returned (some (Value.int (bI z)))) (Option.some.inj hf), ht⟩) (fun q h => nomatch h) d_K_allows_51
        · replace hf := (if_neg c_12).symm.trans hf
          refine lv_aload_n hx hb d_K_allows_36 rfl (lv_at hl 0 rfl) ?_
          refine lv_iload hx hb d_K_allows_37 (lv_at hl 4 rfl) ?_
          refine lv_i2l (v := a3.toInt64) hx hb d_K_allows_39 rfl ?_
          obtain ⟨r_13, g_14, hf⟩ := Option.bind_eq_some_iff.mp hf
          refine ju_calli (W.runV (As := [.long (a3.toInt64)]) (rest := []) ⟨hx, hb, hml, hown, hts⟩ (c_K_allowsImmediate l (ad := ad) (sk := sk) (sv := sv) (tK := tK)  i a3.toInt64 hi r_13 g_14) (cwV 1 hts (aw_V aw_129 aw_130 aw_131 aw_12 aw_132) rfl rfl rfl (by decide +kernel) ⟨Nat.le_of_ble_eq_true rfl, Nat.le_of_ble_eq_true rfl⟩) ⟨fun a U g mk q => ⟨q.1, q.2.call⟩, tb_recvK hT hi hS, fun U hU hW => ⟨rfl, hT.at hS hU hW (fun _ z => z.elim)⟩⟩ rfl rfl hl.1 rfl (lv_room (Nat.le_of_ble_eq_true rfl)) d_K_allows_40 ⟨Nat.le_refl _, Nat.le_refl _⟩) ?_
          refine lv_if_eq (tgt := 50) hx hb d_K_allows_43 (by decide) (fun c_15 => ?_) (fun c_15 => ?_)
          · replace hf := (if_pos c_15).symm.trans hf
            refine lv_iconst (v := 0) hx hb d_K_allows_50 (by decide) ?_
            exact W.zret (v := 0) hx hb hr (ju_nz false) (fun t ht hW => ⟨congrArg (fun z => Outcome.returned (some (Value.int (bI z)))) (Option.some.inj hf), ht⟩) (fun q h => nomatch h) d_K_allows_51
          · replace hf := (if_neg c_15).symm.trans hf
            refine lv_iconst (v := 1) hx hb d_K_allows_46 (by decide) ?_
            refine lv_goto (tgt := 51) hx hb d_K_allows_47 (by decide) ?_
            exact W.zret (v := 1) hx hb hr (ju_nz true) (fun t ht hW => ⟨congrArg (fun z => Outcome.returned (some (Value.int (bI z)))) (Option.some.inj hf), ht⟩) (fun q h => nomatch h) d_K_allows_51

def f_K_admits (i : Nat) (a0 : Int32) : Option Bool :=
  if (a0 &&& (k_ownMask i)) = (k_ownBits i) then ((f_K_register i a0 1).bind fun r_2 => (f_K_register i a0 2).bind fun r_4 => (f_K_register i a0 4).bind fun r_6 => (f_K_immediate i a0).bind fun r_8 => (f_K_allows i r_2 r_4 r_6 r_8).bind fun r_10 => if (bI r_10) = 0 then (some false) else (some true)) else (some false)
set_option maxHeartbeats 4000000 in
set_option maxRecDepth 100000 in
theorem c_K_admits (l : Launch) {ad sk sv : Nat → Nat} {tK : Nat} (i : Nat) (a0 : Int32) (hi : i < 75) (r : Bool) (hf : f_K_admits i a0 = some r) : Met l y_K_admits (Cond.code y_K_admits b_K_admits 2 (Option.some FieldType.boolean) :: aw) ({ frames := 7, cells := 0, slots := 0, locals := 153 } : Room) (va_Pc [.ref (ad i), .int (a0)] (fun U => tb ad sk sv tK (fun _ => False) U U.heap)) (QcRead (bI r)) 0 0 (fun _ => False) := by
  refine Met.ofW (cc := b_K_admits) (maxL := 2) (ret := (Option.some FieldType.boolean)) (by decide) rfl ?_
  intro p e s m args below meth c s₁ B hml hv
  obtain ⟨rfl, hT⟩ := hv
  have hx := B.exec
  have hb := B.bytes
  have hr := B.returns
  have hts := atoms_spec (ws := (Cond.code y_K_admits b_K_admits 2 (Option.some FieldType.boolean) :: aw)) B.pre
  have ht : ∀ {w : Cond}, w ∈ aw → w.before ([.ref (ad i), .int (a0)] : List Value).toArray s = true := fun h => hts _ (List.mem_cons_of_mem _ h)
  have hown : s.vm.findClass "CodeWords$Kind" = some m.cls := findClass_of_methodNamed B.named
  have hlocks := B.notSynchronized
  have hS : va_S (fun _ => False) s.heap s.heap [] := va_S.rf
  have hl := lv_entry ([.ref (ad i), .int (a0)]) (n := 2) (Nat.le_of_ble_eq_true rfl)
  rw [lg_entry_eq]
  generalize (lg_sl ([.ref (ad i), .int (a0)]) ++ List.replicate (2 - (lg_sl ([.ref (ad i), .int (a0)])).length) Slot.unset).toArray = ls at hl ⊢
  have hl : lv_has ls 2 [(0, .ref (ad i)), (1, .int (a0))] := hl
  rw [f_K_admits] at hf
  refine lv_iload_n hx hb d_K_admits_0 rfl (lv_at hl 1 rfl) ?_
  refine lv_aload_n hx hb d_K_admits_1 rfl (lv_at hl 0 rfl) ?_
  refine vk_getf (v := .int (k_ownMask i)) hx hb (tb_ownMask hT hi) hS hown (ht aw_773) (fun _ h9 => h9) d_K_admits_2 ?_
  refine lv_iand hx hb d_K_admits_5 ?_
  refine lv_aload_n hx hb d_K_admits_6 rfl (lv_at hl 0 rfl) ?_
  refine vk_getf (v := .int (k_ownBits i)) hx hb (tb_ownBits hT hi) hS hown (ht aw_772) (fun _ h9 => h9) d_K_admits_7 ?_
  refine lv_icmp_ne (tgt := 47) hx hb d_K_admits_10 (by decide) (fun c_1 => ?_) (fun c_1 => ?_)
  · replace hf := (if_neg c_1).symm.trans hf
    refine lv_iconst (v := 0) hx hb d_K_admits_47 (by decide) ?_
    exact W.zret (v := 0) hx hb hr (ju_nz false) (fun t ht hW => ⟨congrArg (fun z => Outcome.returned (some (Value.int (bI z)))) (Option.some.inj hf), ht⟩) (fun q h => nomatch h) d_K_admits_48
  · replace hf := (if_pos c_1).symm.trans hf
    refine lv_aload_n hx hb d_K_admits_13 rfl (lv_at hl 0 rfl) ?_
    refine lv_aload_n hx hb d_K_admits_14 rfl (lv_at hl 0 rfl) ?_
    refine lv_iload_n hx hb d_K_admits_15 rfl (lv_at hl 1 rfl) ?_
    refine lv_iconst (v := 1) hx hb d_K_admits_16 (by decide) ?_
    obtain ⟨r_2, g_3, hf⟩ := Option.bind_eq_some_iff.mp hf
    refine ju_calli (W.runV (As := [.int (a0), .int (1)]) (rest := [.ref (ad i)]) ⟨hx, hb, hml, hown, hts⟩ (c_K_register l (ad := ad) (sk := sk) (sv := sv) (tK := tK)  i a0 1 hi r_2 g_3) (cwV 2 hts (aw_V aw_44 aw_45 aw_46 aw_12 aw_47) rfl rfl rfl (by decide +kernel) ⟨Nat.le_of_ble_eq_true rfl, Nat.le_of_ble_eq_true rfl⟩) ⟨fun a U g mk q => ⟨q.1, q.2.call⟩, tb_recvK hT hi hS, fun U hU hW => ⟨rfl, hT.at hS hU hW (fun _ z => z.elim)⟩⟩ rfl rfl hl.1 rfl (lv_room (Nat.le_of_ble_eq_true rfl)) d_K_admits_17 ⟨Nat.le_refl _, Nat.le_refl _⟩) ?_
    refine lv_aload_n hx hb d_K_admits_20 rfl (lv_at hl 0 rfl) ?_
    refine lv_iload_n hx hb d_K_admits_21 rfl (lv_at hl 1 rfl) ?_
    refine lv_iconst (v := 2) hx hb d_K_admits_22 (by decide) ?_
    obtain ⟨r_4, g_5, hf⟩ := Option.bind_eq_some_iff.mp hf
    refine ju_calli (W.runV (As := [.int (a0), .int (2)]) (rest := [.int (r_2), .ref (ad i)]) ⟨hx, hb, hml, hown, hts⟩ (c_K_register l (ad := ad) (sk := sk) (sv := sv) (tK := tK)  i a0 2 hi r_4 g_5) (cwV 2 hts (aw_V aw_44 aw_45 aw_46 aw_12 aw_47) rfl rfl rfl (by decide +kernel) ⟨Nat.le_of_ble_eq_true rfl, Nat.le_of_ble_eq_true rfl⟩) ⟨fun a U g mk q => ⟨q.1, q.2.call⟩, tb_recvK hT hi hS, fun U hU hW => ⟨rfl, hT.at hS hU hW (fun _ z => z.elim)⟩⟩ rfl rfl hl.1 rfl (lv_room (Nat.le_of_ble_eq_true rfl)) d_K_admits_23 ⟨Nat.le_refl _, Nat.le_refl _⟩) ?_
    refine lv_aload_n hx hb d_K_admits_26 rfl (lv_at hl 0 rfl) ?_
    refine lv_iload_n hx hb d_K_admits_27 rfl (lv_at hl 1 rfl) ?_
    refine lv_iconst (v := 4) hx hb d_K_admits_28 (by decide) ?_
    obtain ⟨r_6, g_7, hf⟩ := Option.bind_eq_some_iff.mp hf
    refine ju_calli (W.runV (As := [.int (a0), .int (4)]) (rest := [.int (r_4), .int (r_2), .ref (ad i)]) ⟨hx, hb, hml, hown, hts⟩ (c_K_register l (ad := ad) (sk := sk) (sv := sv) (tK := tK)  i a0 4 hi r_6 g_7) (cwV 2 hts (aw_V aw_44 aw_45 aw_46 aw_12 aw_47) rfl rfl rfl (by decide +kernel) ⟨Nat.le_of_ble_eq_true rfl, Nat.le_of_ble_eq_true rfl⟩) ⟨fun a U g mk q => ⟨q.1, q.2.call⟩, tb_recvK hT hi hS, fun U hU hW => ⟨rfl, hT.at hS hU hW (fun _ z => z.elim)⟩⟩ rfl rfl hl.1 rfl (lv_room (Nat.le_of_ble_eq_true rfl)) d_K_admits_29 ⟨Nat.le_refl _, Nat.le_refl _⟩) ?_
    refine lv_aload_n hx hb d_K_admits_32 rfl (lv_at hl 0 rfl) ?_
    refine lv_iload_n hx hb d_K_admits_33 rfl (lv_at hl 1 rfl) ?_
    obtain ⟨r_8, g_9, hf⟩ := Option.bind_eq_some_iff.mp hf
    refine ju_calli (W.runV (As := [.int (a0)]) (rest := [.int (r_6), .int (r_4), .int (r_2), .ref (ad i)]) ⟨hx, hb, hml, hown, hts⟩ (c_K_immediate l (ad := ad) (sk := sk) (sv := sv) (tK := tK)  i a0 hi r_8 g_9) (cwV 1 hts (aw_V aw_112 aw_113 aw_114 aw_12 aw_115) rfl rfl rfl (by decide +kernel) ⟨Nat.le_of_ble_eq_true rfl, Nat.le_of_ble_eq_true rfl⟩) ⟨fun a U g mk q => ⟨q.1, q.2.call⟩, tb_recvK hT hi hS, fun U hU hW => ⟨rfl, hT.at hS hU hW (fun _ z => z.elim)⟩⟩ rfl rfl hl.1 rfl (lv_room (Nat.le_of_ble_eq_true rfl)) d_K_admits_34 ⟨Nat.le_refl _, Nat.le_refl _⟩) ?_
    obtain ⟨r_10, g_11, hf⟩ := Option.bind_eq_some_iff.mp hf
    refine ju_calli (W.runV (As := [.int (r_2), .int (r_4), .int (r_6), .int (r_8)]) (rest := []) ⟨hx, hb, hml, hown, hts⟩ (c_K_allows l (ad := ad) (sk := sk) (sv := sv) (tK := tK)  i r_2 r_4 r_6 r_8 hi r_10 g_11) (cwV 4 hts (aw_V aw_121 aw_122 aw_123 aw_12 aw_124) rfl rfl rfl (by decide +kernel) ⟨Nat.le_of_ble_eq_true rfl, Nat.le_of_ble_eq_true rfl⟩) ⟨fun a U g mk q => ⟨q.1, q.2.call⟩, tb_recvK hT hi hS, fun U hU hW => ⟨rfl, hT.at hS hU hW (fun _ z => z.elim)⟩⟩ rfl rfl hl.1 rfl (lv_room (Nat.le_of_ble_eq_true rfl)) d_K_admits_37 ⟨Nat.le_refl _, Nat.le_refl _⟩) ?_
    refine lv_if_eq (tgt := 47) hx hb d_K_admits_40 (by decide) (fun c_12 => ?_) (fun c_12 => ?_)
    · replace hf := (if_pos c_12).symm.trans hf
      refine lv_iconst (v := 0) hx hb d_K_admits_47 (by decide) ?_
      exact W.zret (v := 0) hx hb hr (ju_nz false) (fun t ht hW => ⟨congrArg (fun z => Outcome.returned (some (Value.int (bI z)))) (Option.some.inj hf), ht⟩) (fun q h => nomatch h) d_K_admits_48
    · replace hf := (if_neg c_12).symm.trans hf
      refine lv_iconst (v := 1) hx hb d_K_admits_43 (by decide) ?_
      refine lv_goto (tgt := 48) hx hb d_K_admits_44 (by decide) ?_
      exact W.zret (v := 1) hx hb hr (ju_nz true) (fun t ht hW => ⟨congrArg (fun z => Outcome.returned (some (Value.int (bI z)))) (Option.some.inj hf), ht⟩) (fun q h => nomatch h) d_K_admits_48
end
section
theorem s_nar {a : Nat} {b r : Int32} (h : f_S_charAt a b = some r) : narrow .char (.int r) = .int r := by
  rw [f_S_charAt] at h
  obtain ⟨u, -, h⟩ := Option.bind_eq_some_iff.mp h
  by_cases c : bI u = 0
  · rw [if_pos c] at h; cases h
  · rw [if_neg c] at h
    obtain ⟨v, h1, h⟩ := Option.bind_eq_some_iff.mp h
    rw [← Option.some.inj h]
    exact s1_nar h1
def f_C_isKind (a0 : Int32) : Option Bool :=
  if a0 < 0 then (some false) else (if 75 ≤ a0 then (some false) else (some true))
set_option maxHeartbeats 4000000 in
set_option maxRecDepth 100000 in
theorem c_C_isKind (l : Launch) {ad sk sv : Nat → Nat} {tK : Nat} (a0 : Int32)  (r : Bool) (hf : f_C_isKind a0 = some r) : Met l y_C_isKind (Cond.code y_C_isKind b_C_isKind 1 (Option.some FieldType.boolean) :: aw) ({ frames := 0, cells := 0, slots := 0, locals := 0 } : Room) (va_Pc [.int (a0)] (fun U => tb ad sk sv tK (fun _ => False) U U.heap)) (QcRead (bI r)) 0 0 (fun _ => False) := by
  refine Met.ofW (cc := b_C_isKind) (maxL := 1) (ret := (Option.some FieldType.boolean)) (by decide) rfl ?_
  intro p e s m args below meth c s₁ B hml hv
  obtain ⟨rfl, hT⟩ := hv
  have hx := B.exec
  have hb := B.bytes
  have hr := B.returns
  have hts := atoms_spec (ws := (Cond.code y_C_isKind b_C_isKind 1 (Option.some FieldType.boolean) :: aw)) B.pre
  have ht : ∀ {w : Cond}, w ∈ aw → w.before ([.int (a0)] : List Value).toArray s = true := fun h => hts _ (List.mem_cons_of_mem _ h)
  have hown : s.vm.findClass "CodeWords" = some m.cls := findClass_of_methodNamed B.named
  have hlocks := B.notSynchronized
  have hS : va_S (fun _ => False) s.heap s.heap [] := va_S.rf
  have hl := lv_entry ([.int (a0)]) (n := 1) (Nat.le_of_ble_eq_true rfl)
  rw [lg_entry_eq]
  generalize (lg_sl ([.int (a0)]) ++ List.replicate (1 - (lg_sl ([.int (a0)])).length) Slot.unset).toArray = ls at hl ⊢
  have hl : lv_has ls 1 [(0, .int (a0))] := hl
  rw [f_C_isKind] at hf
  refine lv_iload_n hx hb d_C_isKind_0 rfl (lv_at hl 0 rfl) ?_
  refine lv_if_lt (tgt := 16) hx hb d_C_isKind_1 (by decide) (fun c_1 => ?_) (fun c_1 => ?_)
  · replace hf := (if_pos c_1).symm.trans hf
    refine lv_iconst (v := 0) hx hb d_C_isKind_16 (by decide) ?_
    exact W.zret (v := 0) hx hb hr (ju_nz false) (fun t ht hW => ⟨congrArg (fun z => Outcome.returned (some (Value.int (bI z)))) (Option.some.inj hf), ht⟩) (fun q h => nomatch h) d_C_isKind_17
  · replace hf := (if_neg c_1).symm.trans hf
    refine lv_iload_n hx hb d_C_isKind_4 rfl (lv_at hl 0 rfl) ?_
    refine va_gets (v := .ref (tK)) hx hb hT.1 hS hown (ht aw_38) (fun _ h9 => h9) d_C_isKind_5 ?_
    refine va_tlen (v := 75) hx hb hT.2.1 hS rfl d_C_isKind_8 ?_
    refine lv_icmp_ge (tgt := 16) hx hb d_C_isKind_9 (by decide) (fun c_2 => ?_) (fun c_2 => ?_)
    · replace hf := (if_pos c_2).symm.trans hf
      refine lv_iconst (v := 0) hx hb d_C_isKind_16 (by decide) ?_
      exact W.zret (v := 0) hx hb hr (ju_nz false) (fun t ht hW => ⟨congrArg (fun z => Outcome.returned (some (Value.int (bI z)))) (Option.some.inj hf), ht⟩) (fun q h => nomatch h) d_C_isKind_17
    · replace hf := (if_neg c_2).symm.trans hf
      refine lv_iconst (v := 1) hx hb d_C_isKind_12 (by decide) ?_
      refine lv_goto (tgt := 17) hx hb d_C_isKind_13 (by decide) ?_
      exact W.zret (v := 1) hx hb hr (ju_nz true) (fun t ht hW => ⟨congrArg (fun z => Outcome.returned (some (Value.int (bI z)))) (Option.some.inj hf), ht⟩) (fun q h => nomatch h) d_C_isKind_17

theorem ju_48 {i : Nat} (hi : i < 75) {r : Bool} (g : f_C_isKind (k_stands i) = some r) (c : ¬ bI r = 0) : 48 ≤ i := by
  have h : ∀ i, i < 48 → f_C_isKind (k_stands i) = some false := by decide +kernel
  rcases Nat.lt_or_ge i 48 with q | q
  · rw [h i q] at g
    obtain rfl := Option.some.inj g
    exact absurd rfl c
  · exact q
def f_C_isLong (a0 : Int32) : Option Bool :=
  if (a0 &&& 3) = 3 then (some true) else (some false)
set_option maxHeartbeats 4000000 in
set_option maxRecDepth 100000 in
theorem c_C_isLong (l : Launch) {ad sk sv : Nat → Nat} {tK : Nat} (a0 : Int32)  (r : Bool) (hf : f_C_isLong a0 = some r) : Met l y_C_isLong (Cond.code y_C_isLong b_C_isLong 1 (Option.some FieldType.boolean) :: aw) ({ frames := 0, cells := 0, slots := 0, locals := 0 } : Room) (va_Pc [.int (a0)] (fun U => tb ad sk sv tK (fun _ => False) U U.heap)) (QcRead (bI r)) 0 0 (fun _ => False) := by
  refine Met.ofW (cc := b_C_isLong) (maxL := 1) (ret := (Option.some FieldType.boolean)) (by decide) rfl ?_
  intro p e s m args below meth c s₁ B hml hv
  obtain ⟨rfl, hT⟩ := hv
  have hx := B.exec
  have hb := B.bytes
  have hr := B.returns
  have hts := atoms_spec (ws := (Cond.code y_C_isLong b_C_isLong 1 (Option.some FieldType.boolean) :: aw)) B.pre
  have ht : ∀ {w : Cond}, w ∈ aw → w.before ([.int (a0)] : List Value).toArray s = true := fun h => hts _ (List.mem_cons_of_mem _ h)
  have hown : s.vm.findClass "CodeWords" = some m.cls := findClass_of_methodNamed B.named
  have hlocks := B.notSynchronized
  have hS : va_S (fun _ => False) s.heap s.heap [] := va_S.rf
  have hl := lv_entry ([.int (a0)]) (n := 1) (Nat.le_of_ble_eq_true rfl)
  rw [lg_entry_eq]
  generalize (lg_sl ([.int (a0)]) ++ List.replicate (1 - (lg_sl ([.int (a0)])).length) Slot.unset).toArray = ls at hl ⊢
  have hl : lv_has ls 1 [(0, .int (a0))] := hl
  rw [f_C_isLong] at hf
  refine lv_iload_n hx hb d_C_isLong_0 rfl (lv_at hl 0 rfl) ?_
  refine lv_iconst (v := 3) hx hb d_C_isLong_1 (by decide) ?_
  refine lv_iand hx hb d_C_isLong_2 ?_
  refine lv_iconst (v := 3) hx hb d_C_isLong_3 (by decide) ?_
  refine lv_icmp_ne (tgt := 11) hx hb d_C_isLong_4 (by decide) (fun c_1 => ?_) (fun c_1 => ?_)
  · replace hf := (if_neg c_1).symm.trans hf
    refine lv_iconst (v := 0) hx hb d_C_isLong_11 (by decide) ?_
    exact W.zret (v := 0) hx hb hr (ju_nz false) (fun t ht hW => ⟨congrArg (fun z => Outcome.returned (some (Value.int (bI z)))) (Option.some.inj hf), ht⟩) (fun q h => nomatch h) d_C_isLong_12
  · replace hf := (if_pos c_1).symm.trans hf
    refine lv_iconst (v := 1) hx hb d_C_isLong_7 (by decide) ?_
    refine lv_goto (tgt := 12) hx hb d_C_isLong_8 (by decide) ?_
    exact W.zret (v := 1) hx hb hr (ju_nz true) (fun t ht hW => ⟨congrArg (fun z => Outcome.returned (some (Value.int (bI z)))) (Option.some.inj hf), ht⟩) (fun q h => nomatch h) d_C_isLong_12

def f_C_exchanges (a0 : Int32) : Option Bool :=
  if a0 = 27 then (some true) else (if a0 = 32 then (some true) else (if a0 = 35 then (some true) else (if a0 = 36 then (some true) else (some false))))
set_option maxHeartbeats 4000000 in
set_option maxRecDepth 100000 in
theorem c_C_exchanges (l : Launch) {ad sk sv : Nat → Nat} {tK : Nat} (a0 : Int32)  (r : Bool) (hf : f_C_exchanges a0 = some r) : Met l y_C_exchanges (Cond.code y_C_exchanges b_C_exchanges 1 (Option.some FieldType.boolean) :: aw) ({ frames := 0, cells := 0, slots := 0, locals := 0 } : Room) (va_Pc [.int (a0)] (fun U => tb ad sk sv tK (fun _ => False) U U.heap)) (QcRead (bI r)) 0 0 (fun _ => False) := by
  refine Met.ofW (cc := b_C_exchanges) (maxL := 1) (ret := (Option.some FieldType.boolean)) (by decide) rfl ?_
  intro p e s m args below meth c s₁ B hml hv
  obtain ⟨rfl, hT⟩ := hv
  have hx := B.exec
  have hb := B.bytes
  have hr := B.returns
  have hts := atoms_spec (ws := (Cond.code y_C_exchanges b_C_exchanges 1 (Option.some FieldType.boolean) :: aw)) B.pre
  have ht : ∀ {w : Cond}, w ∈ aw → w.before ([.int (a0)] : List Value).toArray s = true := fun h => hts _ (List.mem_cons_of_mem _ h)
  have hown : s.vm.findClass "CodeWords" = some m.cls := findClass_of_methodNamed B.named
  have hlocks := B.notSynchronized
  have hS : va_S (fun _ => False) s.heap s.heap [] := va_S.rf
  have hl := lv_entry ([.int (a0)]) (n := 1) (Nat.le_of_ble_eq_true rfl)
  rw [lg_entry_eq]
  generalize (lg_sl ([.int (a0)]) ++ List.replicate (1 - (lg_sl ([.int (a0)])).length) Slot.unset).toArray = ls at hl ⊢
  have hl : lv_has ls 1 [(0, .int (a0))] := hl
  rw [f_C_exchanges] at hf
  refine lv_iload_n hx hb d_C_exchanges_0 rfl (lv_at hl 0 rfl) ?_
  refine lv_bipush (v := 27) hx hb d_C_exchanges_1 (by decide) ?_
  refine lv_icmp_eq (tgt := 24) hx hb d_C_exchanges_3 (by decide) (fun c_1 => ?_) (fun c_1 => ?_)
  · replace hf := (if_pos c_1).symm.trans hf
    refine lv_iconst (v := 1) hx hb d_C_exchanges_24 (by decide) ?_
    refine lv_goto (tgt := 29) hx hb d_C_exchanges_25 (by decide) ?_
    exact W.zret (v := 1) hx hb hr (ju_nz true) (fun t ht hW => ⟨congrArg (fun z => Outcome.returned (some (Value.int (bI z)))) (Option.some.inj hf), ht⟩) (fun q h => nomatch h) d_C_exchanges_29
  · replace hf := (if_neg c_1).symm.trans hf
    refine lv_iload_n hx hb d_C_exchanges_6 rfl (lv_at hl 0 rfl) ?_
    refine lv_bipush (v := 32) hx hb d_C_exchanges_7 (by decide) ?_
    refine lv_icmp_eq (tgt := 24) hx hb d_C_exchanges_9 (by decide) (fun c_2 => ?_) (fun c_2 => ?_)
    · replace hf := (if_pos c_2).symm.trans hf
      refine lv_iconst (v := 1) hx hb d_C_exchanges_24 (by decide) ?_
      refine lv_goto (tgt := 29) hx hb d_C_exchanges_25 (by decide) ?_
      exact W.zret (v := 1) hx hb hr (ju_nz true) (fun t ht hW => ⟨congrArg (fun z => Outcome.returned (some (Value.int (bI z)))) (Option.some.inj hf), ht⟩) (fun q h => nomatch h) d_C_exchanges_29
    · replace hf := (if_neg c_2).symm.trans hf
      refine lv_iload_n hx hb d_C_exchanges_12 rfl (lv_at hl 0 rfl) ?_
      refine lv_bipush (v := 35) hx hb d_C_exchanges_13 (by decide) ?_
      refine lv_icmp_eq (tgt := 24) hx hb d_C_exchanges_15 (by decide) (fun c_3 => ?_) (fun c_3 => ?_)
      · replace hf := (if_pos c_3).symm.trans hf
        refine lv_iconst (v := 1) hx hb d_C_exchanges_24 (by decide) ?_
        refine lv_goto (tgt := 29) hx hb d_C_exchanges_25 (by decide) ?_
        exact W.zret (v := 1) hx hb hr (ju_nz true) (fun t ht hW => ⟨congrArg (fun z => Outcome.returned (some (Value.int (bI z)))) (Option.some.inj hf), ht⟩) (fun q h => nomatch h) d_C_exchanges_29
      · replace hf := (if_neg c_3).symm.trans hf
        refine lv_iload_n hx hb d_C_exchanges_18 rfl (lv_at hl 0 rfl) ?_
        refine lv_bipush (v := 36) hx hb d_C_exchanges_19 (by decide) ?_
        refine lv_icmp_ne (tgt := 28) hx hb d_C_exchanges_21 (by decide) (fun c_4 => ?_) (fun c_4 => ?_)
        · replace hf := (if_neg c_4).symm.trans hf
          refine lv_iconst (v := 0) hx hb d_C_exchanges_28 (by decide) ?_
          exact W.zret (v := 0) hx hb hr (ju_nz false) (fun t ht hW => ⟨congrArg (fun z => Outcome.returned (some (Value.int (bI z)))) (Option.some.inj hf), ht⟩) (fun q h => nomatch h) d_C_exchanges_29
        · replace hf := (if_pos c_4).symm.trans hf
          refine lv_iconst (v := 1) hx hb d_C_exchanges_24 (by decide) ?_
          refine lv_goto (tgt := 29) hx hb d_C_exchanges_25 (by decide) ?_
          exact W.zret (v := 1) hx hb hr (ju_nz true) (fun t ht hW => ⟨congrArg (fun z => Outcome.returned (some (Value.int (bI z)))) (Option.some.inj hf), ht⟩) (fun q h => nomatch h) d_C_exchanges_29

def f_C_numberOf_L2 (a0 : Int32)  : Nat → Int32 → Option (Int32)
  | 0, _ => none
  | n + 1, x1 =>
    if 75 ≤ x1 then (some ((-1))) else (if x1 < 0 ∨ 75 ≤ x1.toNatClampNeg then none else (f_K_admits x1.toNatClampNeg a0).bind fun r_3 => if (bI r_3) = 0 then (f_C_numberOf_L2 a0  n (x1 + 1)) else (some (x1)))
def f_C_numberOf (a0 : Int32) : Option Int32 :=
  f_C_numberOf_L2 a0  80 0
set_option maxHeartbeats 4000000 in
set_option maxRecDepth 100000 in
theorem c_C_numberOf (l : Launch) {ad sk sv : Nat → Nat} {tK : Nat} (a0 : Int32)  (r : Int32) (hf : f_C_numberOf a0 = some r) : Met l y_C_numberOf (Cond.code y_C_numberOf b_C_numberOf 2 (Option.some FieldType.int) :: aw) ({ frames := 8, cells := 0, slots := 0, locals := 174 } : Room) (va_Pc [.int (a0)] (fun U => tb ad sk sv tK (fun _ => False) U U.heap)) (QcRead r) 0 0 (fun _ => False) := by
  refine Met.ofW (cc := b_C_numberOf) (maxL := 2) (ret := (Option.some FieldType.int)) (by decide) rfl ?_
  intro p e s m args below meth c s₁ B hml hv
  obtain ⟨rfl, hT⟩ := hv
  have hx := B.exec
  have hb := B.bytes
  have hr := B.returns
  have hts := atoms_spec (ws := (Cond.code y_C_numberOf b_C_numberOf 2 (Option.some FieldType.int) :: aw)) B.pre
  have ht : ∀ {w : Cond}, w ∈ aw → w.before ([.int (a0)] : List Value).toArray s = true := fun h => hts _ (List.mem_cons_of_mem _ h)
  have hown : s.vm.findClass "CodeWords" = some m.cls := findClass_of_methodNamed B.named
  have hlocks := B.notSynchronized
  have hS : va_S (fun _ => False) s.heap s.heap [] := va_S.rf
  have hl := lv_entry ([.int (a0)]) (n := 2) (Nat.le_of_ble_eq_true rfl)
  rw [lg_entry_eq]
  generalize (lg_sl ([.int (a0)]) ++ List.replicate (2 - (lg_sl ([.int (a0)])).length) Slot.unset).toArray = ls at hl ⊢
  have hl : lv_has ls 2 [(0, .int (a0))] := hl
  have J2 : ∀ (n : Nat) (x1 : Int32) (ls : Array Slot), lv_has ls 2 [(0, .int (a0)), (1, .int (x1))] → f_C_numberOf_L2 a0  n x1 = some r → pW p l e (headSpec (Cond.code y_C_numberOf b_C_numberOf 2 (Option.some FieldType.int) :: aw) ({ frames := 8, cells := 0, slots := 0, locals := 174 } : Room)).room s m ([.int (a0)] : List Value).toArray below meth c r (F0 m 2 ls []) := by
    intro n
    induction n with
    | zero =>
      intro x1  ls  hl hf
      rw [f_C_numberOf_L2] at hf
      cases hf
    | succ n ih =>
      intro x1  ls  hl hf
      rw [f_C_numberOf_L2] at hf
      refine lv_iload_n hx hb d_C_numberOf_2 rfl (lv_at hl 1 rfl) ?_
      refine va_gets (v := .ref (tK)) hx hb hT.1 hS hown (ht aw_38) (fun _ h9 => h9) d_C_numberOf_3 ?_
      refine va_tlen (v := 75) hx hb hT.2.1 hS rfl d_C_numberOf_6 ?_
      refine lv_icmp_ge (tgt := 30) hx hb d_C_numberOf_7 (by decide) (fun c_1 => ?_) (fun c_1 => ?_)
      · replace hf := (if_pos c_1).symm.trans hf
        refine lv_iconst (v := (-1)) hx hb d_C_numberOf_30 (by decide) ?_
        exact W.iret (v := (-1)) hx hb hr (fun t ht hW => ⟨congrArg (fun z => Outcome.returned (some (Value.int z))) (Option.some.inj hf), ht⟩) (fun q h => nomatch h) d_C_numberOf_31
      · replace hf := (if_neg c_1).symm.trans hf
        refine va_gets (v := .ref (tK)) hx hb hT.1 hS hown (ht aw_38) (fun _ h9 => h9) d_C_numberOf_10 ?_
        refine lv_iload_n hx hb d_C_numberOf_13 rfl (lv_at hl 1 rfl) ?_
        obtain ⟨z_2, hf⟩ := ju_gd hf
        refine vb_tq (v := .ref (ad x1.toNatClampNeg)) hx hb hT.2.1 hS z_2 rfl d_C_numberOf_14 ?_
        refine lv_iload_n hx hb d_C_numberOf_15 rfl (lv_at hl 0 rfl) ?_
        obtain ⟨r_3, g_4, hf⟩ := Option.bind_eq_some_iff.mp hf
        refine ju_calli (W.runV (As := [.int (a0)]) (rest := []) ⟨hx, hb, hml, hown, hts⟩ (c_K_admits l (ad := ad) (sk := sk) (sv := sv) (tK := tK)  x1.toNatClampNeg a0 (ju_lt z_2) r_3 g_4) (cwV 1 hts (aw_V aw_40 aw_41 aw_42 aw_12 aw_43) rfl rfl rfl (by decide +kernel) ⟨Nat.le_of_ble_eq_true rfl, Nat.le_of_ble_eq_true rfl⟩) ⟨fun a U g mk q => ⟨q.1, q.2.call⟩, tb_recvK hT (ju_lt z_2) hS, fun U hU hW => ⟨rfl, hT.at hS hU hW (fun _ z => z.elim)⟩⟩ rfl rfl hl.1 rfl (lv_room (Nat.le_of_ble_eq_true rfl)) d_C_numberOf_16 ⟨Nat.le_refl _, Nat.le_refl _⟩) ?_
        refine lv_if_eq (tgt := 24) hx hb d_C_numberOf_19 (by decide) (fun c_5 => ?_) (fun c_5 => ?_)
        · replace hf := (if_pos c_5).symm.trans hf
          refine lv_iinc (v := x1 + 1) (lv' := [(1, .int (x1 + 1)), (0, .int (a0))]) hx hb d_C_numberOf_24 hl (k := 1) rfl rfl (by decide) rfl (fun ls hl => ?_)
          refine lv_goto (tgt := 2) hx hb d_C_numberOf_27 (by decide) ?_
          exact ih (x1 + 1)  _  (lv_sub hl [1, 0] rfl) hf
        · replace hf := (if_neg c_5).symm.trans hf
          refine lv_iload_n hx hb d_C_numberOf_22 rfl (lv_at hl 1 rfl) ?_
          exact W.iret (v := x1) hx hb hr (fun t ht hW => ⟨congrArg (fun z => Outcome.returned (some (Value.int z))) (Option.some.inj hf), ht⟩) (fun q h => nomatch h) d_C_numberOf_23
  rw [f_C_numberOf] at hf
  refine lv_iconst (v := 0) hx hb d_C_numberOf_0 (by decide) ?_
  refine lv_istore_n (lv' := [(1, .int (0)), (0, .int (a0))]) hx hb d_C_numberOf_1 rfl hl (by decide) rfl (fun ls hl => ?_)
  exact J2 80 0  _  (lv_sub hl [1, 0] rfl) hf

def f_C_slotRegister (a0 : Nat) (a1 : Int32) (a2 : Int32) (a3 : Int32) (a4 : Int32) : Option Int32 :=
  if a1 < 0 then (some (0)) else ((f_S_length a0).bind fun r_2 => if a1 < r_2 then ((f_S_charAt a0 a1).bind fun r_5 => if r_5 = 100 then (some (a2)) else (if r_5 = 97 then (some (a3)) else (if r_5 = 98 then (some (a4)) else (if r_5 < 48 then (some (0)) else (if 57 < r_5 then (some (0)) else (some (r_5 - 48))))))) else (some (0)))
set_option maxHeartbeats 4000000 in
set_option maxRecDepth 100000 in
theorem c_C_slotRegister (l : Launch) {ad sk sv : Nat → Nat} {tK : Nat} (a0 : Nat) (a1 : Int32) (a2 : Int32) (a3 : Int32) (a4 : Int32) (ha0 : a0 < 180) (r : Int32) (hf : f_C_slotRegister a0 a1 a2 a3 a4 = some r) : Met l y_C_slotRegister (Cond.code y_C_slotRegister b_C_slotRegister 6 (Option.some FieldType.int) :: aw) ({ frames := 4, cells := 0, slots := 0, locals := 85 } : Room) (va_Pc [.ref (sk a0), .int (a1), .int (a2), .int (a3), .int (a4)] (fun U => tb ad sk sv tK (fun _ => False) U U.heap)) (QcRead r) 0 0 (fun _ => False) := by
  refine Met.ofW (cc := b_C_slotRegister) (maxL := 6) (ret := (Option.some FieldType.int)) (by decide) rfl ?_
  intro p e s m args below meth c s₁ B hml hv
  obtain ⟨rfl, hT⟩ := hv
  have hx := B.exec
  have hb := B.bytes
  have hr := B.returns
  have hts := atoms_spec (ws := (Cond.code y_C_slotRegister b_C_slotRegister 6 (Option.some FieldType.int) :: aw)) B.pre
  have ht : ∀ {w : Cond}, w ∈ aw → w.before ([.ref (sk a0), .int (a1), .int (a2), .int (a3), .int (a4)] : List Value).toArray s = true := fun h => hts _ (List.mem_cons_of_mem _ h)
  have hown : s.vm.findClass "CodeWords" = some m.cls := findClass_of_methodNamed B.named
  have hlocks := B.notSynchronized
  have hS : va_S (fun _ => False) s.heap s.heap [] := va_S.rf
  have hl := lv_entry ([.ref (sk a0), .int (a1), .int (a2), .int (a3), .int (a4)]) (n := 6) (Nat.le_of_ble_eq_true rfl)
  rw [lg_entry_eq]
  generalize (lg_sl ([.ref (sk a0), .int (a1), .int (a2), .int (a3), .int (a4)]) ++ List.replicate (6 - (lg_sl ([.ref (sk a0), .int (a1), .int (a2), .int (a3), .int (a4)])).length) Slot.unset).toArray = ls at hl ⊢
  have hl : lv_has ls 6 [(0, .ref (sk a0)), (1, .int (a1)), (2, .int (a2)), (3, .int (a3)), (4, .int (a4))] := hl
  rw [f_C_slotRegister] at hf
  refine lv_iload_n hx hb d_C_slotRegister_0 rfl (lv_at hl 1 rfl) ?_
  refine lv_if_lt (tgt := 12) hx hb d_C_slotRegister_1 (by decide) (fun c_1 => ?_) (fun c_1 => ?_)
  · replace hf := (if_pos c_1).symm.trans hf
    refine lv_iconst (v := 0) hx hb d_C_slotRegister_12 (by decide) ?_
    exact W.iret (v := 0) hx hb hr (fun t ht hW => ⟨congrArg (fun z => Outcome.returned (some (Value.int z))) (Option.some.inj hf), ht⟩) (fun q h => nomatch h) d_C_slotRegister_13
  · replace hf := (if_neg c_1).symm.trans hf
    refine lv_iload_n hx hb d_C_slotRegister_4 rfl (lv_at hl 1 rfl) ?_
    refine lv_aload_n hx hb d_C_slotRegister_5 rfl (lv_at hl 0 rfl) ?_
    obtain ⟨r_2, g_3, hf⟩ := Option.bind_eq_some_iff.mp hf
    refine ju_calli (W.runV (As := []) (rest := [.int (a1)]) ⟨hx, hb, hml, hown, hts⟩ (c_S_length l (ad := ad) (sk := sk) (sv := sv) (tK := tK)  a0 ha0 r_2 g_3) (cwV 0 hts (aw_V aw_174 aw_62 aw_63 aw_7 aw_64) rfl rfl rfl (by decide +kernel) ⟨Nat.le_of_ble_eq_true rfl, Nat.le_of_ble_eq_true rfl⟩) ⟨fun a U g mk q => ⟨q.1, q.2.call⟩, tb_recvS hT ha0 hS, fun U hU hW => ⟨rfl, hT.at hS hU hW (fun _ z => z.elim)⟩⟩ rfl rfl hl.1 rfl (lv_room (Nat.le_of_ble_eq_true rfl)) d_C_slotRegister_6 ⟨Nat.le_refl _, Nat.le_refl _⟩) ?_
    refine lv_icmp_lt (tgt := 14) hx hb d_C_slotRegister_9 (by decide) (fun c_4 => ?_) (fun c_4 => ?_)
    · replace hf := (if_pos c_4).symm.trans hf
      refine lv_aload_n hx hb d_C_slotRegister_14 rfl (lv_at hl 0 rfl) ?_
      refine lv_iload_n hx hb d_C_slotRegister_15 rfl (lv_at hl 1 rfl) ?_
      obtain ⟨r_5, g_6, hf⟩ := Option.bind_eq_some_iff.mp hf
      refine ju_calli (W.runV (As := [.int (a1)]) (rest := []) ⟨hx, hb, hml, hown, hts⟩ (c_S_charAt l (ad := ad) (sk := sk) (sv := sv) (tK := tK)  a0 a1 ha0 r_5 g_6) (cwV 1 hts (aw_V aw_175 aw_72 aw_73 aw_7 aw_74) rfl rfl rfl (by decide +kernel) ⟨Nat.le_of_ble_eq_true rfl, Nat.le_of_ble_eq_true rfl⟩) ⟨fun a U g mk q => ⟨q.1, q.2.call⟩, tb_recvS hT ha0 hS, fun U hU hW => ⟨rfl, hT.at hS hU hW (fun _ z => z.elim)⟩⟩ rfl rfl hl.1 rfl (lv_room (Nat.le_of_ble_eq_true rfl)) d_C_slotRegister_16 ⟨Nat.le_refl _, Nat.le_refl _⟩) ?_
      refine lv_istore (lv' := [(5, .int (r_5)), (0, .ref (sk a0)), (1, .int (a1)), (2, .int (a2)), (3, .int (a3)), (4, .int (a4))]) hx hb d_C_slotRegister_19 hl (by decide) rfl (fun ls hl => ?_)
      refine lv_iload hx hb d_C_slotRegister_21 (lv_at hl 0 rfl) ?_
      refine lv_bipush (v := 100) hx hb d_C_slotRegister_23 (by decide) ?_
      refine lv_icmp_ne (tgt := 30) hx hb d_C_slotRegister_25 (by decide) (fun c_7 => ?_) (fun c_7 => ?_)
      · replace hf := (if_neg c_7).symm.trans hf
        refine lv_iload hx hb d_C_slotRegister_30 (lv_at hl 0 rfl) ?_
        refine lv_bipush (v := 97) hx hb d_C_slotRegister_32 (by decide) ?_
        refine lv_icmp_ne (tgt := 39) hx hb d_C_slotRegister_34 (by decide) (fun c_8 => ?_) (fun c_8 => ?_)
        · replace hf := (if_neg c_8).symm.trans hf
          refine lv_iload hx hb d_C_slotRegister_39 (lv_at hl 0 rfl) ?_
          refine lv_bipush (v := 98) hx hb d_C_slotRegister_41 (by decide) ?_
          refine lv_icmp_ne (tgt := 49) hx hb d_C_slotRegister_43 (by decide) (fun c_9 => ?_) (fun c_9 => ?_)
          · replace hf := (if_neg c_9).symm.trans hf
            refine lv_iload hx hb d_C_slotRegister_49 (lv_at hl 0 rfl) ?_
            refine lv_bipush (v := 48) hx hb d_C_slotRegister_51 (by decide) ?_
            refine lv_icmp_lt (tgt := 71) hx hb d_C_slotRegister_53 (by decide) (fun c_10 => ?_) (fun c_10 => ?_)
            · replace hf := (if_pos c_10).symm.trans hf
              refine lv_iconst (v := 0) hx hb d_C_slotRegister_71 (by decide) ?_
              exact W.iret (v := 0) hx hb hr (fun t ht hW => ⟨congrArg (fun z => Outcome.returned (some (Value.int z))) (Option.some.inj hf), ht⟩) (fun q h => nomatch h) d_C_slotRegister_72
            · replace hf := (if_neg c_10).symm.trans hf
              refine lv_iload hx hb d_C_slotRegister_56 (lv_at hl 0 rfl) ?_
              refine lv_bipush (v := 57) hx hb d_C_slotRegister_58 (by decide) ?_
              refine lv_icmp_gt (tgt := 71) hx hb d_C_slotRegister_60 (by decide) (fun c_11 => ?_) (fun c_11 => ?_)
              · replace hf := (if_pos c_11).symm.trans hf
                refine lv_iconst (v := 0) hx hb d_C_slotRegister_71 (by decide) ?_
                exact W.iret (v := 0) hx hb hr (fun t ht hW => ⟨congrArg (fun z => Outcome.returned (some (Value.int z))) (Option.some.inj hf), ht⟩) (fun q h => nomatch h) d_C_slotRegister_72
              · replace hf := (if_neg c_11).symm.trans hf
                refine lv_iload hx hb d_C_slotRegister_63 (lv_at hl 0 rfl) ?_
                refine lv_bipush (v := 48) hx hb d_C_slotRegister_65 (by decide) ?_
                refine lv_isub hx hb d_C_slotRegister_67 ?_
                refine lv_goto (tgt := 72) hx hb d_C_slotRegister_68 (by decide) ?_
                exact W.iret (v := r_5 - 48) hx hb hr (fun t ht hW => ⟨congrArg (fun z => Outcome.returned (some (Value.int z))) (Option.some.inj hf), ht⟩) (fun q h => nomatch h) d_C_slotRegister_72
          · replace hf := (if_pos c_9).symm.trans hf
            refine lv_iload hx hb d_C_slotRegister_46 (lv_at hl 5 rfl) ?_
            exact W.iret (v := a4) hx hb hr (fun t ht hW => ⟨congrArg (fun z => Outcome.returned (some (Value.int z))) (Option.some.inj hf), ht⟩) (fun q h => nomatch h) d_C_slotRegister_48
        · replace hf := (if_pos c_8).symm.trans hf
          refine lv_iload_n hx hb d_C_slotRegister_37 rfl (lv_at hl 4 rfl) ?_
          exact W.iret (v := a3) hx hb hr (fun t ht hW => ⟨congrArg (fun z => Outcome.returned (some (Value.int z))) (Option.some.inj hf), ht⟩) (fun q h => nomatch h) d_C_slotRegister_38
      · replace hf := (if_pos c_7).symm.trans hf
        refine lv_iload_n hx hb d_C_slotRegister_28 rfl (lv_at hl 3 rfl) ?_
        exact W.iret (v := a2) hx hb hr (fun t ht hW => ⟨congrArg (fun z => Outcome.returned (some (Value.int z))) (Option.some.inj hf), ht⟩) (fun q h => nomatch h) d_C_slotRegister_29
    · replace hf := (if_neg c_4).symm.trans hf
      refine lv_iconst (v := 0) hx hb d_C_slotRegister_12 (by decide) ?_
      exact W.iret (v := 0) hx hb hr (fun t ht hW => ⟨congrArg (fun z => Outcome.returned (some (Value.int z))) (Option.some.inj hf), ht⟩) (fun q h => nomatch h) d_C_slotRegister_13

def f_C_longOf (a0 : Nat) (a1 : Int32) (a2 : Int32) (a3 : Int32) (a4 : Int32) : Option Int32 :=
  (f_C_isKind (k_stands a0)).bind fun r_1 => if (bI r_1) = 0 then (some ((-1))) else ((f_C_slotRegister (k_slots a0) 0 a1 a2 a3).bind fun r_4 => (f_C_slotRegister (k_slots a0) 1 a1 a2 a3).bind fun r_6 => (f_C_slotRegister (k_slots a0) 2 a1 a2 a3).bind fun r_8 => if (k_stands a0) < 0 ∨ 75 ≤ (k_stands a0).toNatClampNeg then none else (f_K_has a0 8).bind fun r_11 => if (bI r_11) = 0 then ((f_K_compose ((k_stands a0).toNatClampNeg) r_4 r_6 r_8 0).bind fun r_14 => some (r_14)) else ((f_K_compose ((k_stands a0).toNatClampNeg) r_4 r_6 r_8 a4).bind fun r_16 => some (r_16)))
set_option maxHeartbeats 4000000 in
set_option maxRecDepth 100000 in
theorem c_C_longOf (l : Launch) {ad sk sv : Nat → Nat} {tK : Nat} (a0 : Nat) (a1 : Int32) (a2 : Int32) (a3 : Int32) (a4 : Int32) (ha0 : a0 < 75) (r : Int32) (hf : f_C_longOf a0 a1 a2 a3 a4 = some r) : Met l y_C_longOf (Cond.code y_C_longOf b_C_longOf 8 (Option.some FieldType.int) :: aw) ({ frames := 7, cells := 0, slots := 0, locals := 153 } : Room) (va_Pc [.ref (ad a0), .int (a1), .int (a2), .int (a3), .int (a4)] (fun U => tb ad sk sv tK (fun _ => False) U U.heap)) (QcRead r) 0 0 (fun _ => False) := by
  refine Met.ofW (cc := b_C_longOf) (maxL := 8) (ret := (Option.some FieldType.int)) (by decide) rfl ?_
  intro p e s m args below meth c s₁ B hml hv
  obtain ⟨rfl, hT⟩ := hv
  have hx := B.exec
  have hb := B.bytes
  have hr := B.returns
  have hts := atoms_spec (ws := (Cond.code y_C_longOf b_C_longOf 8 (Option.some FieldType.int) :: aw)) B.pre
  have ht : ∀ {w : Cond}, w ∈ aw → w.before ([.ref (ad a0), .int (a1), .int (a2), .int (a3), .int (a4)] : List Value).toArray s = true := fun h => hts _ (List.mem_cons_of_mem _ h)
  have hown : s.vm.findClass "CodeWords" = some m.cls := findClass_of_methodNamed B.named
  have hlocks := B.notSynchronized
  have hS : va_S (fun _ => False) s.heap s.heap [] := va_S.rf
  have hl := lv_entry ([.ref (ad a0), .int (a1), .int (a2), .int (a3), .int (a4)]) (n := 8) (Nat.le_of_ble_eq_true rfl)
  rw [lg_entry_eq]
  generalize (lg_sl ([.ref (ad a0), .int (a1), .int (a2), .int (a3), .int (a4)]) ++ List.replicate (8 - (lg_sl ([.ref (ad a0), .int (a1), .int (a2), .int (a3), .int (a4)])).length) Slot.unset).toArray = ls at hl ⊢
  have hl : lv_has ls 8 [(0, .ref (ad a0)), (1, .int (a1)), (2, .int (a2)), (3, .int (a3)), (4, .int (a4))] := hl
  rw [f_C_longOf] at hf
  refine lv_aload_n hx hb d_C_longOf_0 rfl (lv_at hl 0 rfl) ?_
  refine vk_getf (v := .int (k_stands a0)) hx hb (tb_stands hT ha0) hS hown (ht aw_774) (fun _ h9 => h9) d_C_longOf_1 ?_
  obtain ⟨r_1, g_2, hf⟩ := Option.bind_eq_some_iff.mp hf
  refine ju_calli (W.runS (As := [.int (k_stands a0)]) (rest := []) ⟨hx, hb, hml, hown, hts⟩ (c_C_isKind l (ad := ad) (sk := sk) (sv := sv) (tK := tK)  (k_stands a0)  r_1 g_2) (va_cwS 1 hts (aw_S aw_152 aw_153 aw_1 aw_154) rfl rfl rfl (by decide +kernel) ⟨Nat.le_of_ble_eq_true rfl, Nat.le_of_ble_eq_true rfl⟩) ⟨fun a U g mk q => ⟨q.1, q.2.call⟩, fun U hU hW => ⟨rfl, hT.at hS hU hW (fun _ z => z.elim)⟩⟩ rfl rfl hl.1 rfl (lv_room (Nat.le_of_ble_eq_true rfl)) d_C_longOf_4 ⟨Nat.le_refl _, Nat.le_refl _⟩) ?_
  refine lv_if_ne (tgt := 12) hx hb d_C_longOf_7 (by decide) (fun c_3 => ?_) (fun c_3 => ?_)
  · replace hf := (if_neg c_3).symm.trans hf
    refine lv_aload_n hx hb d_C_longOf_12 rfl (lv_at hl 0 rfl) ?_
    refine vk_getf (v := .ref (sk (k_slots a0))) hx hb (tb_slots hT ha0 (ju_48 ha0 ‹_› ‹_›)) hS hown (ht aw_775) (fun _ h9 => h9) d_C_longOf_13 ?_
    refine lv_iconst (v := 0) hx hb d_C_longOf_16 (by decide) ?_
    refine lv_iload_n hx hb d_C_longOf_17 rfl (lv_at hl 1 rfl) ?_
    refine lv_iload_n hx hb d_C_longOf_18 rfl (lv_at hl 2 rfl) ?_
    refine lv_iload_n hx hb d_C_longOf_19 rfl (lv_at hl 3 rfl) ?_
    obtain ⟨r_4, g_5, hf⟩ := Option.bind_eq_some_iff.mp hf
    refine ju_calli (W.runS (As := [.ref (sk (k_slots a0)), .int (0), .int (a1), .int (a2), .int (a3)]) (rest := []) ⟨hx, hb, hml, hown, hts⟩ (c_C_slotRegister l (ad := ad) (sk := sk) (sv := sv) (tK := tK)  (k_slots a0) 0 a1 a2 a3 (k_slots_lt ha0) r_4 g_5) (va_cwS 5 hts (aw_S aw_171 aw_172 aw_1 aw_173) rfl rfl rfl (by decide +kernel) ⟨Nat.le_of_ble_eq_true rfl, Nat.le_of_ble_eq_true rfl⟩) ⟨fun a U g mk q => ⟨q.1, q.2.call⟩, fun U hU hW => ⟨rfl, hT.at hS hU hW (fun _ z => z.elim)⟩⟩ rfl rfl hl.1 rfl (lv_room (Nat.le_of_ble_eq_true rfl)) d_C_longOf_20 ⟨Nat.le_refl _, Nat.le_refl _⟩) ?_
    refine lv_istore (lv' := [(5, .int (r_4)), (0, .ref (ad a0)), (1, .int (a1)), (2, .int (a2)), (3, .int (a3)), (4, .int (a4))]) hx hb d_C_longOf_23 hl (by decide) rfl (fun ls hl => ?_)
    refine lv_aload_n hx hb d_C_longOf_25 rfl (lv_at hl 1 rfl) ?_
    refine vk_getf (v := .ref (sk (k_slots a0))) hx hb (tb_slots hT ha0 (ju_48 ha0 ‹_› ‹_›)) hS hown (ht aw_775) (fun _ h9 => h9) d_C_longOf_26 ?_
    refine lv_iconst (v := 1) hx hb d_C_longOf_29 (by decide) ?_
    refine lv_iload_n hx hb d_C_longOf_30 rfl (lv_at hl 2 rfl) ?_
    refine lv_iload_n hx hb d_C_longOf_31 rfl (lv_at hl 3 rfl) ?_
    refine lv_iload_n hx hb d_C_longOf_32 rfl (lv_at hl 4 rfl) ?_
    obtain ⟨r_6, g_7, hf⟩ := Option.bind_eq_some_iff.mp hf
    refine ju_calli (W.runS (As := [.ref (sk (k_slots a0)), .int (1), .int (a1), .int (a2), .int (a3)]) (rest := []) ⟨hx, hb, hml, hown, hts⟩ (c_C_slotRegister l (ad := ad) (sk := sk) (sv := sv) (tK := tK)  (k_slots a0) 1 a1 a2 a3 (k_slots_lt ha0) r_6 g_7) (va_cwS 5 hts (aw_S aw_171 aw_172 aw_1 aw_173) rfl rfl rfl (by decide +kernel) ⟨Nat.le_of_ble_eq_true rfl, Nat.le_of_ble_eq_true rfl⟩) ⟨fun a U g mk q => ⟨q.1, q.2.call⟩, fun U hU hW => ⟨rfl, hT.at hS hU hW (fun _ z => z.elim)⟩⟩ rfl rfl hl.1 rfl (lv_room (Nat.le_of_ble_eq_true rfl)) d_C_longOf_33 ⟨Nat.le_refl _, Nat.le_refl _⟩) ?_
    refine lv_istore (lv' := [(6, .int (r_6)), (5, .int (r_4)), (0, .ref (ad a0)), (1, .int (a1)), (2, .int (a2)), (3, .int (a3)), (4, .int (a4))]) hx hb d_C_longOf_36 hl (by decide) rfl (fun ls hl => ?_)
    refine lv_aload_n hx hb d_C_longOf_38 rfl (lv_at hl 2 rfl) ?_
    refine vk_getf (v := .ref (sk (k_slots a0))) hx hb (tb_slots hT ha0 (ju_48 ha0 ‹_› ‹_›)) hS hown (ht aw_775) (fun _ h9 => h9) d_C_longOf_39 ?_
    refine lv_iconst (v := 2) hx hb d_C_longOf_42 (by decide) ?_
    refine lv_iload_n hx hb d_C_longOf_43 rfl (lv_at hl 3 rfl) ?_
    refine lv_iload_n hx hb d_C_longOf_44 rfl (lv_at hl 4 rfl) ?_
    refine lv_iload_n hx hb d_C_longOf_45 rfl (lv_at hl 5 rfl) ?_
    obtain ⟨r_8, g_9, hf⟩ := Option.bind_eq_some_iff.mp hf
    refine ju_calli (W.runS (As := [.ref (sk (k_slots a0)), .int (2), .int (a1), .int (a2), .int (a3)]) (rest := []) ⟨hx, hb, hml, hown, hts⟩ (c_C_slotRegister l (ad := ad) (sk := sk) (sv := sv) (tK := tK)  (k_slots a0) 2 a1 a2 a3 (k_slots_lt ha0) r_8 g_9) (va_cwS 5 hts (aw_S aw_171 aw_172 aw_1 aw_173) rfl rfl rfl (by decide +kernel) ⟨Nat.le_of_ble_eq_true rfl, Nat.le_of_ble_eq_true rfl⟩) ⟨fun a U g mk q => ⟨q.1, q.2.call⟩, fun U hU hW => ⟨rfl, hT.at hS hU hW (fun _ z => z.elim)⟩⟩ rfl rfl hl.1 rfl (lv_room (Nat.le_of_ble_eq_true rfl)) d_C_longOf_46 ⟨Nat.le_refl _, Nat.le_refl _⟩) ?_
    refine lv_istore (lv' := [(7, .int (r_8)), (6, .int (r_6)), (5, .int (r_4)), (0, .ref (ad a0)), (1, .int (a1)), (2, .int (a2)), (3, .int (a3)), (4, .int (a4))]) hx hb d_C_longOf_49 hl (by decide) rfl (fun ls hl => ?_)
    refine va_gets (v := .ref (tK)) hx hb hT.1 hS hown (ht aw_38) (fun _ h9 => h9) d_C_longOf_51 ?_
    refine lv_aload_n hx hb d_C_longOf_54 rfl (lv_at hl 3 rfl) ?_
    refine vk_getf (v := .int (k_stands a0)) hx hb (tb_stands hT ha0) hS hown (ht aw_774) (fun _ h9 => h9) d_C_longOf_55 ?_
    obtain ⟨z_10, hf⟩ := ju_gd hf
    refine vb_tq (v := .ref (ad (k_stands a0).toNatClampNeg)) hx hb hT.2.1 hS z_10 rfl d_C_longOf_58 ?_
    refine lv_iload hx hb d_C_longOf_59 (lv_at hl 2 rfl) ?_
    refine lv_iload hx hb d_C_longOf_61 (lv_at hl 1 rfl) ?_
    refine lv_iload hx hb d_C_longOf_63 (lv_at hl 0 rfl) ?_
    refine lv_aload_n hx hb d_C_longOf_65 rfl (lv_at hl 3 rfl) ?_
    refine lv_bipush (v := 8) hx hb d_C_longOf_66 (by decide) ?_
    obtain ⟨r_11, g_12, hf⟩ := Option.bind_eq_some_iff.mp hf
    refine ju_calli (W.runV (As := [.int (8)]) (rest := [.int (r_8), .int (r_6), .int (r_4), .ref (ad (k_stands a0).toNatClampNeg)]) ⟨hx, hb, hml, hown, hts⟩ (c_K_has l (ad := ad) (sk := sk) (sv := sv) (tK := tK)  a0 8 ha0 r_11 g_12) (cwV 1 hts (aw_V aw_176 aw_49 aw_50 aw_12 aw_51) rfl rfl rfl (by decide +kernel) ⟨Nat.le_of_ble_eq_true rfl, Nat.le_of_ble_eq_true rfl⟩) ⟨fun a U g mk q => ⟨q.1, q.2.call⟩, tb_recvK hT ha0 hS, fun U hU hW => ⟨rfl, hT.at hS hU hW (fun _ z => z.elim)⟩⟩ rfl rfl hl.1 rfl (lv_room (Nat.le_of_ble_eq_true rfl)) d_C_longOf_68 ⟨Nat.le_refl _, Nat.le_refl _⟩) ?_
    refine lv_if_eq (tgt := 79) hx hb d_C_longOf_71 (by decide) (fun c_13 => ?_) (fun c_13 => ?_)
    · replace hf := (if_pos c_13).symm.trans hf
      refine lv_iconst (v := 0) hx hb d_C_longOf_79 (by decide) ?_
      obtain ⟨r_14, g_15, hf⟩ := Option.bind_eq_some_iff.mp hf
      refine ju_calli (W.runV (As := [.int (r_4), .int (r_6), .int (r_8), .int (0)]) (rest := []) ⟨hx, hb, hml, hown, hts⟩ (c_K_compose l (ad := ad) (sk := sk) (sv := sv) (tK := tK)  ((k_stands a0).toNatClampNeg) r_4 r_6 r_8 0 (ju_lt z_10) r_14 g_15) (cwV 4 hts (aw_V aw_155 aw_156 aw_157 aw_12 aw_158) rfl rfl rfl (by decide +kernel) ⟨Nat.le_of_ble_eq_true rfl, Nat.le_of_ble_eq_true rfl⟩) ⟨fun a U g mk q => ⟨q.1, q.2.call⟩, tb_recvK hT (ju_lt z_10) hS, fun U hU hW => ⟨rfl, hT.at hS hU hW (fun _ z => z.elim)⟩⟩ rfl rfl hl.1 rfl (lv_room (Nat.le_of_ble_eq_true rfl)) d_C_longOf_80 ⟨Nat.le_refl _, Nat.le_refl _⟩) ?_
      exact W.iret (v := r_14) hx hb hr (fun t ht hW => ⟨congrArg (fun z => Outcome.returned (some (Value.int z))) (Option.some.inj hf), ht⟩) (fun q h => nomatch h) d_C_longOf_83
    · replace hf := (if_neg c_13).symm.trans hf
      refine lv_iload hx hb d_C_longOf_74 (lv_at hl 7 rfl) ?_
      refine lv_goto (tgt := 80) hx hb d_C_longOf_76 (by decide) ?_
      obtain ⟨r_16, g_17, hf⟩ := Option.bind_eq_some_iff.mp hf
      refine ju_calli (W.runV (As := [.int (r_4), .int (r_6), .int (r_8), .int (a4)]) (rest := []) ⟨hx, hb, hml, hown, hts⟩ (c_K_compose l (ad := ad) (sk := sk) (sv := sv) (tK := tK)  ((k_stands a0).toNatClampNeg) r_4 r_6 r_8 a4 (ju_lt z_10) r_16 g_17) (cwV 4 hts (aw_V aw_155 aw_156 aw_157 aw_12 aw_158) rfl rfl rfl (by decide +kernel) ⟨Nat.le_of_ble_eq_true rfl, Nat.le_of_ble_eq_true rfl⟩) ⟨fun a U g mk q => ⟨q.1, q.2.call⟩, tb_recvK hT (ju_lt z_10) hS, fun U hU hW => ⟨rfl, hT.at hS hU hW (fun _ z => z.elim)⟩⟩ rfl rfl hl.1 rfl (lv_room (Nat.le_of_ble_eq_true rfl)) d_C_longOf_80 ⟨Nat.le_refl _, Nat.le_refl _⟩) ?_
      exact W.iret (v := r_16) hx hb hr (fun t ht hW => ⟨congrArg (fun z => Outcome.returned (some (Value.int z))) (Option.some.inj hf), ht⟩) (fun q h => nomatch h) d_C_longOf_83
  · replace hf := (if_pos c_3).symm.trans hf
    refine lv_iconst (v := (-1)) hx hb d_C_longOf_10 (by decide) ?_
    exact W.iret (v := (-1)) hx hb hr (fun t ht hW => ⟨congrArg (fun z => Outcome.returned (some (Value.int z))) (Option.some.inj hf), ht⟩) (fun q h => nomatch h) d_C_longOf_11

def f_C_shortOf_L27 (a0 : Int32) (a1 : Int32) (a2 : Int32) (a3 : Int32) (a4 : Int32)  : Nat → Int32 → Int32 → Option (Int32)
  | 0, _, _ => none
  | n + 1, x5, x6 =>
    if 75 ≤ x6 then (some ((-1))) else (if x6 < 0 ∨ 75 ≤ x6.toNatClampNeg then none else if (k_stands x6.toNatClampNeg) = a0 then ((f_K_allows x6.toNatClampNeg a1 a2 a3 a4).bind fun r_10 => if (bI r_10) = 0 then (f_C_shortOf_L27 a0 a1 a2 a3 a4  n x5 (x6 + 1)) else ((f_C_longOf x6.toNatClampNeg a1 a2 a3 a4).bind fun r_13 => if r_13 = x5 then ((f_K_compose x6.toNatClampNeg a1 a2 a3 a4).bind fun r_16 => some (r_16)) else (f_C_shortOf_L27 a0 a1 a2 a3 a4  n x5 (x6 + 1)))) else (f_C_shortOf_L27 a0 a1 a2 a3 a4  n x5 (x6 + 1)))
def f_C_shortOf (a0 : Int32) (a1 : Int32) (a2 : Int32) (a3 : Int32) (a4 : Int32) : Option Int32 :=
  (f_C_isKind a0).bind fun r_1 => if (bI r_1) = 0 then (some ((-1))) else (if a0 < 0 ∨ 75 ≤ a0.toNatClampNeg then none else (f_K_compose a0.toNatClampNeg a1 a2 a3 a4).bind fun r_5 => f_C_shortOf_L27 a0 a1 a2 a3 a4  80 r_5 0)
set_option maxHeartbeats 4000000 in
set_option maxRecDepth 100000 in
theorem c_C_shortOf (l : Launch) {ad sk sv : Nat → Nat} {tK : Nat} (a0 : Int32) (a1 : Int32) (a2 : Int32) (a3 : Int32) (a4 : Int32)  (r : Int32) (hf : f_C_shortOf a0 a1 a2 a3 a4 = some r) : Met l y_C_shortOf (Cond.code y_C_shortOf b_C_shortOf 8 (Option.some FieldType.int) :: aw) ({ frames := 8, cells := 0, slots := 0, locals := 180 } : Room) (va_Pc [.int (a0), .int (a1), .int (a2), .int (a3), .int (a4)] (fun U => tb ad sk sv tK (fun _ => False) U U.heap)) (QcRead r) 0 0 (fun _ => False) := by
  refine Met.ofW (cc := b_C_shortOf) (maxL := 8) (ret := (Option.some FieldType.int)) (by decide) rfl ?_
  intro p e s m args below meth c s₁ B hml hv
  obtain ⟨rfl, hT⟩ := hv
  have hx := B.exec
  have hb := B.bytes
  have hr := B.returns
  have hts := atoms_spec (ws := (Cond.code y_C_shortOf b_C_shortOf 8 (Option.some FieldType.int) :: aw)) B.pre
  have ht : ∀ {w : Cond}, w ∈ aw → w.before ([.int (a0), .int (a1), .int (a2), .int (a3), .int (a4)] : List Value).toArray s = true := fun h => hts _ (List.mem_cons_of_mem _ h)
  have hown : s.vm.findClass "CodeWords" = some m.cls := findClass_of_methodNamed B.named
  have hlocks := B.notSynchronized
  have hS : va_S (fun _ => False) s.heap s.heap [] := va_S.rf
  have hl := lv_entry ([.int (a0), .int (a1), .int (a2), .int (a3), .int (a4)]) (n := 8) (Nat.le_of_ble_eq_true rfl)
  rw [lg_entry_eq]
  generalize (lg_sl ([.int (a0), .int (a1), .int (a2), .int (a3), .int (a4)]) ++ List.replicate (8 - (lg_sl ([.int (a0), .int (a1), .int (a2), .int (a3), .int (a4)])).length) Slot.unset).toArray = ls at hl ⊢
  have hl : lv_has ls 8 [(0, .int (a0)), (1, .int (a1)), (2, .int (a2)), (3, .int (a3)), (4, .int (a4))] := hl
  have J27 : ∀ (n : Nat) (x5 : Int32) (x6 : Int32) (ls : Array Slot), lv_has ls 8 [(0, .int (a0)), (1, .int (a1)), (2, .int (a2)), (3, .int (a3)), (4, .int (a4)), (5, .int (x5)), (6, .int (x6))] → f_C_shortOf_L27 a0 a1 a2 a3 a4  n x5 x6 = some r → pW p l e (headSpec (Cond.code y_C_shortOf b_C_shortOf 8 (Option.some FieldType.int) :: aw) ({ frames := 8, cells := 0, slots := 0, locals := 180 } : Room)).room s m ([.int (a0), .int (a1), .int (a2), .int (a3), .int (a4)] : List Value).toArray below meth c r (F0 m 27 ls []) := by
    intro n
    induction n with
    | zero =>
      intro x5 x6  ls  hl hf
      rw [f_C_shortOf_L27] at hf
      cases hf
    | succ n ih =>
      intro x5 x6  ls  hl hf
      rw [f_C_shortOf_L27] at hf
      refine lv_iload hx hb d_C_shortOf_27 (lv_at hl 6 rfl) ?_
      refine va_gets (v := .ref (tK)) hx hb hT.1 hS hown (ht aw_38) (fun _ h9 => h9) d_C_shortOf_29 ?_
      refine va_tlen (v := 75) hx hb hT.2.1 hS rfl d_C_shortOf_32 ?_
      refine lv_icmp_ge (tgt := 98) hx hb d_C_shortOf_33 (by decide) (fun c_7 => ?_) (fun c_7 => ?_)
      · replace hf := (if_pos c_7).symm.trans hf
        refine lv_iconst (v := (-1)) hx hb d_C_shortOf_98 (by decide) ?_
        exact W.iret (v := (-1)) hx hb hr (fun t ht hW => ⟨congrArg (fun z => Outcome.returned (some (Value.int z))) (Option.some.inj hf), ht⟩) (fun q h => nomatch h) d_C_shortOf_99
      · replace hf := (if_neg c_7).symm.trans hf
        refine va_gets (v := .ref (tK)) hx hb hT.1 hS hown (ht aw_38) (fun _ h9 => h9) d_C_shortOf_36 ?_
        refine lv_iload hx hb d_C_shortOf_39 (lv_at hl 6 rfl) ?_
        obtain ⟨z_8, hf⟩ := ju_gd hf
        refine vb_tq (v := .ref (ad x6.toNatClampNeg)) hx hb hT.2.1 hS z_8 rfl d_C_shortOf_41 ?_
        refine lv_astore (lv' := [(7, .ref (ad x6.toNatClampNeg)), (0, .int (a0)), (1, .int (a1)), (2, .int (a2)), (3, .int (a3)), (4, .int (a4)), (5, .int (x5)), (6, .int (x6))]) hx hb d_C_shortOf_42 hl (by decide) rfl (fun ls hl => ?_)
        refine lv_aload hx hb d_C_shortOf_44 (lv_at hl 0 rfl) ?_
        refine vk_getf (v := .int (k_stands x6.toNatClampNeg)) hx hb (tb_stands hT (ju_lt z_8)) hS hown (ht aw_774) (fun _ h9 => h9) d_C_shortOf_46 ?_
        refine lv_iload_n hx hb d_C_shortOf_49 rfl (lv_at hl 1 rfl) ?_
        refine lv_icmp_ne (tgt := 92) hx hb d_C_shortOf_50 (by decide) (fun c_9 => ?_) (fun c_9 => ?_)
        · replace hf := (if_neg c_9).symm.trans hf
          refine lv_iinc (v := x6 + 1) (lv' := [(6, .int (x6 + 1)), (7, .ref (ad x6.toNatClampNeg)), (0, .int (a0)), (1, .int (a1)), (2, .int (a2)), (3, .int (a3)), (4, .int (a4)), (5, .int (x5))]) hx hb d_C_shortOf_92 hl (k := 7) rfl rfl (by decide) rfl (fun ls hl => ?_)
          refine lv_goto (tgt := 27) hx hb d_C_shortOf_95 (by decide) ?_
          exact ih x5 (x6 + 1)  _  (lv_sub hl [2, 3, 4, 5, 6, 7, 0] rfl) hf
        · replace hf := (if_pos c_9).symm.trans hf
          refine lv_aload hx hb d_C_shortOf_53 (lv_at hl 0 rfl) ?_
          refine lv_iload_n hx hb d_C_shortOf_55 rfl (lv_at hl 2 rfl) ?_
          refine lv_iload_n hx hb d_C_shortOf_56 rfl (lv_at hl 3 rfl) ?_
          refine lv_iload_n hx hb d_C_shortOf_57 rfl (lv_at hl 4 rfl) ?_
          refine lv_iload hx hb d_C_shortOf_58 (lv_at hl 5 rfl) ?_
          obtain ⟨r_10, g_11, hf⟩ := Option.bind_eq_some_iff.mp hf
          refine ju_calli (W.runV (As := [.int (a1), .int (a2), .int (a3), .int (a4)]) (rest := []) ⟨hx, hb, hml, hown, hts⟩ (c_K_allows l (ad := ad) (sk := sk) (sv := sv) (tK := tK)  x6.toNatClampNeg a1 a2 a3 a4 (ju_lt z_8) r_10 g_11) (cwV 4 hts (aw_V aw_167 aw_122 aw_123 aw_12 aw_124) rfl rfl rfl (by decide +kernel) ⟨Nat.le_of_ble_eq_true rfl, Nat.le_of_ble_eq_true rfl⟩) ⟨fun a U g mk q => ⟨q.1, q.2.call⟩, tb_recvK hT (ju_lt z_8) hS, fun U hU hW => ⟨rfl, hT.at hS hU hW (fun _ z => z.elim)⟩⟩ rfl rfl hl.1 rfl (lv_room (Nat.le_of_ble_eq_true rfl)) d_C_shortOf_60 ⟨Nat.le_refl _, Nat.le_refl _⟩) ?_
          refine lv_if_eq (tgt := 92) hx hb d_C_shortOf_63 (by decide) (fun c_12 => ?_) (fun c_12 => ?_)
          · replace hf := (if_pos c_12).symm.trans hf
            refine lv_iinc (v := x6 + 1) (lv' := [(6, .int (x6 + 1)), (7, .ref (ad x6.toNatClampNeg)), (0, .int (a0)), (1, .int (a1)), (2, .int (a2)), (3, .int (a3)), (4, .int (a4)), (5, .int (x5))]) hx hb d_C_shortOf_92 hl (k := 7) rfl rfl (by decide) rfl (fun ls hl => ?_)
            refine lv_goto (tgt := 27) hx hb d_C_shortOf_95 (by decide) ?_
            exact ih x5 (x6 + 1)  _  (lv_sub hl [2, 3, 4, 5, 6, 7, 0] rfl) hf
          · replace hf := (if_neg c_12).symm.trans hf
            refine lv_aload hx hb d_C_shortOf_66 (lv_at hl 0 rfl) ?_
            refine lv_iload_n hx hb d_C_shortOf_68 rfl (lv_at hl 2 rfl) ?_
            refine lv_iload_n hx hb d_C_shortOf_69 rfl (lv_at hl 3 rfl) ?_
            refine lv_iload_n hx hb d_C_shortOf_70 rfl (lv_at hl 4 rfl) ?_
            refine lv_iload hx hb d_C_shortOf_71 (lv_at hl 5 rfl) ?_
            obtain ⟨r_13, g_14, hf⟩ := Option.bind_eq_some_iff.mp hf
            refine ju_calli (W.runS (As := [.ref (ad x6.toNatClampNeg), .int (a1), .int (a2), .int (a3), .int (a4)]) (rest := []) ⟨hx, hb, hml, hown, hts⟩ (c_C_longOf l (ad := ad) (sk := sk) (sv := sv) (tK := tK)  x6.toNatClampNeg a1 a2 a3 a4 (ju_lt z_8) r_13 g_14) (va_cwS 5 hts (aw_S aw_168 aw_169 aw_1 aw_170) rfl rfl rfl (by decide +kernel) ⟨Nat.le_of_ble_eq_true rfl, Nat.le_of_ble_eq_true rfl⟩) ⟨fun a U g mk q => ⟨q.1, q.2.call⟩, fun U hU hW => ⟨rfl, hT.at hS hU hW (fun _ z => z.elim)⟩⟩ rfl rfl hl.1 rfl (lv_room (Nat.le_of_ble_eq_true rfl)) d_C_shortOf_73 ⟨Nat.le_refl _, Nat.le_refl _⟩) ?_
            refine lv_iload hx hb d_C_shortOf_76 (lv_at hl 6 rfl) ?_
            refine lv_icmp_ne (tgt := 92) hx hb d_C_shortOf_78 (by decide) (fun c_15 => ?_) (fun c_15 => ?_)
            · replace hf := (if_neg c_15).symm.trans hf
              refine lv_iinc (v := x6 + 1) (lv' := [(6, .int (x6 + 1)), (7, .ref (ad x6.toNatClampNeg)), (0, .int (a0)), (1, .int (a1)), (2, .int (a2)), (3, .int (a3)), (4, .int (a4)), (5, .int (x5))]) hx hb d_C_shortOf_92 hl (k := 7) rfl rfl (by decide) rfl (fun ls hl => ?_)
              refine lv_goto (tgt := 27) hx hb d_C_shortOf_95 (by decide) ?_
              exact ih x5 (x6 + 1)  _  (lv_sub hl [2, 3, 4, 5, 6, 7, 0] rfl) hf
            · replace hf := (if_pos c_15).symm.trans hf
              refine lv_aload hx hb d_C_shortOf_81 (lv_at hl 0 rfl) ?_
              refine lv_iload_n hx hb d_C_shortOf_83 rfl (lv_at hl 2 rfl) ?_
              refine lv_iload_n hx hb d_C_shortOf_84 rfl (lv_at hl 3 rfl) ?_
              refine lv_iload_n hx hb d_C_shortOf_85 rfl (lv_at hl 4 rfl) ?_
              refine lv_iload hx hb d_C_shortOf_86 (lv_at hl 5 rfl) ?_
              obtain ⟨r_16, g_17, hf⟩ := Option.bind_eq_some_iff.mp hf
              refine ju_calli (W.runV (As := [.int (a1), .int (a2), .int (a3), .int (a4)]) (rest := []) ⟨hx, hb, hml, hown, hts⟩ (c_K_compose l (ad := ad) (sk := sk) (sv := sv) (tK := tK)  x6.toNatClampNeg a1 a2 a3 a4 (ju_lt z_8) r_16 g_17) (cwV 4 hts (aw_V aw_155 aw_156 aw_157 aw_12 aw_158) rfl rfl rfl (by decide +kernel) ⟨Nat.le_of_ble_eq_true rfl, Nat.le_of_ble_eq_true rfl⟩) ⟨fun a U g mk q => ⟨q.1, q.2.call⟩, tb_recvK hT (ju_lt z_8) hS, fun U hU hW => ⟨rfl, hT.at hS hU hW (fun _ z => z.elim)⟩⟩ rfl rfl hl.1 rfl (lv_room (Nat.le_of_ble_eq_true rfl)) d_C_shortOf_88 ⟨Nat.le_refl _, Nat.le_refl _⟩) ?_
              exact W.iret (v := r_16) hx hb hr (fun t ht hW => ⟨congrArg (fun z => Outcome.returned (some (Value.int z))) (Option.some.inj hf), ht⟩) (fun q h => nomatch h) d_C_shortOf_91
  rw [f_C_shortOf] at hf
  refine lv_iload_n hx hb d_C_shortOf_0 rfl (lv_at hl 0 rfl) ?_
  obtain ⟨r_1, g_2, hf⟩ := Option.bind_eq_some_iff.mp hf
  refine ju_calli (W.runS (As := [.int (a0)]) (rest := []) ⟨hx, hb, hml, hown, hts⟩ (c_C_isKind l (ad := ad) (sk := sk) (sv := sv) (tK := tK)  a0  r_1 g_2) (va_cwS 1 hts (aw_S aw_152 aw_153 aw_1 aw_154) rfl rfl rfl (by decide +kernel) ⟨Nat.le_of_ble_eq_true rfl, Nat.le_of_ble_eq_true rfl⟩) ⟨fun a U g mk q => ⟨q.1, q.2.call⟩, fun U hU hW => ⟨rfl, hT.at hS hU hW (fun _ z => z.elim)⟩⟩ rfl rfl hl.1 rfl (lv_room (Nat.le_of_ble_eq_true rfl)) d_C_shortOf_1 ⟨Nat.le_refl _, Nat.le_refl _⟩) ?_
  refine lv_if_ne (tgt := 9) hx hb d_C_shortOf_4 (by decide) (fun c_3 => ?_) (fun c_3 => ?_)
  · replace hf := (if_neg c_3).symm.trans hf
    refine va_gets (v := .ref (tK)) hx hb hT.1 hS hown (ht aw_38) (fun _ h9 => h9) d_C_shortOf_9 ?_
    refine lv_iload_n hx hb d_C_shortOf_12 rfl (lv_at hl 0 rfl) ?_
    obtain ⟨z_4, hf⟩ := ju_gd hf
    refine vb_tq (v := .ref (ad a0.toNatClampNeg)) hx hb hT.2.1 hS z_4 rfl d_C_shortOf_13 ?_
    refine lv_iload_n hx hb d_C_shortOf_14 rfl (lv_at hl 1 rfl) ?_
    refine lv_iload_n hx hb d_C_shortOf_15 rfl (lv_at hl 2 rfl) ?_
    refine lv_iload_n hx hb d_C_shortOf_16 rfl (lv_at hl 3 rfl) ?_
    refine lv_iload hx hb d_C_shortOf_17 (lv_at hl 4 rfl) ?_
    obtain ⟨r_5, g_6, hf⟩ := Option.bind_eq_some_iff.mp hf
    refine ju_calli (W.runV (As := [.int (a1), .int (a2), .int (a3), .int (a4)]) (rest := []) ⟨hx, hb, hml, hown, hts⟩ (c_K_compose l (ad := ad) (sk := sk) (sv := sv) (tK := tK)  a0.toNatClampNeg a1 a2 a3 a4 (ju_lt z_4) r_5 g_6) (cwV 4 hts (aw_V aw_155 aw_156 aw_157 aw_12 aw_158) rfl rfl rfl (by decide +kernel) ⟨Nat.le_of_ble_eq_true rfl, Nat.le_of_ble_eq_true rfl⟩) ⟨fun a U g mk q => ⟨q.1, q.2.call⟩, tb_recvK hT (ju_lt z_4) hS, fun U hU hW => ⟨rfl, hT.at hS hU hW (fun _ z => z.elim)⟩⟩ rfl rfl hl.1 rfl (lv_room (Nat.le_of_ble_eq_true rfl)) d_C_shortOf_19 ⟨Nat.le_refl _, Nat.le_refl _⟩) ?_
    refine lv_istore (lv' := [(5, .int (r_5)), (0, .int (a0)), (1, .int (a1)), (2, .int (a2)), (3, .int (a3)), (4, .int (a4))]) hx hb d_C_shortOf_22 hl (by decide) rfl (fun ls hl => ?_)
    refine lv_iconst (v := 0) hx hb d_C_shortOf_24 (by decide) ?_
    refine lv_istore (lv' := [(6, .int (0)), (5, .int (r_5)), (0, .int (a0)), (1, .int (a1)), (2, .int (a2)), (3, .int (a3)), (4, .int (a4))]) hx hb d_C_shortOf_25 hl (by decide) rfl (fun ls hl => ?_)
    exact J27 80 r_5 0  _  (lv_sub hl [2, 3, 4, 5, 6, 1, 0] rfl) hf
  · replace hf := (if_pos c_3).symm.trans hf
    refine lv_iconst (v := (-1)) hx hb d_C_shortOf_7 (by decide) ?_
    exact W.iret (v := (-1)) hx hb hr (fun t ht hW => ⟨congrArg (fun z => Outcome.returned (some (Value.int z))) (Option.some.inj hf), ht⟩) (fun q h => nomatch h) d_C_shortOf_8

def f_C_spells_L25 (a0 : Nat) (a1 : Int64) (a2 : Int64) (k6 : Int32 → Int32 → Option (Bool)) (x5 : Int32) (x6 : Int32) (t0 : Int64) : Option (Bool) :=
  if (((ju_lushr t0 (8 * (7 - (x6 - x6 / 8 * 8)))).toInt32) &&& 255) = 0 then (k6 x5 (x6 + 1)) else ((f_S_length a0).bind fun r_7 => if r_7 ≤ x5 then (some false) else ((f_S_charAt a0 x5).bind fun r_10 => if r_10 = (((ju_lushr t0 (8 * (7 - (x6 - x6 / 8 * 8)))).toInt32) &&& 255) then (k6 (x5 + 1) (x6 + 1)) else (some false)))
def f_C_spells_L6 (a0 : Nat) (a1 : Int64) (a2 : Int64)  : Nat → Int32 → Int32 → Option (Bool)
  | 0, _, _ => none
  | n + 1, x5, x6 =>
    if 16 ≤ x6 then ((f_S_length a0).bind fun r_2 => if x5 = r_2 then (some true) else (some false)) else (if 8 ≤ x6 then (f_C_spells_L25 a0 a1 a2 (fun y0 y1 => f_C_spells_L6 a0 a1 a2  n y0 y1) x5 x6 a2) else (f_C_spells_L25 a0 a1 a2 (fun y0 y1 => f_C_spells_L6 a0 a1 a2  n y0 y1) x5 x6 a1))
def f_C_spells (a0 : Nat) (a1 : Int64) (a2 : Int64) : Option Bool :=
  f_C_spells_L6 a0 a1 a2  40 0 0
set_option maxHeartbeats 4000000 in
set_option maxRecDepth 100000 in
theorem c_C_spells (l : Launch) {ad sk sv : Nat → Nat} {tK : Nat} (a0 : Nat) (a1 : Int64) (a2 : Int64) (ha0 : a0 < 180) (r : Bool) (hf : f_C_spells a0 a1 a2 = some r) : Met l y_C_spells (Cond.code y_C_spells b_C_spells 10 (Option.some FieldType.boolean) :: aw) ({ frames := 4, cells := 0, slots := 0, locals := 85 } : Room) (va_Pc [.ref (sk a0), .long (a1), .long (a2)] (fun U => tb ad sk sv tK (fun _ => False) U U.heap)) (QcRead (bI r)) 0 0 (fun _ => False) := by
  refine Met.ofW (cc := b_C_spells) (maxL := 10) (ret := (Option.some FieldType.boolean)) (by decide) rfl ?_
  intro p e s m args below meth c s₁ B hml hv
  obtain ⟨rfl, hT⟩ := hv
  have hx := B.exec
  have hb := B.bytes
  have hr := B.returns
  have hts := atoms_spec (ws := (Cond.code y_C_spells b_C_spells 10 (Option.some FieldType.boolean) :: aw)) B.pre
  have ht : ∀ {w : Cond}, w ∈ aw → w.before ([.ref (sk a0), .long (a1), .long (a2)] : List Value).toArray s = true := fun h => hts _ (List.mem_cons_of_mem _ h)
  have hown : s.vm.findClass "CodeWords" = some m.cls := findClass_of_methodNamed B.named
  have hlocks := B.notSynchronized
  have hS : va_S (fun _ => False) s.heap s.heap [] := va_S.rf
  have hl := lv_entry ([.ref (sk a0), .long (a1), .long (a2)]) (n := 10) (Nat.le_of_ble_eq_true rfl)
  rw [lg_entry_eq]
  generalize (lg_sl ([.ref (sk a0), .long (a1), .long (a2)]) ++ List.replicate (10 - (lg_sl ([.ref (sk a0), .long (a1), .long (a2)])).length) Slot.unset).toArray = ls at hl ⊢
  have hl : lv_has ls 10 [(0, .ref (sk a0)), (1, .long (a1)), (3, .long (a2))] := hl
  have J6 : ∀ (n : Nat) (x5 : Int32) (x6 : Int32) (ls : Array Slot), lv_has ls 10 [(0, .ref (sk a0)), (1, .long (a1)), (3, .long (a2)), (5, .int (x5)), (6, .int (x6))] → f_C_spells_L6 a0 a1 a2  n x5 x6 = some r → pW p l e (headSpec (Cond.code y_C_spells b_C_spells 10 (Option.some FieldType.boolean) :: aw) ({ frames := 4, cells := 0, slots := 0, locals := 85 } : Room)).room s m ([.ref (sk a0), .long (a1), .long (a2)] : List Value).toArray below meth c (bI r) (F0 m 6 ls []) := by
    intro n
    induction n with
    | zero =>
      intro x5 x6  ls  hl hf
      rw [f_C_spells_L6] at hf
      cases hf
    | succ n ih =>
      intro x5 x6  ls  hl hf
      rw [f_C_spells_L6] at hf
      have J25 : ∀ (x5 : Int32) (x6 : Int32) (t0 : Int64) (ls : Array Slot), lv_has ls 10 [(0, .ref (sk a0)), (1, .long (a1)), (3, .long (a2)), (5, .int (x5)), (6, .int (x6))] → f_C_spells_L25 a0 a1 a2 (fun y0 y1 => f_C_spells_L6 a0 a1 a2  n y0 y1) x5 x6 t0 = some r → pW p l e (headSpec (Cond.code y_C_spells b_C_spells 10 (Option.some FieldType.boolean) :: aw) ({ frames := 4, cells := 0, slots := 0, locals := 85 } : Room)).room s m ([.ref (sk a0), .long (a1), .long (a2)] : List Value).toArray below meth c (bI r) (F0 m 25 ls [.long (t0)]) := by
        intro x5 x6 t0  ls  hl hf
        rw [f_C_spells_L25] at hf
        refine lv_lstore (lv' := [(7, .long (t0)), (0, .ref (sk a0)), (1, .long (a1)), (3, .long (a2)), (5, .int (x5)), (6, .int (x6))]) hx hb d_C_spells_25 hl (by decide) rfl (fun ls hl => ?_)
        refine lv_lload hx hb d_C_spells_27 (lv_at hl 0 rfl) ?_
        refine lv_bipush (v := 8) hx hb d_C_spells_29 (by decide) ?_
        refine lv_bipush (v := 7) hx hb d_C_spells_31 (by decide) ?_
        refine lv_iload hx hb d_C_spells_33 (lv_at hl 5 rfl) ?_
        refine lv_bipush (v := 8) hx hb d_C_spells_35 (by decide) ?_
        refine lv_irem hx hb d_C_spells_37 (by decide) ?_
        refine lv_isub hx hb d_C_spells_38 ?_
        refine lv_imul hx hb d_C_spells_39 ?_
        refine lv_lushr (v := ju_lushr t0 (8 * (7 - (x6 - x6 / 8 * 8)))) hx hb d_C_spells_40 rfl ?_
        refine lv_l2i (v := (ju_lushr t0 (8 * (7 - (x6 - x6 / 8 * 8)))).toInt32) hx hb d_C_spells_41 rfl ?_
        refine lv_sipush (v := 255) hx hb d_C_spells_42 (by decide) ?_
        refine lv_iand hx hb d_C_spells_45 ?_
        refine lv_istore (lv' := [(9, .int (((ju_lushr t0 (8 * (7 - (x6 - x6 / 8 * 8)))).toInt32) &&& 255)), (7, .long (t0)), (0, .ref (sk a0)), (1, .long (a1)), (3, .long (a2)), (5, .int (x5)), (6, .int (x6))]) hx hb d_C_spells_46 hl (by decide) rfl (fun ls hl => ?_)
        refine lv_iload hx hb d_C_spells_48 (lv_at hl 0 rfl) ?_
        refine lv_if_eq (tgt := 78) hx hb d_C_spells_50 (by decide) (fun c_6 => ?_) (fun c_6 => ?_)
        · replace hf := (if_pos c_6).symm.trans hf
          refine lv_iinc (v := x6 + 1) (lv' := [(6, .int (x6 + 1)), (9, .int (((ju_lushr t0 (8 * (7 - (x6 - x6 / 8 * 8)))).toInt32) &&& 255)), (7, .long (t0)), (0, .ref (sk a0)), (1, .long (a1)), (3, .long (a2)), (5, .int (x5))]) hx hb d_C_spells_78 hl (k := 6) rfl rfl (by decide) rfl (fun ls hl => ?_)
          refine lv_goto (tgt := 6) hx hb d_C_spells_81 (by decide) ?_
          exact ih x5 (x6 + 1)  _  (lv_sub hl [3, 4, 5, 6, 0] rfl) hf
        · replace hf := (if_neg c_6).symm.trans hf
          refine lv_iload hx hb d_C_spells_53 (lv_at hl 5 rfl) ?_
          refine lv_aload_n hx hb d_C_spells_55 rfl (lv_at hl 2 rfl) ?_
          obtain ⟨r_7, g_8, hf⟩ := Option.bind_eq_some_iff.mp hf
          refine ju_calli (W.runV (As := []) (rest := [.int (x5)]) ⟨hx, hb, hml, hown, hts⟩ (c_S_length l (ad := ad) (sk := sk) (sv := sv) (tK := tK)  a0 ha0 r_7 g_8) (cwV 0 hts (aw_V aw_174 aw_62 aw_63 aw_7 aw_64) rfl rfl rfl (by decide +kernel) ⟨Nat.le_of_ble_eq_true rfl, Nat.le_of_ble_eq_true rfl⟩) ⟨fun a U g mk q => ⟨q.1, q.2.call⟩, tb_recvS hT ha0 hS, fun U hU hW => ⟨rfl, hT.at hS hU hW (fun _ z => z.elim)⟩⟩ rfl rfl hl.1 rfl (lv_room (Nat.le_of_ble_eq_true rfl)) d_C_spells_56 ⟨Nat.le_refl _, Nat.le_refl _⟩) ?_
          refine lv_icmp_ge (tgt := 73) hx hb d_C_spells_59 (by decide) (fun c_9 => ?_) (fun c_9 => ?_)
          · replace hf := (if_pos c_9).symm.trans hf
            refine lv_iconst (v := 0) hx hb d_C_spells_73 (by decide) ?_
            exact W.zret (v := 0) hx hb hr (ju_nz false) (fun t ht hW => ⟨congrArg (fun z => Outcome.returned (some (Value.int (bI z)))) (Option.some.inj hf), ht⟩) (fun q h => nomatch h) d_C_spells_74
          · replace hf := (if_neg c_9).symm.trans hf
            refine lv_aload_n hx hb d_C_spells_62 rfl (lv_at hl 2 rfl) ?_
            refine lv_iload hx hb d_C_spells_63 (lv_at hl 5 rfl) ?_
            obtain ⟨r_10, g_11, hf⟩ := Option.bind_eq_some_iff.mp hf
            refine ju_calli (W.runV (As := [.int (x5)]) (rest := []) ⟨hx, hb, hml, hown, hts⟩ (c_S_charAt l (ad := ad) (sk := sk) (sv := sv) (tK := tK)  a0 x5 ha0 r_10 g_11) (cwV 1 hts (aw_V aw_175 aw_72 aw_73 aw_7 aw_74) rfl rfl rfl (by decide +kernel) ⟨Nat.le_of_ble_eq_true rfl, Nat.le_of_ble_eq_true rfl⟩) ⟨fun a U g mk q => ⟨q.1, q.2.call⟩, tb_recvS hT ha0 hS, fun U hU hW => ⟨rfl, hT.at hS hU hW (fun _ z => z.elim)⟩⟩ rfl rfl hl.1 rfl (lv_room (Nat.le_of_ble_eq_true rfl)) d_C_spells_65 ⟨Nat.le_refl _, Nat.le_refl _⟩) ?_
            refine lv_iload hx hb d_C_spells_68 (lv_at hl 0 rfl) ?_
            refine lv_icmp_eq (tgt := 75) hx hb d_C_spells_70 (by decide) (fun c_12 => ?_) (fun c_12 => ?_)
            · replace hf := (if_pos c_12).symm.trans hf
              refine lv_iinc (v := x5 + 1) (lv' := [(5, .int (x5 + 1)), (9, .int (((ju_lushr t0 (8 * (7 - (x6 - x6 / 8 * 8)))).toInt32) &&& 255)), (7, .long (t0)), (0, .ref (sk a0)), (1, .long (a1)), (3, .long (a2)), (6, .int (x6))]) hx hb d_C_spells_75 hl (k := 5) rfl rfl (by decide) rfl (fun ls hl => ?_)
              refine lv_iinc (v := x6 + 1) (lv' := [(6, .int (x6 + 1)), (5, .int (x5 + 1)), (9, .int (((ju_lushr t0 (8 * (7 - (x6 - x6 / 8 * 8)))).toInt32) &&& 255)), (7, .long (t0)), (0, .ref (sk a0)), (1, .long (a1)), (3, .long (a2))]) hx hb d_C_spells_78 hl (k := 6) rfl rfl (by decide) rfl (fun ls hl => ?_)
              refine lv_goto (tgt := 6) hx hb d_C_spells_81 (by decide) ?_
              exact ih (x5 + 1) (x6 + 1)  _  (lv_sub hl [4, 5, 6, 1, 0] rfl) hf
            · replace hf := (if_neg c_12).symm.trans hf
              refine lv_iconst (v := 0) hx hb d_C_spells_73 (by decide) ?_
              exact W.zret (v := 0) hx hb hr (ju_nz false) (fun t ht hW => ⟨congrArg (fun z => Outcome.returned (some (Value.int (bI z)))) (Option.some.inj hf), ht⟩) (fun q h => nomatch h) d_C_spells_74
      refine lv_iload hx hb d_C_spells_6 (lv_at hl 4 rfl) ?_
      refine lv_bipush (v := 16) hx hb d_C_spells_8 (by decide) ?_
      refine lv_icmp_ge (tgt := 84) hx hb d_C_spells_10 (by decide) (fun c_1 => ?_) (fun c_1 => ?_)
      · replace hf := (if_pos c_1).symm.trans hf
        refine lv_iload hx hb d_C_spells_84 (lv_at hl 3 rfl) ?_
        refine lv_aload_n hx hb d_C_spells_86 rfl (lv_at hl 0 rfl) ?_
        obtain ⟨r_2, g_3, hf⟩ := Option.bind_eq_some_iff.mp hf
        refine ju_calli (W.runV (As := []) (rest := [.int (x5)]) ⟨hx, hb, hml, hown, hts⟩ (c_S_length l (ad := ad) (sk := sk) (sv := sv) (tK := tK)  a0 ha0 r_2 g_3) (cwV 0 hts (aw_V aw_174 aw_62 aw_63 aw_7 aw_64) rfl rfl rfl (by decide +kernel) ⟨Nat.le_of_ble_eq_true rfl, Nat.le_of_ble_eq_true rfl⟩) ⟨fun a U g mk q => ⟨q.1, q.2.call⟩, tb_recvS hT ha0 hS, fun U hU hW => ⟨rfl, hT.at hS hU hW (fun _ z => z.elim)⟩⟩ rfl rfl hl.1 rfl (lv_room (Nat.le_of_ble_eq_true rfl)) d_C_spells_87 ⟨Nat.le_refl _, Nat.le_refl _⟩) ?_
        refine lv_icmp_ne (tgt := 97) hx hb d_C_spells_90 (by decide) (fun c_4 => ?_) (fun c_4 => ?_)
        · replace hf := (if_neg c_4).symm.trans hf
          refine lv_iconst (v := 0) hx hb d_C_spells_97 (by decide) ?_
          exact W.zret (v := 0) hx hb hr (ju_nz false) (fun t ht hW => ⟨congrArg (fun z => Outcome.returned (some (Value.int (bI z)))) (Option.some.inj hf), ht⟩) (fun q h => nomatch h) d_C_spells_98
        · replace hf := (if_pos c_4).symm.trans hf
          refine lv_iconst (v := 1) hx hb d_C_spells_93 (by decide) ?_
          refine lv_goto (tgt := 98) hx hb d_C_spells_94 (by decide) ?_
          exact W.zret (v := 1) hx hb hr (ju_nz true) (fun t ht hW => ⟨congrArg (fun z => Outcome.returned (some (Value.int (bI z)))) (Option.some.inj hf), ht⟩) (fun q h => nomatch h) d_C_spells_98
      · replace hf := (if_neg c_1).symm.trans hf
        refine lv_iload hx hb d_C_spells_13 (lv_at hl 4 rfl) ?_
        refine lv_bipush (v := 8) hx hb d_C_spells_15 (by decide) ?_
        refine lv_icmp_ge (tgt := 24) hx hb d_C_spells_17 (by decide) (fun c_5 => ?_) (fun c_5 => ?_)
        · replace hf := (if_pos c_5).symm.trans hf
          refine lv_lload_n hx hb d_C_spells_24 rfl (lv_at hl 2 rfl) ?_
          exact J25 x5 x6 a2  _  (lv_sub hl [0, 1, 2, 3, 4] rfl) hf
        · replace hf := (if_neg c_5).symm.trans hf
          refine lv_lload_n hx hb d_C_spells_20 rfl (lv_at hl 1 rfl) ?_
          refine lv_goto (tgt := 25) hx hb d_C_spells_21 (by decide) ?_
          exact J25 x5 x6 a1  _  (lv_sub hl [0, 1, 2, 3, 4] rfl) hf
  rw [f_C_spells] at hf
  refine lv_iconst (v := 0) hx hb d_C_spells_0 (by decide) ?_
  refine lv_istore (lv' := [(5, .int (0)), (0, .ref (sk a0)), (1, .long (a1)), (3, .long (a2))]) hx hb d_C_spells_1 hl (by decide) rfl (fun ls hl => ?_)
  refine lv_iconst (v := 0) hx hb d_C_spells_3 (by decide) ?_
  refine lv_istore (lv' := [(6, .int (0)), (5, .int (0)), (0, .ref (sk a0)), (1, .long (a1)), (3, .long (a2))]) hx hb d_C_spells_4 hl (by decide) rfl (fun ls hl => ?_)
  exact J6 40 0 0  _  (lv_sub hl [2, 3, 4, 1, 0] rfl) hf

def f_C_operandAt (a0 : Int32) : Option Int32 :=
  if a0 < 0 then (some (32)) else ((f_S_length 3).bind fun r_2 => if r_2 ≤ a0 then (some (32)) else ((f_S_charAt 3 a0).bind fun r_5 => some (r_5)))
set_option maxHeartbeats 4000000 in
set_option maxRecDepth 100000 in
theorem c_C_operandAt (l : Launch) {ad sk sv : Nat → Nat} {tK : Nat} (a0 : Int32)  (r : Int32) (hf : f_C_operandAt a0 = some r) : Met l y_C_operandAt (Cond.code y_C_operandAt b_C_operandAt 1 (Option.some FieldType.char) :: aw) ({ frames := 4, cells := 0, slots := 0, locals := 85 } : Room) (va_Pc [.int (a0)] (fun U => tb ad sk sv tK (fun _ => False) U U.heap)) (QcRead r) 0 0 (fun _ => False) := by
  refine Met.ofW (cc := b_C_operandAt) (maxL := 1) (ret := (Option.some FieldType.char)) (by decide) rfl ?_
  intro p e s m args below meth c s₁ B hml hv
  obtain ⟨rfl, hT⟩ := hv
  have hx := B.exec
  have hb := B.bytes
  have hr := B.returns
  have hts := atoms_spec (ws := (Cond.code y_C_operandAt b_C_operandAt 1 (Option.some FieldType.char) :: aw)) B.pre
  have ht : ∀ {w : Cond}, w ∈ aw → w.before ([.int (a0)] : List Value).toArray s = true := fun h => hts _ (List.mem_cons_of_mem _ h)
  have hown : s.vm.findClass "CodeWords" = some m.cls := findClass_of_methodNamed B.named
  have hlocks := B.notSynchronized
  have hS : va_S (fun _ => False) s.heap s.heap [] := va_S.rf
  have hl := lv_entry ([.int (a0)]) (n := 1) (Nat.le_of_ble_eq_true rfl)
  rw [lg_entry_eq]
  generalize (lg_sl ([.int (a0)]) ++ List.replicate (1 - (lg_sl ([.int (a0)])).length) Slot.unset).toArray = ls at hl ⊢
  have hl : lv_has ls 1 [(0, .int (a0))] := hl
  rw [f_C_operandAt] at hf
  refine lv_iload_n hx hb d_C_operandAt_0 rfl (lv_at hl 0 rfl) ?_
  refine lv_if_lt (tgt := 22) hx hb d_C_operandAt_1 (by decide) (fun c_1 => ?_) (fun c_1 => ?_)
  · replace hf := (if_pos c_1).symm.trans hf
    refine lv_bipush (v := 32) hx hb d_C_operandAt_22 (by decide) ?_
    exact W.zret (v := 32) hx hb hr (by first | rfl | exact s_nar ‹_›) (fun t ht hW => ⟨congrArg (fun z => Outcome.returned (some (Value.int z))) (Option.some.inj hf), ht⟩) (fun q h => nomatch h) d_C_operandAt_24
  · replace hf := (if_neg c_1).symm.trans hf
    refine lv_iload_n hx hb d_C_operandAt_4 rfl (lv_at hl 0 rfl) ?_
    refine va_ldcS hx hb hown (tb_r160 hT) d_C_operandAt_5 ?_
    obtain ⟨r_2, g_3, hf⟩ := Option.bind_eq_some_iff.mp hf
    refine ju_calli (W.runV (As := []) (rest := [.int (a0)]) ⟨hx, hb, hml, hown, hts⟩ (c_S_length l (ad := ad) (sk := sk) (sv := sv) (tK := tK)  3 (by decide) r_2 g_3) (cwV 0 hts (aw_V aw_174 aw_62 aw_63 aw_7 aw_64) rfl rfl rfl (by decide +kernel) ⟨Nat.le_of_ble_eq_true rfl, Nat.le_of_ble_eq_true rfl⟩) ⟨fun a U g mk q => ⟨q.1, q.2.call⟩, tb_recvS hT (by decide) hS, fun U hU hW => ⟨rfl, hT.at hS hU hW (fun _ z => z.elim)⟩⟩ rfl rfl hl.1 rfl (lv_room (Nat.le_of_ble_eq_true rfl)) d_C_operandAt_7 ⟨Nat.le_refl _, Nat.le_refl _⟩) ?_
    refine lv_icmp_ge (tgt := 22) hx hb d_C_operandAt_10 (by decide) (fun c_4 => ?_) (fun c_4 => ?_)
    · replace hf := (if_pos c_4).symm.trans hf
      refine lv_bipush (v := 32) hx hb d_C_operandAt_22 (by decide) ?_
      exact W.zret (v := 32) hx hb hr (by first | rfl | exact s_nar ‹_›) (fun t ht hW => ⟨congrArg (fun z => Outcome.returned (some (Value.int z))) (Option.some.inj hf), ht⟩) (fun q h => nomatch h) d_C_operandAt_24
    · replace hf := (if_neg c_4).symm.trans hf
      refine va_ldcS hx hb hown (tb_r160 hT) d_C_operandAt_13 ?_
      refine lv_iload_n hx hb d_C_operandAt_15 rfl (lv_at hl 0 rfl) ?_
      obtain ⟨r_5, g_6, hf⟩ := Option.bind_eq_some_iff.mp hf
      refine ju_calli (W.runV (As := [.int (a0)]) (rest := []) ⟨hx, hb, hml, hown, hts⟩ (c_S_charAt l (ad := ad) (sk := sk) (sv := sv) (tK := tK)  3 a0 (by decide) r_5 g_6) (cwV 1 hts (aw_V aw_175 aw_72 aw_73 aw_7 aw_74) rfl rfl rfl (by decide +kernel) ⟨Nat.le_of_ble_eq_true rfl, Nat.le_of_ble_eq_true rfl⟩) ⟨fun a U g mk q => ⟨q.1, q.2.call⟩, tb_recvS hT (by decide) hS, fun U hU hW => ⟨rfl, hT.at hS hU hW (fun _ z => z.elim)⟩⟩ rfl rfl hl.1 rfl (lv_room (Nat.le_of_ble_eq_true rfl)) d_C_operandAt_16 ⟨Nat.le_refl _, Nat.le_refl _⟩) ?_
      refine lv_goto (tgt := 24) hx hb d_C_operandAt_19 (by decide) ?_
      exact W.zret (v := r_5) hx hb hr (by first | rfl | exact s_nar ‹_›) (fun t ht hW => ⟨congrArg (fun z => Outcome.returned (some (Value.int z))) (Option.some.inj hf), ht⟩) (fun q h => nomatch h) d_C_operandAt_24

def f_C_kind (a0 : Int32) : Option Int32 :=
  (f_C_numberOf a0).bind fun r_1 => some (r_1)
set_option maxHeartbeats 4000000 in
set_option maxRecDepth 100000 in
theorem c_C_kind (l : Launch) {ad sk sv : Nat → Nat} {tK : Nat} (h0 : Nat) (a0 : Int32)  (r : Int32) (hf : f_C_kind a0 = some r) : Met l y_C_kind (Cond.code y_C_kind b_C_kind 2 (Option.some FieldType.int) :: aw) ({ frames := 9, cells := 0, slots := 0, locals := 195 } : Room) (va_Pc [.ref (h0), .int (a0)] (fun U => tb ad sk sv tK (fun _ => False) U U.heap)) (QcRead r) 0 0 (fun _ => False) := by
  refine Met.ofW (cc := b_C_kind) (maxL := 2) (ret := (Option.some FieldType.int)) (by decide) rfl ?_
  intro p e s m args below meth c s₁ B hml hv
  obtain ⟨rfl, hT⟩ := hv
  have hx := B.exec
  have hb := B.bytes
  have hr := B.returns
  have hts := atoms_spec (ws := (Cond.code y_C_kind b_C_kind 2 (Option.some FieldType.int) :: aw)) B.pre
  have ht : ∀ {w : Cond}, w ∈ aw → w.before ([.ref (h0), .int (a0)] : List Value).toArray s = true := fun h => hts _ (List.mem_cons_of_mem _ h)
  have hown : s.vm.findClass "CodeWords" = some m.cls := findClass_of_methodNamed B.named
  have hlocks := B.notSynchronized
  have hS : va_S (fun _ => False) s.heap s.heap [] := va_S.rf
  have hl := lv_entry ([.ref (h0), .int (a0)]) (n := 2) (Nat.le_of_ble_eq_true rfl)
  rw [lg_entry_eq]
  generalize (lg_sl ([.ref (h0), .int (a0)]) ++ List.replicate (2 - (lg_sl ([.ref (h0), .int (a0)])).length) Slot.unset).toArray = ls at hl ⊢
  have hl : lv_has ls 2 [(0, .ref (h0)), (1, .int (a0))] := hl
  rw [f_C_kind] at hf
  refine lv_iload_n hx hb d_C_kind_0 rfl (lv_at hl 1 rfl) ?_
  obtain ⟨r_1, g_2, hf⟩ := Option.bind_eq_some_iff.mp hf
  refine ju_calli (W.runS (As := [.int (a0)]) (rest := []) ⟨hx, hb, hml, hown, hts⟩ (c_C_numberOf l (ad := ad) (sk := sk) (sv := sv) (tK := tK)  a0  r_1 g_2) (va_cwS 1 hts (aw_S aw_35 aw_36 aw_1 aw_37) rfl rfl rfl (by decide +kernel) ⟨Nat.le_of_ble_eq_true rfl, Nat.le_of_ble_eq_true rfl⟩) ⟨fun a U g mk q => ⟨q.1, q.2.call⟩, fun U hU hW => ⟨rfl, hT.at hS hU hW (fun _ z => z.elim)⟩⟩ rfl rfl hl.1 rfl (lv_room (Nat.le_of_ble_eq_true rfl)) d_C_kind_1 ⟨Nat.le_refl _, Nat.le_refl _⟩) ?_
  exact W.iret (v := r_1) hx hb hr (fun t ht hW => ⟨congrArg (fun z => Outcome.returned (some (Value.int z))) (Option.some.inj hf), ht⟩) (fun q h => nomatch h) d_C_kind_4

def f_C_size (a0 : Int32) : Option Int32 :=
  (f_C_isLong a0).bind fun r_1 => if (bI r_1) = 0 then (some (2)) else (some (4))
set_option maxHeartbeats 4000000 in
set_option maxRecDepth 100000 in
theorem c_C_size (l : Launch) {ad sk sv : Nat → Nat} {tK : Nat} (h0 : Nat) (a0 : Int32)  (r : Int32) (hf : f_C_size a0 = some r) : Met l y_C_size (Cond.code y_C_size b_C_size 2 (Option.some FieldType.int) :: aw) ({ frames := 1, cells := 0, slots := 0, locals := 20 } : Room) (va_Pc [.ref (h0), .int (a0)] (fun U => tb ad sk sv tK (fun _ => False) U U.heap)) (QcRead r) 0 0 (fun _ => False) := by
  refine Met.ofW (cc := b_C_size) (maxL := 2) (ret := (Option.some FieldType.int)) (by decide) rfl ?_
  intro p e s m args below meth c s₁ B hml hv
  obtain ⟨rfl, hT⟩ := hv
  have hx := B.exec
  have hb := B.bytes
  have hr := B.returns
  have hts := atoms_spec (ws := (Cond.code y_C_size b_C_size 2 (Option.some FieldType.int) :: aw)) B.pre
  have ht : ∀ {w : Cond}, w ∈ aw → w.before ([.ref (h0), .int (a0)] : List Value).toArray s = true := fun h => hts _ (List.mem_cons_of_mem _ h)
  have hown : s.vm.findClass "CodeWords" = some m.cls := findClass_of_methodNamed B.named
  have hlocks := B.notSynchronized
  have hS : va_S (fun _ => False) s.heap s.heap [] := va_S.rf
  have hl := lv_entry ([.ref (h0), .int (a0)]) (n := 2) (Nat.le_of_ble_eq_true rfl)
  rw [lg_entry_eq]
  generalize (lg_sl ([.ref (h0), .int (a0)]) ++ List.replicate (2 - (lg_sl ([.ref (h0), .int (a0)])).length) Slot.unset).toArray = ls at hl ⊢
  have hl : lv_has ls 2 [(0, .ref (h0)), (1, .int (a0))] := hl
  rw [f_C_size] at hf
  refine lv_iload_n hx hb d_C_size_0 rfl (lv_at hl 1 rfl) ?_
  obtain ⟨r_1, g_2, hf⟩ := Option.bind_eq_some_iff.mp hf
  refine ju_calli (W.runS (As := [.int (a0)]) (rest := []) ⟨hx, hb, hml, hown, hts⟩ (c_C_isLong l (ad := ad) (sk := sk) (sv := sv) (tK := tK)  a0  r_1 g_2) (va_cwS 1 hts (aw_S aw_140 aw_141 aw_1 aw_142) rfl rfl rfl (by decide +kernel) ⟨Nat.le_of_ble_eq_true rfl, Nat.le_of_ble_eq_true rfl⟩) ⟨fun a U g mk q => ⟨q.1, q.2.call⟩, fun U hU hW => ⟨rfl, hT.at hS hU hW (fun _ z => z.elim)⟩⟩ rfl rfl hl.1 rfl (lv_room (Nat.le_of_ble_eq_true rfl)) d_C_size_1 ⟨Nat.le_refl _, Nat.le_refl _⟩) ?_
  refine lv_if_eq (tgt := 11) hx hb d_C_size_4 (by decide) (fun c_3 => ?_) (fun c_3 => ?_)
  · replace hf := (if_pos c_3).symm.trans hf
    refine lv_iconst (v := 2) hx hb d_C_size_11 (by decide) ?_
    exact W.iret (v := 2) hx hb hr (fun t ht hW => ⟨congrArg (fun z => Outcome.returned (some (Value.int z))) (Option.some.inj hf), ht⟩) (fun q h => nomatch h) d_C_size_12
  · replace hf := (if_neg c_3).symm.trans hf
    refine lv_iconst (v := 4) hx hb d_C_size_7 (by decide) ?_
    refine lv_goto (tgt := 12) hx hb d_C_size_8 (by decide) ?_
    exact W.iret (v := 4) hx hb hr (fun t ht hW => ⟨congrArg (fun z => Outcome.returned (some (Value.int z))) (Option.some.inj hf), ht⟩) (fun q h => nomatch h) d_C_size_12

def f_C_shorter_L104 (a0 : Int32)  (x2 : Int32) (x3 : Nat) (x4 : Int32) (x5 : Int32) (x6 : Int32) (x7 : Int32) (x8 : Int32) : Option (Int32) :=
  if x8 = ((-1)) then (if x2 = 18 then (if x7 = 0 then (if x4 = 0 then (some (x8)) else (if x5 = 0 then (some (x8)) else ((f_C_shortOf 27 x4 0 x5 0).bind fun r_24 => some (r_24)))) else (some (x8))) else (some (x8))) else (some (x8))
def f_C_shorter (a0 : Int32) : Option Int32 :=
  (f_C_numberOf a0).bind fun r_1 => if r_1 = ((-1)) then (some ((-1))) else ((f_C_isLong a0).bind fun r_4 => if (bI r_4) = 0 then (some ((-1))) else (if r_1 < 0 ∨ 75 ≤ r_1.toNatClampNeg then none else (f_K_register r_1.toNatClampNeg a0 1).bind fun r_8 => (f_K_register r_1.toNatClampNeg a0 2).bind fun r_10 => (f_K_register r_1.toNatClampNeg a0 4).bind fun r_12 => (f_K_immediate r_1.toNatClampNeg a0).bind fun r_14 => (f_C_shortOf r_1 r_8 r_10 r_12 r_14).bind fun r_16 => if r_16 = ((-1)) then ((f_C_exchanges r_1).bind fun r_26 => if (bI r_26) = 0 then (f_C_shorter_L104 a0  r_1 r_1.toNatClampNeg r_8 r_10 r_12 r_14 r_16) else (if r_8 = r_12 then ((f_C_shortOf r_1 r_8 r_12 r_10 r_14).bind fun r_30 => f_C_shorter_L104 a0  r_1 r_1.toNatClampNeg r_8 r_10 r_12 r_14 r_30) else (f_C_shorter_L104 a0  r_1 r_1.toNatClampNeg r_8 r_10 r_12 r_14 r_16))) else (f_C_shorter_L104 a0  r_1 r_1.toNatClampNeg r_8 r_10 r_12 r_14 r_16)))
set_option maxHeartbeats 4000000 in
set_option maxRecDepth 100000 in
theorem c_C_shorter (l : Launch) {ad sk sv : Nat → Nat} {tK : Nat} (h0 : Nat) (a0 : Int32)  (r : Int32) (hf : f_C_shorter a0 = some r) : Met l y_C_shorter (Cond.code y_C_shorter b_C_shorter 9 (Option.some FieldType.int) :: aw) ({ frames := 9, cells := 0, slots := 0, locals := 207 } : Room) (va_Pc [.ref (h0), .int (a0)] (fun U => tb ad sk sv tK (fun _ => False) U U.heap)) (QcRead r) 0 0 (fun _ => False) := by
  refine Met.ofW (cc := b_C_shorter) (maxL := 9) (ret := (Option.some FieldType.int)) (by decide) rfl ?_
  intro p e s m args below meth c s₁ B hml hv
  obtain ⟨rfl, hT⟩ := hv
  have hx := B.exec
  have hb := B.bytes
  have hr := B.returns
  have hts := atoms_spec (ws := (Cond.code y_C_shorter b_C_shorter 9 (Option.some FieldType.int) :: aw)) B.pre
  have ht : ∀ {w : Cond}, w ∈ aw → w.before ([.ref (h0), .int (a0)] : List Value).toArray s = true := fun h => hts _ (List.mem_cons_of_mem _ h)
  have hown : s.vm.findClass "CodeWords" = some m.cls := findClass_of_methodNamed B.named
  have hlocks := B.notSynchronized
  have hS : va_S (fun _ => False) s.heap s.heap [] := va_S.rf
  have hl := lv_entry ([.ref (h0), .int (a0)]) (n := 9) (Nat.le_of_ble_eq_true rfl)
  rw [lg_entry_eq]
  generalize (lg_sl ([.ref (h0), .int (a0)]) ++ List.replicate (9 - (lg_sl ([.ref (h0), .int (a0)])).length) Slot.unset).toArray = ls at hl ⊢
  have hl : lv_has ls 9 [(0, .ref (h0)), (1, .int (a0))] := hl
  have J104 : ∀ (x2 : Int32) (x3 : Nat) (x4 : Int32) (x5 : Int32) (x6 : Int32) (x7 : Int32) (x8 : Int32) (ls : Array Slot), lv_has ls 9 [(0, .ref (h0)), (1, .int (a0)), (2, .int (x2)), (3, .ref (ad x3)), (4, .int (x4)), (5, .int (x5)), (6, .int (x6)), (7, .int (x7)), (8, .int (x8))] → f_C_shorter_L104 a0  x2 x3 x4 x5 x6 x7 x8 = some r → pW p l e (headSpec (Cond.code y_C_shorter b_C_shorter 9 (Option.some FieldType.int) :: aw) ({ frames := 9, cells := 0, slots := 0, locals := 207 } : Room)).room s m ([.ref (h0), .int (a0)] : List Value).toArray below meth c r (F0 m 104 ls []) := by
    intro x2 x3 x4 x5 x6 x7 x8  ls  hl hf
    rw [f_C_shorter_L104] at hf
    refine lv_iload hx hb d_C_shorter_104 (lv_at hl 8 rfl) ?_
    refine lv_iconst (v := (-1)) hx hb d_C_shorter_106 (by decide) ?_
    refine lv_icmp_ne (tgt := 144) hx hb d_C_shorter_107 (by decide) (fun c_19 => ?_) (fun c_19 => ?_)
    · replace hf := (if_neg c_19).symm.trans hf
      refine lv_iload hx hb d_C_shorter_144 (lv_at hl 8 rfl) ?_
      exact W.iret (v := x8) hx hb hr (fun t ht hW => ⟨congrArg (fun z => Outcome.returned (some (Value.int z))) (Option.some.inj hf), ht⟩) (fun q h => nomatch h) d_C_shorter_146
    · replace hf := (if_pos c_19).symm.trans hf
      refine lv_iload_n hx hb d_C_shorter_110 rfl (lv_at hl 2 rfl) ?_
      refine lv_bipush (v := 18) hx hb d_C_shorter_111 (by decide) ?_
      refine lv_icmp_ne (tgt := 144) hx hb d_C_shorter_113 (by decide) (fun c_20 => ?_) (fun c_20 => ?_)
      · replace hf := (if_neg c_20).symm.trans hf
        refine lv_iload hx hb d_C_shorter_144 (lv_at hl 8 rfl) ?_
        exact W.iret (v := x8) hx hb hr (fun t ht hW => ⟨congrArg (fun z => Outcome.returned (some (Value.int z))) (Option.some.inj hf), ht⟩) (fun q h => nomatch h) d_C_shorter_146
      · replace hf := (if_pos c_20).symm.trans hf
        refine lv_iload hx hb d_C_shorter_116 (lv_at hl 7 rfl) ?_
        refine lv_if_ne (tgt := 144) hx hb d_C_shorter_118 (by decide) (fun c_21 => ?_) (fun c_21 => ?_)
        · replace hf := (if_neg c_21).symm.trans hf
          refine lv_iload hx hb d_C_shorter_144 (lv_at hl 8 rfl) ?_
          exact W.iret (v := x8) hx hb hr (fun t ht hW => ⟨congrArg (fun z => Outcome.returned (some (Value.int z))) (Option.some.inj hf), ht⟩) (fun q h => nomatch h) d_C_shorter_146
        · replace hf := (if_pos c_21).symm.trans hf
          refine lv_iload hx hb d_C_shorter_121 (lv_at hl 4 rfl) ?_
          refine lv_if_eq (tgt := 144) hx hb d_C_shorter_123 (by decide) (fun c_22 => ?_) (fun c_22 => ?_)
          · replace hf := (if_pos c_22).symm.trans hf
            refine lv_iload hx hb d_C_shorter_144 (lv_at hl 8 rfl) ?_
            exact W.iret (v := x8) hx hb hr (fun t ht hW => ⟨congrArg (fun z => Outcome.returned (some (Value.int z))) (Option.some.inj hf), ht⟩) (fun q h => nomatch h) d_C_shorter_146
          · replace hf := (if_neg c_22).symm.trans hf
            refine lv_iload hx hb d_C_shorter_126 (lv_at hl 5 rfl) ?_
            refine lv_if_eq (tgt := 144) hx hb d_C_shorter_128 (by decide) (fun c_23 => ?_) (fun c_23 => ?_)
            · replace hf := (if_pos c_23).symm.trans hf
              refine lv_iload hx hb d_C_shorter_144 (lv_at hl 8 rfl) ?_
              exact W.iret (v := x8) hx hb hr (fun t ht hW => ⟨congrArg (fun z => Outcome.returned (some (Value.int z))) (Option.some.inj hf), ht⟩) (fun q h => nomatch h) d_C_shorter_146
            · replace hf := (if_neg c_23).symm.trans hf
              refine lv_bipush (v := 27) hx hb d_C_shorter_131 (by decide) ?_
              refine lv_iload hx hb d_C_shorter_133 (lv_at hl 4 rfl) ?_
              refine lv_iconst (v := 0) hx hb d_C_shorter_135 (by decide) ?_
              refine lv_iload hx hb d_C_shorter_136 (lv_at hl 5 rfl) ?_
              refine lv_iconst (v := 0) hx hb d_C_shorter_138 (by decide) ?_
              obtain ⟨r_24, g_25, hf⟩ := Option.bind_eq_some_iff.mp hf
              refine ju_calli (W.runS (As := [.int (27), .int (x4), .int (0), .int (x5), .int (0)]) (rest := []) ⟨hx, hb, hml, hown, hts⟩ (c_C_shortOf l (ad := ad) (sk := sk) (sv := sv) (tK := tK)  27 x4 0 x5 0  r_24 g_25) (va_cwS 5 hts (aw_S aw_149 aw_150 aw_1 aw_151) rfl rfl rfl (by decide +kernel) ⟨Nat.le_of_ble_eq_true rfl, Nat.le_of_ble_eq_true rfl⟩) ⟨fun a U g mk q => ⟨q.1, q.2.call⟩, fun U hU hW => ⟨rfl, hT.at hS hU hW (fun _ z => z.elim)⟩⟩ rfl rfl hl.1 rfl (lv_room (Nat.le_of_ble_eq_true rfl)) d_C_shorter_139 ⟨Nat.le_refl _, Nat.le_refl _⟩) ?_
              refine lv_istore (lv' := [(8, .int (r_24)), (0, .ref (h0)), (1, .int (a0)), (2, .int (x2)), (3, .ref (ad x3)), (4, .int (x4)), (5, .int (x5)), (6, .int (x6)), (7, .int (x7))]) hx hb d_C_shorter_142 hl (by decide) rfl (fun ls hl => ?_)
              refine lv_iload hx hb d_C_shorter_144 (lv_at hl 0 rfl) ?_
              exact W.iret (v := r_24) hx hb hr (fun t ht hW => ⟨congrArg (fun z => Outcome.returned (some (Value.int z))) (Option.some.inj hf), ht⟩) (fun q h => nomatch h) d_C_shorter_146
  rw [f_C_shorter] at hf
  refine lv_iload_n hx hb d_C_shorter_0 rfl (lv_at hl 1 rfl) ?_
  obtain ⟨r_1, g_2, hf⟩ := Option.bind_eq_some_iff.mp hf
  refine ju_calli (W.runS (As := [.int (a0)]) (rest := []) ⟨hx, hb, hml, hown, hts⟩ (c_C_numberOf l (ad := ad) (sk := sk) (sv := sv) (tK := tK)  a0  r_1 g_2) (va_cwS 1 hts (aw_S aw_35 aw_36 aw_1 aw_37) rfl rfl rfl (by decide +kernel) ⟨Nat.le_of_ble_eq_true rfl, Nat.le_of_ble_eq_true rfl⟩) ⟨fun a U g mk q => ⟨q.1, q.2.call⟩, fun U hU hW => ⟨rfl, hT.at hS hU hW (fun _ z => z.elim)⟩⟩ rfl rfl hl.1 rfl (lv_room (Nat.le_of_ble_eq_true rfl)) d_C_shorter_1 ⟨Nat.le_refl _, Nat.le_refl _⟩) ?_
  refine lv_istore_n (lv' := [(2, .int (r_1)), (0, .ref (h0)), (1, .int (a0))]) hx hb d_C_shorter_4 rfl hl (by decide) rfl (fun ls hl => ?_)
  refine lv_iload_n hx hb d_C_shorter_5 rfl (lv_at hl 0 rfl) ?_
  refine lv_iconst (v := (-1)) hx hb d_C_shorter_6 (by decide) ?_
  refine lv_icmp_eq (tgt := 17) hx hb d_C_shorter_7 (by decide) (fun c_3 => ?_) (fun c_3 => ?_)
  · replace hf := (if_pos c_3).symm.trans hf
    refine lv_iconst (v := (-1)) hx hb d_C_shorter_17 (by decide) ?_
    exact W.iret (v := (-1)) hx hb hr (fun t ht hW => ⟨congrArg (fun z => Outcome.returned (some (Value.int z))) (Option.some.inj hf), ht⟩) (fun q h => nomatch h) d_C_shorter_18
  · replace hf := (if_neg c_3).symm.trans hf
    refine lv_iload_n hx hb d_C_shorter_10 rfl (lv_at hl 2 rfl) ?_
    obtain ⟨r_4, g_5, hf⟩ := Option.bind_eq_some_iff.mp hf
    refine ju_calli (W.runS (As := [.int (a0)]) (rest := []) ⟨hx, hb, hml, hown, hts⟩ (c_C_isLong l (ad := ad) (sk := sk) (sv := sv) (tK := tK)  a0  r_4 g_5) (va_cwS 1 hts (aw_S aw_140 aw_141 aw_1 aw_142) rfl rfl rfl (by decide +kernel) ⟨Nat.le_of_ble_eq_true rfl, Nat.le_of_ble_eq_true rfl⟩) ⟨fun a U g mk q => ⟨q.1, q.2.call⟩, fun U hU hW => ⟨rfl, hT.at hS hU hW (fun _ z => z.elim)⟩⟩ rfl rfl hl.1 rfl (lv_room (Nat.le_of_ble_eq_true rfl)) d_C_shorter_11 ⟨Nat.le_refl _, Nat.le_refl _⟩) ?_
    refine lv_if_ne (tgt := 19) hx hb d_C_shorter_14 (by decide) (fun c_6 => ?_) (fun c_6 => ?_)
    · replace hf := (if_neg c_6).symm.trans hf
      refine va_gets (v := .ref (tK)) hx hb hT.1 hS hown (ht aw_38) (fun _ h9 => h9) d_C_shorter_19 ?_
      refine lv_iload_n hx hb d_C_shorter_22 rfl (lv_at hl 0 rfl) ?_
      obtain ⟨z_7, hf⟩ := ju_gd hf
      refine vb_tq (v := .ref (ad r_1.toNatClampNeg)) hx hb hT.2.1 hS z_7 rfl d_C_shorter_23 ?_
      refine lv_astore_n (lv' := [(3, .ref (ad r_1.toNatClampNeg)), (2, .int (r_1)), (0, .ref (h0)), (1, .int (a0))]) hx hb d_C_shorter_24 rfl hl (by decide) rfl (fun ls hl => ?_)
      refine lv_aload_n hx hb d_C_shorter_25 rfl (lv_at hl 0 rfl) ?_
      refine lv_iload_n hx hb d_C_shorter_26 rfl (lv_at hl 3 rfl) ?_
      refine lv_iconst (v := 1) hx hb d_C_shorter_27 (by decide) ?_
      obtain ⟨r_8, g_9, hf⟩ := Option.bind_eq_some_iff.mp hf
      refine ju_calli (W.runV (As := [.int (a0), .int (1)]) (rest := []) ⟨hx, hb, hml, hown, hts⟩ (c_K_register l (ad := ad) (sk := sk) (sv := sv) (tK := tK)  r_1.toNatClampNeg a0 1 (ju_lt z_7) r_8 g_9) (cwV 2 hts (aw_V aw_147 aw_45 aw_46 aw_12 aw_47) rfl rfl rfl (by decide +kernel) ⟨Nat.le_of_ble_eq_true rfl, Nat.le_of_ble_eq_true rfl⟩) ⟨fun a U g mk q => ⟨q.1, q.2.call⟩, tb_recvK hT (ju_lt z_7) hS, fun U hU hW => ⟨rfl, hT.at hS hU hW (fun _ z => z.elim)⟩⟩ rfl rfl hl.1 rfl (lv_room (Nat.le_of_ble_eq_true rfl)) d_C_shorter_28 ⟨Nat.le_refl _, Nat.le_refl _⟩) ?_
      refine lv_istore (lv' := [(4, .int (r_8)), (3, .ref (ad r_1.toNatClampNeg)), (2, .int (r_1)), (0, .ref (h0)), (1, .int (a0))]) hx hb d_C_shorter_31 hl (by decide) rfl (fun ls hl => ?_)
      refine lv_aload_n hx hb d_C_shorter_33 rfl (lv_at hl 1 rfl) ?_
      refine lv_iload_n hx hb d_C_shorter_34 rfl (lv_at hl 4 rfl) ?_
      refine lv_iconst (v := 2) hx hb d_C_shorter_35 (by decide) ?_
      obtain ⟨r_10, g_11, hf⟩ := Option.bind_eq_some_iff.mp hf
      refine ju_calli (W.runV (As := [.int (a0), .int (2)]) (rest := []) ⟨hx, hb, hml, hown, hts⟩ (c_K_register l (ad := ad) (sk := sk) (sv := sv) (tK := tK)  r_1.toNatClampNeg a0 2 (ju_lt z_7) r_10 g_11) (cwV 2 hts (aw_V aw_147 aw_45 aw_46 aw_12 aw_47) rfl rfl rfl (by decide +kernel) ⟨Nat.le_of_ble_eq_true rfl, Nat.le_of_ble_eq_true rfl⟩) ⟨fun a U g mk q => ⟨q.1, q.2.call⟩, tb_recvK hT (ju_lt z_7) hS, fun U hU hW => ⟨rfl, hT.at hS hU hW (fun _ z => z.elim)⟩⟩ rfl rfl hl.1 rfl (lv_room (Nat.le_of_ble_eq_true rfl)) d_C_shorter_36 ⟨Nat.le_refl _, Nat.le_refl _⟩) ?_
      refine lv_istore (lv' := [(5, .int (r_10)), (4, .int (r_8)), (3, .ref (ad r_1.toNatClampNeg)), (2, .int (r_1)), (0, .ref (h0)), (1, .int (a0))]) hx hb d_C_shorter_39 hl (by decide) rfl (fun ls hl => ?_)
      refine lv_aload_n hx hb d_C_shorter_41 rfl (lv_at hl 2 rfl) ?_
      refine lv_iload_n hx hb d_C_shorter_42 rfl (lv_at hl 5 rfl) ?_
      refine lv_iconst (v := 4) hx hb d_C_shorter_43 (by decide) ?_
      obtain ⟨r_12, g_13, hf⟩ := Option.bind_eq_some_iff.mp hf
      refine ju_calli (W.runV (As := [.int (a0), .int (4)]) (rest := []) ⟨hx, hb, hml, hown, hts⟩ (c_K_register l (ad := ad) (sk := sk) (sv := sv) (tK := tK)  r_1.toNatClampNeg a0 4 (ju_lt z_7) r_12 g_13) (cwV 2 hts (aw_V aw_147 aw_45 aw_46 aw_12 aw_47) rfl rfl rfl (by decide +kernel) ⟨Nat.le_of_ble_eq_true rfl, Nat.le_of_ble_eq_true rfl⟩) ⟨fun a U g mk q => ⟨q.1, q.2.call⟩, tb_recvK hT (ju_lt z_7) hS, fun U hU hW => ⟨rfl, hT.at hS hU hW (fun _ z => z.elim)⟩⟩ rfl rfl hl.1 rfl (lv_room (Nat.le_of_ble_eq_true rfl)) d_C_shorter_44 ⟨Nat.le_refl _, Nat.le_refl _⟩) ?_
      refine lv_istore (lv' := [(6, .int (r_12)), (5, .int (r_10)), (4, .int (r_8)), (3, .ref (ad r_1.toNatClampNeg)), (2, .int (r_1)), (0, .ref (h0)), (1, .int (a0))]) hx hb d_C_shorter_47 hl (by decide) rfl (fun ls hl => ?_)
      refine lv_aload_n hx hb d_C_shorter_49 rfl (lv_at hl 3 rfl) ?_
      refine lv_iload_n hx hb d_C_shorter_50 rfl (lv_at hl 6 rfl) ?_
      obtain ⟨r_14, g_15, hf⟩ := Option.bind_eq_some_iff.mp hf
      refine ju_calli (W.runV (As := [.int (a0)]) (rest := []) ⟨hx, hb, hml, hown, hts⟩ (c_K_immediate l (ad := ad) (sk := sk) (sv := sv) (tK := tK)  r_1.toNatClampNeg a0 (ju_lt z_7) r_14 g_15) (cwV 1 hts (aw_V aw_148 aw_113 aw_114 aw_12 aw_115) rfl rfl rfl (by decide +kernel) ⟨Nat.le_of_ble_eq_true rfl, Nat.le_of_ble_eq_true rfl⟩) ⟨fun a U g mk q => ⟨q.1, q.2.call⟩, tb_recvK hT (ju_lt z_7) hS, fun U hU hW => ⟨rfl, hT.at hS hU hW (fun _ z => z.elim)⟩⟩ rfl rfl hl.1 rfl (lv_room (Nat.le_of_ble_eq_true rfl)) d_C_shorter_51 ⟨Nat.le_refl _, Nat.le_refl _⟩) ?_
      refine lv_istore (lv' := [(7, .int (r_14)), (6, .int (r_12)), (5, .int (r_10)), (4, .int (r_8)), (3, .ref (ad r_1.toNatClampNeg)), (2, .int (r_1)), (0, .ref (h0)), (1, .int (a0))]) hx hb d_C_shorter_54 hl (by decide) rfl (fun ls hl => ?_)
      refine lv_iload_n hx hb d_C_shorter_56 rfl (lv_at hl 5 rfl) ?_
      refine lv_iload hx hb d_C_shorter_57 (lv_at hl 3 rfl) ?_
      refine lv_iload hx hb d_C_shorter_59 (lv_at hl 2 rfl) ?_
      refine lv_iload hx hb d_C_shorter_61 (lv_at hl 1 rfl) ?_
      refine lv_iload hx hb d_C_shorter_63 (lv_at hl 0 rfl) ?_
      obtain ⟨r_16, g_17, hf⟩ := Option.bind_eq_some_iff.mp hf
      refine ju_calli (W.runS (As := [.int (r_1), .int (r_8), .int (r_10), .int (r_12), .int (r_14)]) (rest := []) ⟨hx, hb, hml, hown, hts⟩ (c_C_shortOf l (ad := ad) (sk := sk) (sv := sv) (tK := tK)  r_1 r_8 r_10 r_12 r_14  r_16 g_17) (va_cwS 5 hts (aw_S aw_149 aw_150 aw_1 aw_151) rfl rfl rfl (by decide +kernel) ⟨Nat.le_of_ble_eq_true rfl, Nat.le_of_ble_eq_true rfl⟩) ⟨fun a U g mk q => ⟨q.1, q.2.call⟩, fun U hU hW => ⟨rfl, hT.at hS hU hW (fun _ z => z.elim)⟩⟩ rfl rfl hl.1 rfl (lv_room (Nat.le_of_ble_eq_true rfl)) d_C_shorter_65 ⟨Nat.le_refl _, Nat.le_refl _⟩) ?_
      refine lv_istore (lv' := [(8, .int (r_16)), (7, .int (r_14)), (6, .int (r_12)), (5, .int (r_10)), (4, .int (r_8)), (3, .ref (ad r_1.toNatClampNeg)), (2, .int (r_1)), (0, .ref (h0)), (1, .int (a0))]) hx hb d_C_shorter_68 hl (by decide) rfl (fun ls hl => ?_)
      refine lv_iload hx hb d_C_shorter_70 (lv_at hl 0 rfl) ?_
      refine lv_iconst (v := (-1)) hx hb d_C_shorter_72 (by decide) ?_
      refine lv_icmp_ne (tgt := 104) hx hb d_C_shorter_73 (by decide) (fun c_18 => ?_) (fun c_18 => ?_)
      · replace hf := (if_neg c_18).symm.trans hf
        exact J104 r_1 r_1.toNatClampNeg r_8 r_10 r_12 r_14 r_16  _  (lv_sub hl [7, 8, 6, 5, 4, 3, 2, 1, 0] rfl) hf
      · replace hf := (if_pos c_18).symm.trans hf
        refine lv_iload_n hx hb d_C_shorter_76 rfl (lv_at hl 6 rfl) ?_
        obtain ⟨r_26, g_27, hf⟩ := Option.bind_eq_some_iff.mp hf
        refine ju_calli (W.runS (As := [.int (r_1)]) (rest := []) ⟨hx, hb, hml, hown, hts⟩ (c_C_exchanges l (ad := ad) (sk := sk) (sv := sv) (tK := tK)  r_1  r_26 g_27) (va_cwS 1 hts (aw_S aw_177 aw_178 aw_1 aw_179) rfl rfl rfl (by decide +kernel) ⟨Nat.le_of_ble_eq_true rfl, Nat.le_of_ble_eq_true rfl⟩) ⟨fun a U g mk q => ⟨q.1, q.2.call⟩, fun U hU hW => ⟨rfl, hT.at hS hU hW (fun _ z => z.elim)⟩⟩ rfl rfl hl.1 rfl (lv_room (Nat.le_of_ble_eq_true rfl)) d_C_shorter_77 ⟨Nat.le_refl _, Nat.le_refl _⟩) ?_
        refine lv_if_eq (tgt := 104) hx hb d_C_shorter_80 (by decide) (fun c_28 => ?_) (fun c_28 => ?_)
        · replace hf := (if_pos c_28).symm.trans hf
          exact J104 r_1 r_1.toNatClampNeg r_8 r_10 r_12 r_14 r_16  _  (lv_sub hl [7, 8, 6, 5, 4, 3, 2, 1, 0] rfl) hf
        · replace hf := (if_neg c_28).symm.trans hf
          refine lv_iload hx hb d_C_shorter_83 (lv_at hl 4 rfl) ?_
          refine lv_iload hx hb d_C_shorter_85 (lv_at hl 2 rfl) ?_
          refine lv_icmp_ne (tgt := 104) hx hb d_C_shorter_87 (by decide) (fun c_29 => ?_) (fun c_29 => ?_)
          · replace hf := (if_neg c_29).symm.trans hf
            exact J104 r_1 r_1.toNatClampNeg r_8 r_10 r_12 r_14 r_16  _  (lv_sub hl [7, 8, 6, 5, 4, 3, 2, 1, 0] rfl) hf
          · replace hf := (if_pos c_29).symm.trans hf
            refine lv_iload_n hx hb d_C_shorter_90 rfl (lv_at hl 6 rfl) ?_
            refine lv_iload hx hb d_C_shorter_91 (lv_at hl 4 rfl) ?_
            refine lv_iload hx hb d_C_shorter_93 (lv_at hl 2 rfl) ?_
            refine lv_iload hx hb d_C_shorter_95 (lv_at hl 3 rfl) ?_
            refine lv_iload hx hb d_C_shorter_97 (lv_at hl 1 rfl) ?_
            obtain ⟨r_30, g_31, hf⟩ := Option.bind_eq_some_iff.mp hf
            refine ju_calli (W.runS (As := [.int (r_1), .int (r_8), .int (r_12), .int (r_10), .int (r_14)]) (rest := []) ⟨hx, hb, hml, hown, hts⟩ (c_C_shortOf l (ad := ad) (sk := sk) (sv := sv) (tK := tK)  r_1 r_8 r_12 r_10 r_14  r_30 g_31) (va_cwS 5 hts (aw_S aw_149 aw_150 aw_1 aw_151) rfl rfl rfl (by decide +kernel) ⟨Nat.le_of_ble_eq_true rfl, Nat.le_of_ble_eq_true rfl⟩) ⟨fun a U g mk q => ⟨q.1, q.2.call⟩, fun U hU hW => ⟨rfl, hT.at hS hU hW (fun _ z => z.elim)⟩⟩ rfl rfl hl.1 rfl (lv_room (Nat.le_of_ble_eq_true rfl)) d_C_shorter_99 ⟨Nat.le_refl _, Nat.le_refl _⟩) ?_
            refine lv_istore (lv' := [(8, .int (r_30)), (7, .int (r_14)), (6, .int (r_12)), (5, .int (r_10)), (4, .int (r_8)), (3, .ref (ad r_1.toNatClampNeg)), (2, .int (r_1)), (0, .ref (h0)), (1, .int (a0))]) hx hb d_C_shorter_102 hl (by decide) rfl (fun ls hl => ?_)
            exact J104 r_1 r_1.toNatClampNeg r_8 r_10 r_12 r_14 r_30  _  (lv_sub hl [7, 8, 6, 5, 4, 3, 2, 1, 0] rfl) hf
    · replace hf := (if_pos c_6).symm.trans hf
      refine lv_iconst (v := (-1)) hx hb d_C_shorter_17 (by decide) ?_
      exact W.iret (v := (-1)) hx hb hr (fun t ht hW => ⟨congrArg (fun z => Outcome.returned (some (Value.int z))) (Option.some.inj hf), ht⟩) (fun q h => nomatch h) d_C_shorter_18

def f_C_may (a0 : Int32) (a1 : Int64) : Option Bool :=
  (f_C_isKind a0).bind fun r_1 => if (bI r_1) = 0 then (some false) else (if a0 < 0 ∨ 75 ≤ a0.toNatClampNeg then none else (f_K_allowsImmediate a0.toNatClampNeg a1).bind fun r_5 => if (bI r_5) = 0 then (some false) else (some true))
set_option maxHeartbeats 4000000 in
set_option maxRecDepth 100000 in
theorem c_C_may (l : Launch) {ad sk sv : Nat → Nat} {tK : Nat} (h0 : Nat) (a0 : Int32) (a1 : Int64)  (r : Bool) (hf : f_C_may a0 a1 = some r) : Met l y_C_may (Cond.code y_C_may b_C_may 4 (Option.some FieldType.boolean) :: aw) ({ frames := 2, cells := 0, slots := 0, locals := 49 } : Room) (va_Pc [.ref (h0), .int (a0), .long (a1)] (fun U => tb ad sk sv tK (fun _ => False) U U.heap)) (QcRead (bI r)) 0 0 (fun _ => False) := by
  refine Met.ofW (cc := b_C_may) (maxL := 4) (ret := (Option.some FieldType.boolean)) (by decide) rfl ?_
  intro p e s m args below meth c s₁ B hml hv
  obtain ⟨rfl, hT⟩ := hv
  have hx := B.exec
  have hb := B.bytes
  have hr := B.returns
  have hts := atoms_spec (ws := (Cond.code y_C_may b_C_may 4 (Option.some FieldType.boolean) :: aw)) B.pre
  have ht : ∀ {w : Cond}, w ∈ aw → w.before ([.ref (h0), .int (a0), .long (a1)] : List Value).toArray s = true := fun h => hts _ (List.mem_cons_of_mem _ h)
  have hown : s.vm.findClass "CodeWords" = some m.cls := findClass_of_methodNamed B.named
  have hlocks := B.notSynchronized
  have hS : va_S (fun _ => False) s.heap s.heap [] := va_S.rf
  have hl := lv_entry ([.ref (h0), .int (a0), .long (a1)]) (n := 4) (Nat.le_of_ble_eq_true rfl)
  rw [lg_entry_eq]
  generalize (lg_sl ([.ref (h0), .int (a0), .long (a1)]) ++ List.replicate (4 - (lg_sl ([.ref (h0), .int (a0), .long (a1)])).length) Slot.unset).toArray = ls at hl ⊢
  have hl : lv_has ls 4 [(0, .ref (h0)), (1, .int (a0)), (2, .long (a1))] := hl
  rw [f_C_may] at hf
  refine lv_iload_n hx hb d_C_may_0 rfl (lv_at hl 1 rfl) ?_
  obtain ⟨r_1, g_2, hf⟩ := Option.bind_eq_some_iff.mp hf
  refine ju_calli (W.runS (As := [.int (a0)]) (rest := []) ⟨hx, hb, hml, hown, hts⟩ (c_C_isKind l (ad := ad) (sk := sk) (sv := sv) (tK := tK)  a0  r_1 g_2) (va_cwS 1 hts (aw_S aw_152 aw_153 aw_1 aw_154) rfl rfl rfl (by decide +kernel) ⟨Nat.le_of_ble_eq_true rfl, Nat.le_of_ble_eq_true rfl⟩) ⟨fun a U g mk q => ⟨q.1, q.2.call⟩, fun U hU hW => ⟨rfl, hT.at hS hU hW (fun _ z => z.elim)⟩⟩ rfl rfl hl.1 rfl (lv_room (Nat.le_of_ble_eq_true rfl)) d_C_may_1 ⟨Nat.le_refl _, Nat.le_refl _⟩) ?_
  refine lv_if_eq (tgt := 23) hx hb d_C_may_4 (by decide) (fun c_3 => ?_) (fun c_3 => ?_)
  · replace hf := (if_pos c_3).symm.trans hf
    refine lv_iconst (v := 0) hx hb d_C_may_23 (by decide) ?_
    exact W.zret (v := 0) hx hb hr (ju_nz false) (fun t ht hW => ⟨congrArg (fun z => Outcome.returned (some (Value.int (bI z)))) (Option.some.inj hf), ht⟩) (fun q h => nomatch h) d_C_may_24
  · replace hf := (if_neg c_3).symm.trans hf
    refine va_gets (v := .ref (tK)) hx hb hT.1 hS hown (ht aw_38) (fun _ h9 => h9) d_C_may_7 ?_
    refine lv_iload_n hx hb d_C_may_10 rfl (lv_at hl 1 rfl) ?_
    obtain ⟨z_4, hf⟩ := ju_gd hf
    refine vb_tq (v := .ref (ad a0.toNatClampNeg)) hx hb hT.2.1 hS z_4 rfl d_C_may_11 ?_
    refine lv_lload_n hx hb d_C_may_12 rfl (lv_at hl 2 rfl) ?_
    obtain ⟨r_5, g_6, hf⟩ := Option.bind_eq_some_iff.mp hf
    refine ju_calli (W.runV (As := [.long (a1)]) (rest := []) ⟨hx, hb, hml, hown, hts⟩ (c_K_allowsImmediate l (ad := ad) (sk := sk) (sv := sv) (tK := tK)  a0.toNatClampNeg a1 (ju_lt z_4) r_5 g_6) (cwV 1 hts (aw_V aw_184 aw_130 aw_131 aw_12 aw_132) rfl rfl rfl (by decide +kernel) ⟨Nat.le_of_ble_eq_true rfl, Nat.le_of_ble_eq_true rfl⟩) ⟨fun a U g mk q => ⟨q.1, q.2.call⟩, tb_recvK hT (ju_lt z_4) hS, fun U hU hW => ⟨rfl, hT.at hS hU hW (fun _ z => z.elim)⟩⟩ rfl rfl hl.1 rfl (lv_room (Nat.le_of_ble_eq_true rfl)) d_C_may_13 ⟨Nat.le_refl _, Nat.le_refl _⟩) ?_
    refine lv_if_eq (tgt := 23) hx hb d_C_may_16 (by decide) (fun c_7 => ?_) (fun c_7 => ?_)
    · replace hf := (if_pos c_7).symm.trans hf
      refine lv_iconst (v := 0) hx hb d_C_may_23 (by decide) ?_
      exact W.zret (v := 0) hx hb hr (ju_nz false) (fun t ht hW => ⟨congrArg (fun z => Outcome.returned (some (Value.int (bI z)))) (Option.some.inj hf), ht⟩) (fun q h => nomatch h) d_C_may_24
    · replace hf := (if_neg c_7).symm.trans hf
      refine lv_iconst (v := 1) hx hb d_C_may_19 (by decide) ?_
      refine lv_goto (tgt := 24) hx hb d_C_may_20 (by decide) ?_
      exact W.zret (v := 1) hx hb hr (ju_nz true) (fun t ht hW => ⟨congrArg (fun z => Outcome.returned (some (Value.int (bI z)))) (Option.some.inj hf), ht⟩) (fun q h => nomatch h) d_C_may_24

def f_C_named_L3 (a0 : Int64) (a1 : Int64)  : Nat → Int32 → Option (Int32)
  | 0, _ => none
  | n + 1, x5 =>
    if 75 ≤ x5 then (some ((-1))) else (if x5 < 0 ∨ 75 ≤ x5.toNatClampNeg then none else (f_C_spells (k_title x5.toNatClampNeg) a0 a1).bind fun r_3 => if (bI r_3) = 0 then (f_C_named_L3 a0 a1  n (x5 + 1)) else (some (x5)))
def f_C_named (a0 : Int64) (a1 : Int64) : Option Int32 :=
  f_C_named_L3 a0 a1  80 0
set_option maxHeartbeats 4000000 in
set_option maxRecDepth 100000 in
theorem c_C_named (l : Launch) {ad sk sv : Nat → Nat} {tK : Nat} (h0 : Nat) (a0 : Int64) (a1 : Int64)  (r : Int32) (hf : f_C_named a0 a1 = some r) : Met l y_C_named (Cond.code y_C_named b_C_named 6 (Option.some FieldType.int) :: aw) ({ frames := 5, cells := 0, slots := 0, locals := 114 } : Room) (va_Pc [.ref (h0), .long (a0), .long (a1)] (fun U => tb ad sk sv tK (fun _ => False) U U.heap)) (QcRead r) 0 0 (fun _ => False) := by
  refine Met.ofW (cc := b_C_named) (maxL := 6) (ret := (Option.some FieldType.int)) (by decide) rfl ?_
  intro p e s m args below meth c s₁ B hml hv
  obtain ⟨rfl, hT⟩ := hv
  have hx := B.exec
  have hb := B.bytes
  have hr := B.returns
  have hts := atoms_spec (ws := (Cond.code y_C_named b_C_named 6 (Option.some FieldType.int) :: aw)) B.pre
  have ht : ∀ {w : Cond}, w ∈ aw → w.before ([.ref (h0), .long (a0), .long (a1)] : List Value).toArray s = true := fun h => hts _ (List.mem_cons_of_mem _ h)
  have hown : s.vm.findClass "CodeWords" = some m.cls := findClass_of_methodNamed B.named
  have hlocks := B.notSynchronized
  have hS : va_S (fun _ => False) s.heap s.heap [] := va_S.rf
  have hl := lv_entry ([.ref (h0), .long (a0), .long (a1)]) (n := 6) (Nat.le_of_ble_eq_true rfl)
  rw [lg_entry_eq]
  generalize (lg_sl ([.ref (h0), .long (a0), .long (a1)]) ++ List.replicate (6 - (lg_sl ([.ref (h0), .long (a0), .long (a1)])).length) Slot.unset).toArray = ls at hl ⊢
  have hl : lv_has ls 6 [(0, .ref (h0)), (1, .long (a0)), (3, .long (a1))] := hl
  have J3 : ∀ (n : Nat) (x5 : Int32) (ls : Array Slot), lv_has ls 6 [(0, .ref (h0)), (1, .long (a0)), (3, .long (a1)), (5, .int (x5))] → f_C_named_L3 a0 a1  n x5 = some r → pW p l e (headSpec (Cond.code y_C_named b_C_named 6 (Option.some FieldType.int) :: aw) ({ frames := 5, cells := 0, slots := 0, locals := 114 } : Room)).room s m ([.ref (h0), .long (a0), .long (a1)] : List Value).toArray below meth c r (F0 m 3 ls []) := by
    intro n
    induction n with
    | zero =>
      intro x5  ls  hl hf
      rw [f_C_named_L3] at hf
      cases hf
    | succ n ih =>
      intro x5  ls  hl hf
      rw [f_C_named_L3] at hf
      refine lv_iload hx hb d_C_named_3 (lv_at hl 3 rfl) ?_
      refine va_gets (v := .ref (tK)) hx hb hT.1 hS hown (ht aw_38) (fun _ h9 => h9) d_C_named_5 ?_
      refine va_tlen (v := 75) hx hb hT.2.1 hS rfl d_C_named_8 ?_
      refine lv_icmp_ge (tgt := 38) hx hb d_C_named_9 (by decide) (fun c_1 => ?_) (fun c_1 => ?_)
      · replace hf := (if_pos c_1).symm.trans hf
        refine lv_iconst (v := (-1)) hx hb d_C_named_38 (by decide) ?_
        exact W.iret (v := (-1)) hx hb hr (fun t ht hW => ⟨congrArg (fun z => Outcome.returned (some (Value.int z))) (Option.some.inj hf), ht⟩) (fun q h => nomatch h) d_C_named_39
      · replace hf := (if_neg c_1).symm.trans hf
        refine va_gets (v := .ref (tK)) hx hb hT.1 hS hown (ht aw_38) (fun _ h9 => h9) d_C_named_12 ?_
        refine lv_iload hx hb d_C_named_15 (lv_at hl 3 rfl) ?_
        obtain ⟨z_2, hf⟩ := ju_gd hf
        refine vb_tq (v := .ref (ad x5.toNatClampNeg)) hx hb hT.2.1 hS z_2 rfl d_C_named_17 ?_
        refine vk_getf (v := .ref (sk (k_title x5.toNatClampNeg))) hx hb (tb_title hT (ju_lt z_2)) hS hown (ht aw_776) (fun _ h9 => h9) d_C_named_18 ?_
        refine lv_lload_n hx hb d_C_named_21 rfl (lv_at hl 1 rfl) ?_
        refine lv_lload_n hx hb d_C_named_22 rfl (lv_at hl 2 rfl) ?_
        obtain ⟨r_3, g_4, hf⟩ := Option.bind_eq_some_iff.mp hf
        refine ju_calli (W.runS (As := [.ref (sk (k_title x5.toNatClampNeg)), .long (a0), .long (a1)]) (rest := []) ⟨hx, hb, hml, hown, hts⟩ (c_C_spells l (ad := ad) (sk := sk) (sv := sv) (tK := tK)  (k_title x5.toNatClampNeg) a0 a1 (k_title_lt (ju_lt z_2)) r_3 g_4) (va_cwS 3 hts (aw_S aw_245 aw_246 aw_1 aw_247) rfl rfl rfl (by decide +kernel) ⟨Nat.le_of_ble_eq_true rfl, Nat.le_of_ble_eq_true rfl⟩) ⟨fun a U g mk q => ⟨q.1, q.2.call⟩, fun U hU hW => ⟨rfl, hT.at hS hU hW (fun _ z => z.elim)⟩⟩ rfl rfl hl.1 rfl (lv_room (Nat.le_of_ble_eq_true rfl)) d_C_named_23 ⟨Nat.le_refl _, Nat.le_refl _⟩) ?_
        refine lv_if_eq (tgt := 32) hx hb d_C_named_26 (by decide) (fun c_5 => ?_) (fun c_5 => ?_)
        · replace hf := (if_pos c_5).symm.trans hf
          refine lv_iinc (v := x5 + 1) (lv' := [(5, .int (x5 + 1)), (0, .ref (h0)), (1, .long (a0)), (3, .long (a1))]) hx hb d_C_named_32 hl (k := 3) rfl rfl (by decide) rfl (fun ls hl => ?_)
          refine lv_goto (tgt := 3) hx hb d_C_named_35 (by decide) ?_
          exact ih (x5 + 1)  _  (lv_sub hl [1, 2, 3, 0] rfl) hf
        · replace hf := (if_neg c_5).symm.trans hf
          refine lv_iload hx hb d_C_named_29 (lv_at hl 3 rfl) ?_
          exact W.iret (v := x5) hx hb hr (fun t ht hW => ⟨congrArg (fun z => Outcome.returned (some (Value.int z))) (Option.some.inj hf), ht⟩) (fun q h => nomatch h) d_C_named_31
  rw [f_C_named] at hf
  refine lv_iconst (v := 0) hx hb d_C_named_0 (by decide) ?_
  refine lv_istore (lv' := [(5, .int (0)), (0, .ref (h0)), (1, .long (a0)), (3, .long (a1))]) hx hb d_C_named_1 hl (by decide) rfl (fun ls hl => ?_)
  exact J3 80 0  _  (lv_sub hl [1, 2, 3, 0] rfl) hf

def f_C_about (a0 : Int32) (a1 : Int32) : Option Int32 :=
  (f_C_isKind a0).bind fun r_1 => if (bI r_1) = 0 then (some ((-1))) else (if a1 = 0 then (if a0 < 0 ∨ 75 ≤ a0.toNatClampNeg then none else some (k_pattern a0.toNatClampNeg)) else ( if a1 = 1 then (if a0 < 0 ∨ 75 ≤ a0.toNatClampNeg then none else some (k_parts a0.toNatClampNeg)) else ( if a1 = 2 then (if a0 < 0 ∨ 75 ≤ a0.toNatClampNeg then none else (f_S_length (k_layout a0.toNatClampNeg)).bind fun r_10 => some (r_10 / 8)) else ( if a1 = 3 then (if a0 < 0 ∨ 75 ≤ a0.toNatClampNeg then none else (f_S_length (k_title a0.toNatClampNeg)).bind fun r_14 => some (r_14)) else (some ((-1)))))))
set_option maxHeartbeats 4000000 in
set_option maxRecDepth 100000 in
theorem c_C_about (l : Launch) {ad sk sv : Nat → Nat} {tK : Nat} (h0 : Nat) (a0 : Int32) (a1 : Int32)  (r : Int32) (hf : f_C_about a0 a1 = some r) : Met l y_C_about (Cond.code y_C_about b_C_about 3 (Option.some FieldType.int) :: aw) ({ frames := 2, cells := 0, slots := 0, locals := 40 } : Room) (va_Pc [.ref (h0), .int (a0), .int (a1)] (fun U => tb ad sk sv tK (fun _ => False) U U.heap)) (QcRead r) 0 0 (fun _ => False) := by
  refine Met.ofW (cc := b_C_about) (maxL := 3) (ret := (Option.some FieldType.int)) (by decide) rfl ?_
  intro p e s m args below meth c s₁ B hml hv
  obtain ⟨rfl, hT⟩ := hv
  have hx := B.exec
  have hb := B.bytes
  have hr := B.returns
  have hts := atoms_spec (ws := (Cond.code y_C_about b_C_about 3 (Option.some FieldType.int) :: aw)) B.pre
  have ht : ∀ {w : Cond}, w ∈ aw → w.before ([.ref (h0), .int (a0), .int (a1)] : List Value).toArray s = true := fun h => hts _ (List.mem_cons_of_mem _ h)
  have hown : s.vm.findClass "CodeWords" = some m.cls := findClass_of_methodNamed B.named
  have hlocks := B.notSynchronized
  have hS : va_S (fun _ => False) s.heap s.heap [] := va_S.rf
  have hl := lv_entry ([.ref (h0), .int (a0), .int (a1)]) (n := 3) (Nat.le_of_ble_eq_true rfl)
  rw [lg_entry_eq]
  generalize (lg_sl ([.ref (h0), .int (a0), .int (a1)]) ++ List.replicate (3 - (lg_sl ([.ref (h0), .int (a0), .int (a1)])).length) Slot.unset).toArray = ls at hl ⊢
  have hl : lv_has ls 3 [(0, .ref (h0)), (1, .int (a0)), (2, .int (a1))] := hl
  rw [f_C_about] at hf
  refine lv_iload_n hx hb d_C_about_0 rfl (lv_at hl 1 rfl) ?_
  obtain ⟨r_1, g_2, hf⟩ := Option.bind_eq_some_iff.mp hf
  refine ju_calli (W.runS (As := [.int (a0)]) (rest := []) ⟨hx, hb, hml, hown, hts⟩ (c_C_isKind l (ad := ad) (sk := sk) (sv := sv) (tK := tK)  a0  r_1 g_2) (va_cwS 1 hts (aw_S aw_152 aw_153 aw_1 aw_154) rfl rfl rfl (by decide +kernel) ⟨Nat.le_of_ble_eq_true rfl, Nat.le_of_ble_eq_true rfl⟩) ⟨fun a U g mk q => ⟨q.1, q.2.call⟩, fun U hU hW => ⟨rfl, hT.at hS hU hW (fun _ z => z.elim)⟩⟩ rfl rfl hl.1 rfl (lv_room (Nat.le_of_ble_eq_true rfl)) d_C_about_1 ⟨Nat.le_refl _, Nat.le_refl _⟩) ?_
  refine lv_if_ne (tgt := 9) hx hb d_C_about_4 (by decide) (fun c_3 => ?_) (fun c_3 => ?_)
  · replace hf := (if_neg c_3).symm.trans hf
    refine lv_iload_n hx hb d_C_about_9 rfl (lv_at hl 2 rfl) ?_
    by_cases c_4 : a1 = 0
    · replace hf := (if_pos c_4).symm.trans hf
      refine lv_tableIn (tgt := 40) hx hb d_C_about_10 (by rw [c_4]; decide) (by rw [c_4]; decide) (by rw [c_4] <;> rfl) (by decide) ?_
      refine va_gets (v := .ref (tK)) hx hb hT.1 hS hown (ht aw_38) (fun _ h9 => h9) d_C_about_40 ?_
      refine lv_iload_n hx hb d_C_about_43 rfl (lv_at hl 1 rfl) ?_
      obtain ⟨z_5, hf⟩ := ju_gd hf
      refine vb_tq (v := .ref (ad a0.toNatClampNeg)) hx hb hT.2.1 hS z_5 rfl d_C_about_44 ?_
      refine vk_getf (v := .int (k_pattern a0.toNatClampNeg)) hx hb (tb_pattern hT (ju_lt z_5)) hS hown (ht aw_777) (fun _ h9 => h9) d_C_about_45 ?_
      exact W.iret (v := k_pattern a0.toNatClampNeg) hx hb hr (fun t ht hW => ⟨congrArg (fun z => Outcome.returned (some (Value.int z))) (Option.some.inj hf), ht⟩) (fun q h => nomatch h) d_C_about_48
    · replace hf := (if_neg c_4).symm.trans hf
      by_cases c_6 : a1 = 1
      · replace hf := (if_pos c_6).symm.trans hf
        refine lv_tableIn (tgt := 49) hx hb d_C_about_10 (by rw [c_6]; decide) (by rw [c_6]; decide) (by rw [c_6] <;> rfl) (by decide) ?_
        refine va_gets (v := .ref (tK)) hx hb hT.1 hS hown (ht aw_38) (fun _ h9 => h9) d_C_about_49 ?_
        refine lv_iload_n hx hb d_C_about_52 rfl (lv_at hl 1 rfl) ?_
        obtain ⟨z_7, hf⟩ := ju_gd hf
        refine vb_tq (v := .ref (ad a0.toNatClampNeg)) hx hb hT.2.1 hS z_7 rfl d_C_about_53 ?_
        refine vk_getf (v := .int (k_parts a0.toNatClampNeg)) hx hb (tb_parts hT (ju_lt z_7)) hS hown (ht aw_778) (fun _ h9 => h9) d_C_about_54 ?_
        exact W.iret (v := k_parts a0.toNatClampNeg) hx hb hr (fun t ht hW => ⟨congrArg (fun z => Outcome.returned (some (Value.int z))) (Option.some.inj hf), ht⟩) (fun q h => nomatch h) d_C_about_57
      · replace hf := (if_neg c_6).symm.trans hf
        by_cases c_8 : a1 = 2
        · replace hf := (if_pos c_8).symm.trans hf
          refine lv_tableIn (tgt := 58) hx hb d_C_about_10 (by rw [c_8]; decide) (by rw [c_8]; decide) (by rw [c_8] <;> rfl) (by decide) ?_
          refine va_gets (v := .ref (tK)) hx hb hT.1 hS hown (ht aw_38) (fun _ h9 => h9) d_C_about_58 ?_
          refine lv_iload_n hx hb d_C_about_61 rfl (lv_at hl 1 rfl) ?_
          obtain ⟨z_9, hf⟩ := ju_gd hf
          refine vb_tq (v := .ref (ad a0.toNatClampNeg)) hx hb hT.2.1 hS z_9 rfl d_C_about_62 ?_
          refine vk_getf (v := .ref (sk (k_layout a0.toNatClampNeg))) hx hb (tb_layout hT (ju_lt z_9)) hS hown (ht aw_779) (fun _ h9 => h9) d_C_about_63 ?_
          obtain ⟨r_10, g_11, hf⟩ := Option.bind_eq_some_iff.mp hf
          refine ju_calli (W.runV (As := []) (rest := []) ⟨hx, hb, hml, hown, hts⟩ (c_S_length l (ad := ad) (sk := sk) (sv := sv) (tK := tK)  (k_layout a0.toNatClampNeg) (k_layout_lt (ju_lt z_9)) r_10 g_11) (cwV 0 hts (aw_V aw_174 aw_62 aw_63 aw_7 aw_64) rfl rfl rfl (by decide +kernel) ⟨Nat.le_of_ble_eq_true rfl, Nat.le_of_ble_eq_true rfl⟩) ⟨fun a U g mk q => ⟨q.1, q.2.call⟩, tb_recvS hT (k_layout_lt (ju_lt z_9)) hS, fun U hU hW => ⟨rfl, hT.at hS hU hW (fun _ z => z.elim)⟩⟩ rfl rfl hl.1 rfl (lv_room (Nat.le_of_ble_eq_true rfl)) d_C_about_66 ⟨Nat.le_refl _, Nat.le_refl _⟩) ?_
          refine lv_bipush (v := 8) hx hb d_C_about_69 (by decide) ?_
          refine lv_idiv hx hb d_C_about_71 (by decide) ?_
          exact W.iret (v := r_10 / 8) hx hb hr (fun t ht hW => ⟨congrArg (fun z => Outcome.returned (some (Value.int z))) (Option.some.inj hf), ht⟩) (fun q h => nomatch h) d_C_about_72
        · replace hf := (if_neg c_8).symm.trans hf
          by_cases c_12 : a1 = 3
          · replace hf := (if_pos c_12).symm.trans hf
            refine lv_tableIn (tgt := 73) hx hb d_C_about_10 (by rw [c_12]; decide) (by rw [c_12]; decide) (by rw [c_12] <;> rfl) (by decide) ?_
            refine va_gets (v := .ref (tK)) hx hb hT.1 hS hown (ht aw_38) (fun _ h9 => h9) d_C_about_73 ?_
            refine lv_iload_n hx hb d_C_about_76 rfl (lv_at hl 1 rfl) ?_
            obtain ⟨z_13, hf⟩ := ju_gd hf
            refine vb_tq (v := .ref (ad a0.toNatClampNeg)) hx hb hT.2.1 hS z_13 rfl d_C_about_77 ?_
            refine vk_getf (v := .ref (sk (k_title a0.toNatClampNeg))) hx hb (tb_title hT (ju_lt z_13)) hS hown (ht aw_776) (fun _ h9 => h9) d_C_about_78 ?_
            obtain ⟨r_14, g_15, hf⟩ := Option.bind_eq_some_iff.mp hf
            refine ju_calli (W.runV (As := []) (rest := []) ⟨hx, hb, hml, hown, hts⟩ (c_S_length l (ad := ad) (sk := sk) (sv := sv) (tK := tK)  (k_title a0.toNatClampNeg) (k_title_lt (ju_lt z_13)) r_14 g_15) (cwV 0 hts (aw_V aw_174 aw_62 aw_63 aw_7 aw_64) rfl rfl rfl (by decide +kernel) ⟨Nat.le_of_ble_eq_true rfl, Nat.le_of_ble_eq_true rfl⟩) ⟨fun a U g mk q => ⟨q.1, q.2.call⟩, tb_recvS hT (k_title_lt (ju_lt z_13)) hS, fun U hU hW => ⟨rfl, hT.at hS hU hW (fun _ z => z.elim)⟩⟩ rfl rfl hl.1 rfl (lv_room (Nat.le_of_ble_eq_true rfl)) d_C_about_81 ⟨Nat.le_refl _, Nat.le_refl _⟩) ?_
            exact W.iret (v := r_14) hx hb hr (fun t ht hW => ⟨congrArg (fun z => Outcome.returned (some (Value.int z))) (Option.some.inj hf), ht⟩) (fun q h => nomatch h) d_C_about_84
          · replace hf := (if_neg c_12).symm.trans hf
            refine lv_tableOut (tgt := 85) hx hb d_C_about_10 (by have q0 := lv_neT c_4 (k := 0) (a := 0) rfl; have q1 := lv_neT c_6 (k := 1) (a := 1) rfl; have q2 := lv_neT c_8 (k := 2) (a := 2) rfl; have q3 := lv_neT c_12 (k := 3) (a := 3) rfl; omega) (by decide) ?_
            refine lv_iconst (v := (-1)) hx hb d_C_about_85 (by decide) ?_
            exact W.iret (v := (-1)) hx hb hr (fun t ht hW => ⟨congrArg (fun z => Outcome.returned (some (Value.int z))) (Option.some.inj hf), ht⟩) (fun q h => nomatch h) d_C_about_86
  · replace hf := (if_pos c_3).symm.trans hf
    refine lv_iconst (v := (-1)) hx hb d_C_about_7 (by decide) ?_
    exact W.iret (v := (-1)) hx hb hr (fun t ht hW => ⟨congrArg (fun z => Outcome.returned (some (Value.int z))) (Option.some.inj hf), ht⟩) (fun q h => nomatch h) d_C_about_8
end
section
/-! the objects' worlds: the class's, and what a world is made of -/
def F_C : u_T := fun k => match k with
  | 0 => ("CodeWords", "out", "[C", true)
  | _ => ("CodeWords", "outLength", "I", false)
def ty_C : Nat → FieldType := fun k => match k with
  | 0 => .array .char
  | _ => .int
theorem nm_C : ∀ a, a < 2 → ∀ b, b < 2 → a ≠ b → (F_C a).2.1 ≠ (F_C b).2.1 := by decide +kernel
theorem tyok_C : ∀ k, k < 2 → parseFieldDescriptor (F_C k).2.2.1 = some (ty_C k) := by decide +kernel
theorem in0_C : ∀ w ∈ u_ws "CodeWords" F_C 2, w ∈ aw := (List.forall_mem_cons.mpr ⟨aw_25, (List.forall_mem_cons.mpr ⟨aw_27, (fun _ h => absurd h List.not_mem_nil)⟩)⟩)
theorem in_C (c0 : Cond) : ∀ w ∈ u_ws "CodeWords" F_C 2, w ∈ c0 :: aw := fun w h => List.mem_cons_of_mem _ (in0_C w h)
def F_M : u_T := fun k => match k with
  | 0 => ("CodeWordsModel", "thrown", "I", false)
  | 1 => ("CodeWordsModel", "row", "[I", true)
  | 2 => ("CodeWordsModel", "part", "[I", true)
  | 3 => ("CodeWordsModel", "out", "[I", true)
  | 4 => ("CodeWordsModel", "size", "I", false)
  | _ => ("CodeWordsModel", "begun", "Z", false)
def ty_M : Nat → FieldType := fun k => match k with
  | 0 => .int
  | 1 => .array .int
  | 2 => .array .int
  | 3 => .array .int
  | 4 => .int
  | _ => .boolean
theorem nm_M : ∀ a, a < 6 → ∀ b, b < 6 → a ≠ b → (F_M a).2.1 ≠ (F_M b).2.1 := by decide +kernel
theorem tyok_M : ∀ k, k < 6 → parseFieldDescriptor (F_M k).2.2.1 = some (ty_M k) := by decide +kernel
theorem in0_M : ∀ w ∈ u_ws "CodeWordsModel" F_M 6, w ∈ aw := (List.forall_mem_cons.mpr ⟨aw_445, (List.forall_mem_cons.mpr ⟨aw_447, (List.forall_mem_cons.mpr ⟨aw_449, (List.forall_mem_cons.mpr ⟨aw_451, (List.forall_mem_cons.mpr ⟨aw_453, (List.forall_mem_cons.mpr ⟨aw_455, (fun _ h => absurd h List.not_mem_nil)⟩)⟩)⟩)⟩)⟩)⟩)
theorem in_M (c0 : Cond) : ∀ w ∈ u_ws "CodeWordsModel" F_M 6, w ∈ c0 :: aw := fun w h => List.mem_cons_of_mem _ (in0_M w h)
abbrev cls2 : List vw_C := [("CodeWords", F_C, 2), ("CodeWordsModel", F_M, 6)]
abbrev aC (h0 o : Nat) : Nat → Prop := fun q => q = h0 ∨ q = o
abbrev wC (cA : ClassId) (h0 o : Nat) (f : Nat → Int32) (n : Int32) : va_W := [(h0, .inr (0, [.ref o, .int n])), (o, .inl (cA, 48, .inl f))]
theorem dD {A : Nat → Prop} {ws ws' : va_W} (h : va_D A ws) (e : ws'.map Prod.fst = ws.map Prod.fst) : va_D A ws' := by
  have key : ∀ (k : Nat) (q : Nat × va_E), ws'[k]? = some q → ∃ z, ws[k]? = some z ∧ z.1 = q.1 := by
    intro k q hq
    have h1 : (ws'.map Prod.fst)[k]? = some q.1 := by rw [List.getElem?_map, hq]; rfl
    rw [e, List.getElem?_map] at h1
    cases hz : ws[k]? with
    | none => rw [hz] at h1; cases h1
    | some z => rw [hz] at h1; exact ⟨z, rfl, Option.some.inj h1⟩
  refine ⟨fun i j p q hp hq hpq => ?_, fun k q hq => ?_⟩
  · obtain ⟨z1, a1, b1⟩ := key i p hp
    obtain ⟨z2, a2, b2⟩ := key j q hq
    exact h.1 i j z1 z2 a1 a2 (by rw [b1, b2, hpq])
  · obtain ⟨z, a1, b1⟩ := key k q hq
    rw [← b1]
    exact h.2 k z a1
theorem wBlind {av : List Value} {D : va_G} {cl : List vw_C} {ws : va_W} {tys : List (ClassId × FieldType)} {A : Nat → Prop} {ad sk sv : Nat → Nat} {tK : Nat} : FrameBlind (va_Pc av (fun U => va_P D cl ws U.heap ∧ va_K D cl tys U ∧ va_D A ws ∧ tb ad sk sv tK A U U.heap)) :=
  fun a U g mk q => ⟨q.1, q.2.1, va_K.moved (u := U) (U := U.calling g mk a) (Vm.Alike.refl U.vm) q.2.2.1, q.2.2.2.1, q.2.2.2.2.call⟩
theorem ju_fz (b : Bool) : fits .boolean (.int (bI b)) = true := by cases b <;> rfl
abbrev wW (p : Program) (l : Launch) (e : Env) (R : Room) (s : State) (m : MethodId) (args : Array Value) (below : List Frame) (meth : Method) (c : Code) (Qc : Array Value → State → Outcome → State → Prop) (free : Addr → Prop) (H : Heap) (locs : List Loc) (g : JFrame) : Prop := W p l e R s m args below meth c H locs 0 0 (MQ below Qc args s 0 0 free) g
end
section
def f_C_write (w_f : Nat → Int32) (w_n : Int32) (a0 : Int32) : Option ((Nat → Int32) × Int32) :=
  if w_n < 0 then (some (w_f, w_n)) else (if 48 ≤ w_n then (some (w_f, w_n)) else (if w_n < 0 ∨ 48 ≤ w_n.toNatClampNeg then none else some (upd w_f w_n.toNatClampNeg (vp_nar .char a0), w_n + 1)))
set_option maxHeartbeats 1000000 in
set_option maxRecDepth 100000 in
theorem c_C_write (l : Launch) {ad sk sv : Nat → Nat} {tK : Nat} (dC : Nat → ClassId) (dI : Nat → Nat → Nat) (cA : ClassId) (h0 o : Nat) (w_f : Nat → Int32) (w_n : Int32) (a0 : Int32)  (r : (Nat → Int32) × Int32) (hf : f_C_write w_f w_n a0 = some r) : Met l y_C_write (Cond.code y_C_write b_C_write 2 (Option.none : Option FieldType) :: aw) ({ frames := 0, cells := 0, slots := 0, locals := 0 } : Room) (va_Pc [.ref (h0), .int (a0)] (fun U => va_P (dC, dI) cls2 (wC cA h0 o w_f w_n) U.heap ∧ va_K (dC, dI) cls2 [(cA, .char)] U ∧ va_D (aC h0 o) (wC cA h0 o w_f w_n) ∧ tb ad sk sv tK (aC h0 o) U U.heap)) (va_Qv (fun u => u = r) (fun (u : (Nat → Int32) × Int32) t => va_P (dC, dI) cls2 (wC cA h0 o u.1 u.2) t.heap) (aC h0 o)) 0 0 (aC h0 o) := by
  refine Met.ofW (cc := b_C_write) (maxL := 2) (ret := (Option.none : Option FieldType)) (by decide) rfl ?_
  intro p e s m args below meth c s₁ B hml hv
  obtain ⟨rfl, hP, hK, hD, hT⟩ := hv
  have hD0 := hD
  have hx := B.exec
  have hb := B.bytes
  have hr := B.returns
  have hts := atoms_spec (ws := (Cond.code y_C_write b_C_write 2 (Option.none : Option FieldType) :: aw)) B.pre
  have ht : ∀ {w : Cond}, w ∈ aw → w.before ([.ref (h0), .int (a0)] : List Value).toArray s = true := fun h => hts _ (List.mem_cons_of_mem _ h)
  have hown : s.vm.findClass "CodeWords" = some m.cls := findClass_of_methodNamed B.named
  have hlocks := B.notSynchronized
  have hS : va_S (aC h0 o) s.heap s.heap [] := va_S.rf
  have hl := lv_entry ([.ref (h0), .int (a0)]) (n := 2) (Nat.le_of_ble_eq_true rfl)
  rw [lg_entry_eq]
  generalize (lg_sl ([.ref (h0), .int (a0)]) ++ List.replicate (2 - (lg_sl ([.ref (h0), .int (a0)])).length) Slot.unset).toArray = ls at hl ⊢
  have hl : lv_has ls 2 [(0, .ref (h0)), (1, .int (a0))] := hl
  rw [f_C_write] at hf
  refine lv_aload_n hx hb d_C_write_0 rfl (lv_at hl 0 rfl) ?_
  refine va_get (D := (dC, dI)) (ci := 0) (v := .int (w_n)) (C := "CodeWords") (T := F_C) (N := 2) hx hb hts (in_C _) hown hK hP 0 rfl rfl 1 (by decide) (ht aw_24) (fun _ h9 => h9) rfl d_C_write_1 ?_
  refine lv_if_lt (tgt := 39) hx hb d_C_write_4 (by decide) (fun c_1 => ?_) (fun c_1 => ?_)
  · replace hf := (if_pos c_1).symm.trans hf
    exact W.vret hx hb hr (fun t ht hW => ⟨⟨(w_f, w_n), rfl, Option.some.inj hf, by rw [← ht] at hP; exact hP⟩, hS.F ht⟩) hS.2.2 d_C_write_39
  · replace hf := (if_neg c_1).symm.trans hf
    refine lv_aload_n hx hb d_C_write_7 rfl (lv_at hl 0 rfl) ?_
    refine va_get (D := (dC, dI)) (ci := 0) (v := .int (w_n)) (C := "CodeWords") (T := F_C) (N := 2) hx hb hts (in_C _) hown hK hP 0 rfl rfl 1 (by decide) (ht aw_24) (fun _ h9 => h9) rfl d_C_write_8 ?_
    refine lv_aload_n hx hb d_C_write_11 rfl (lv_at hl 0 rfl) ?_
    refine va_get (D := (dC, dI)) (ci := 0) (v := .ref (o)) (C := "CodeWords") (T := F_C) (N := 2) hx hb hts (in_C _) hown hK hP 0 rfl rfl 0 (by decide) (ht aw_23) (fun _ h9 => h9) rfl d_C_write_12 ?_
    refine va_alen (v := 48) hx hb hK hP 1 0 rfl rfl rfl d_C_write_15 ?_
    refine lv_icmp_ge (tgt := 39) hx hb d_C_write_16 (by decide) (fun c_2 => ?_) (fun c_2 => ?_)
    · replace hf := (if_pos c_2).symm.trans hf
      exact W.vret hx hb hr (fun t ht hW => ⟨⟨(w_f, w_n), rfl, Option.some.inj hf, by rw [← ht] at hP; exact hP⟩, hS.F ht⟩) hS.2.2 d_C_write_39
    · replace hf := (if_neg c_2).symm.trans hf
      refine lv_aload_n hx hb d_C_write_19 rfl (lv_at hl 0 rfl) ?_
      refine va_get (D := (dC, dI)) (ci := 0) (v := .ref (o)) (C := "CodeWords") (T := F_C) (N := 2) hx hb hts (in_C _) hown hK hP 0 rfl rfl 0 (by decide) (ht aw_23) (fun _ h9 => h9) rfl d_C_write_20 ?_
      refine lv_aload_n hx hb d_C_write_23 rfl (lv_at hl 0 rfl) ?_
      refine va_get (D := (dC, dI)) (ci := 0) (v := .int (w_n)) (C := "CodeWords") (T := F_C) (N := 2) hx hb hts (in_C _) hown hK hP 0 rfl rfl 1 (by decide) (ht aw_24) (fun _ h9 => h9) rfl d_C_write_24 ?_
      refine lv_iload_n hx hb d_C_write_27 rfl (lv_at hl 1 rfl) ?_
      obtain ⟨z_3, hf⟩ := ju_gd hf
      refine va_cast hx hb hK hP hD hS 1 0 rfl rfl z_3 d_C_write_28 (fun H locs hP hD hS => ?_)
      have hP : va_P (dC, dI) cls2 (wC cA h0 o (upd w_f w_n.toNatClampNeg (vp_nar .char a0)) w_n) H := hP
      have hD : va_D (aC h0 o) (wC cA h0 o (upd w_f w_n.toNatClampNeg (vp_nar .char a0)) w_n) := hD
      refine lv_aload_n hx hb d_C_write_29 rfl (lv_at hl 0 rfl) ?_
      refine lv_dup hx hb d_C_write_30 rfl ?_
      refine va_get (D := (dC, dI)) (ci := 0) (v := .int (w_n)) (C := "CodeWords") (T := F_C) (N := 2) hx hb hts (in_C _) hown hK hP 0 rfl rfl 1 (by decide) (ht aw_24) (fun _ h9 => h9) rfl d_C_write_31 ?_
      refine lv_iconst (v := 1) hx hb d_C_write_34 (by decide) ?_
      refine lv_iadd hx hb d_C_write_35 ?_
      refine va_put (D := (dC, dI)) (ci := 0) (v := .int (w_n + 1)) (ty := .int) (C := "CodeWords") (T := F_C) (N := 2) hx hb hts (in_C _) ty_C tyok_C nm_C hown hK hP hD hS 0 rfl rfl 1 (by decide) (ht aw_24) (fun _ h9 => h9) rfl (by decide +kernel) rfl rfl (Nat.le_of_ble_eq_true rfl) d_C_write_36 (fun H locs hP hD hS => ?_)
      have hP : va_P (dC, dI) cls2 (wC cA h0 o (upd w_f w_n.toNatClampNeg (vp_nar .char a0)) (w_n + 1)) H := hP
      have hD : va_D (aC h0 o) (wC cA h0 o (upd w_f w_n.toNatClampNeg (vp_nar .char a0)) (w_n + 1)) := hD
      exact W.vret hx hb hr (fun t ht hW => ⟨⟨(upd w_f w_n.toNatClampNeg (vp_nar .char a0), w_n + 1), rfl, Option.some.inj hf, by rw [← ht] at hP; exact hP⟩, hS.F ht⟩) hS.2.2 d_C_write_39

def f_C_writeString_L2 (w_f : Nat → Int32) (w_n : Int32) (a0 : Nat)  : Nat → Int32 → (Nat → Int32) → Int32 → Option ((Nat → Int32) × Int32)
  | 0, _, _, _ => none
  | n + 1, x2, y_f, y_n =>
    (f_S_length a0).bind fun r_1 => if r_1 ≤ x2 then (some (y_f, y_n)) else ((f_S_charAt a0 x2).bind fun r_4 => (f_C_write y_f y_n r_4).bind fun r_6 => f_C_writeString_L2 w_f w_n a0  n (x2 + 1) r_6.1 r_6.2)
def f_C_writeString (w_f : Nat → Int32) (w_n : Int32) (a0 : Nat) : Option ((Nat → Int32) × Int32) :=
  f_C_writeString_L2 w_f w_n a0  40 0 w_f w_n
set_option maxHeartbeats 1000000 in
set_option maxRecDepth 100000 in
theorem c_C_writeString (l : Launch) {ad sk sv : Nat → Nat} {tK : Nat} (dC : Nat → ClassId) (dI : Nat → Nat → Nat) (cA : ClassId) (h0 o : Nat) (w_f : Nat → Int32) (w_n : Int32) (a0 : Nat) (ha0 : a0 < 180) (r : (Nat → Int32) × Int32) (hf : f_C_writeString w_f w_n a0 = some r) : Met l y_C_writeString (Cond.code y_C_writeString b_C_writeString 3 (Option.none : Option FieldType) :: aw) ({ frames := 4, cells := 0, slots := 0, locals := 85 } : Room) (va_Pc [.ref (h0), .ref (sk a0)] (fun U => va_P (dC, dI) cls2 (wC cA h0 o w_f w_n) U.heap ∧ va_K (dC, dI) cls2 [(cA, .char)] U ∧ va_D (aC h0 o) (wC cA h0 o w_f w_n) ∧ tb ad sk sv tK (aC h0 o) U U.heap)) (va_Qv (fun u => u = r) (fun (u : (Nat → Int32) × Int32) t => va_P (dC, dI) cls2 (wC cA h0 o u.1 u.2) t.heap) (aC h0 o)) 0 0 (aC h0 o) := by
  refine Met.ofW (cc := b_C_writeString) (maxL := 3) (ret := (Option.none : Option FieldType)) (by decide) rfl ?_
  intro p e s m args below meth c s₁ B hml hv
  obtain ⟨rfl, hP, hK, hD, hT⟩ := hv
  have hD0 := hD
  have hx := B.exec
  have hb := B.bytes
  have hr := B.returns
  have hts := atoms_spec (ws := (Cond.code y_C_writeString b_C_writeString 3 (Option.none : Option FieldType) :: aw)) B.pre
  have ht : ∀ {w : Cond}, w ∈ aw → w.before ([.ref (h0), .ref (sk a0)] : List Value).toArray s = true := fun h => hts _ (List.mem_cons_of_mem _ h)
  have hown : s.vm.findClass "CodeWords" = some m.cls := findClass_of_methodNamed B.named
  have hlocks := B.notSynchronized
  have hS : va_S (aC h0 o) s.heap s.heap [] := va_S.rf
  have hl := lv_entry ([.ref (h0), .ref (sk a0)]) (n := 3) (Nat.le_of_ble_eq_true rfl)
  rw [lg_entry_eq]
  generalize (lg_sl ([.ref (h0), .ref (sk a0)]) ++ List.replicate (3 - (lg_sl ([.ref (h0), .ref (sk a0)])).length) Slot.unset).toArray = ls at hl ⊢
  have hl : lv_has ls 3 [(0, .ref (h0)), (1, .ref (sk a0))] := hl
  have J2 : ∀ (n : Nat) (x2 : Int32) (y_f : (Nat → Int32)) (y_n : Int32) (H : Heap) (locs : List Loc) (ls : Array Slot), va_P (dC, dI) cls2 (wC cA h0 o y_f y_n) H → va_S (aC h0 o) s.heap H locs → lv_has ls 3 [(0, .ref (h0)), (1, .ref (sk a0)), (2, .int (x2))] → f_C_writeString_L2 w_f w_n a0  n x2 y_f y_n = some r → wW p l e (headSpec (Cond.code y_C_writeString b_C_writeString 3 (Option.none : Option FieldType) :: aw) ({ frames := 4, cells := 0, slots := 0, locals := 85 } : Room)).room s m ([.ref (h0), .ref (sk a0)] : List Value).toArray below meth c (va_Qv (fun u => u = r) (fun (u : (Nat → Int32) × Int32) t => va_P (dC, dI) cls2 (wC cA h0 o u.1 u.2) t.heap) (aC h0 o)) (aC h0 o) H locs (F0 m 2 ls []) := by
    intro n
    induction n with
    | zero =>
      intro x2 y_f y_n H locs ls hP hS hl hf
      rw [f_C_writeString_L2] at hf
      cases hf
    | succ n ih =>
      intro x2 y_f y_n H locs ls hP hS hl hf
      rw [f_C_writeString_L2] at hf
      have hD : va_D (aC h0 o) (wC cA h0 o y_f y_n) := dD hD0 rfl
      refine lv_iload_n hx hb d_C_writeString_2 rfl (lv_at hl 2 rfl) ?_
      refine lv_aload_n hx hb d_C_writeString_3 rfl (lv_at hl 1 rfl) ?_
      obtain ⟨r_1, g_2, hf⟩ := Option.bind_eq_some_iff.mp hf
      refine ju_calli (W.runV (As := []) (rest := [.int (x2)]) ⟨hx, hb, hml, hown, hts⟩ (c_S_length l (ad := ad) (sk := sk) (sv := sv) (tK := tK)  a0 ha0 r_1 g_2) (cwV 0 hts (aw_V aw_174 aw_62 aw_63 aw_7 aw_64) rfl rfl rfl (by decide +kernel) ⟨Nat.le_of_ble_eq_true rfl, Nat.le_of_ble_eq_true rfl⟩) ⟨fun a U g mk q => ⟨q.1, q.2.call⟩, tb_recvS hT ha0 hS, fun U hU hW => ⟨rfl, hT.at hS hU hW (fun _ z => z.elim)⟩⟩ rfl rfl hl.1 rfl (lv_room (Nat.le_of_ble_eq_true rfl)) d_C_writeString_4 ⟨Nat.le_refl _, Nat.le_refl _⟩) ?_
      refine lv_icmp_ge (tgt := 25) hx hb d_C_writeString_7 (by decide) (fun c_3 => ?_) (fun c_3 => ?_)
      · replace hf := (if_pos c_3).symm.trans hf
        exact W.vret hx hb hr (fun t ht hW => ⟨⟨(y_f, y_n), rfl, Option.some.inj hf, by rw [← ht] at hP; exact hP⟩, hS.F ht⟩) hS.2.2 d_C_writeString_25
      · replace hf := (if_neg c_3).symm.trans hf
        refine lv_aload_n hx hb d_C_writeString_10 rfl (lv_at hl 0 rfl) ?_
        refine lv_aload_n hx hb d_C_writeString_11 rfl (lv_at hl 1 rfl) ?_
        refine lv_iload_n hx hb d_C_writeString_12 rfl (lv_at hl 2 rfl) ?_
        obtain ⟨r_4, g_5, hf⟩ := Option.bind_eq_some_iff.mp hf
        refine ju_calli (W.runV (As := [.int (x2)]) (rest := [.ref (h0)]) ⟨hx, hb, hml, hown, hts⟩ (c_S_charAt l (ad := ad) (sk := sk) (sv := sv) (tK := tK)  a0 x2 ha0 r_4 g_5) (cwV 1 hts (aw_V aw_175 aw_72 aw_73 aw_7 aw_74) rfl rfl rfl (by decide +kernel) ⟨Nat.le_of_ble_eq_true rfl, Nat.le_of_ble_eq_true rfl⟩) ⟨fun a U g mk q => ⟨q.1, q.2.call⟩, tb_recvS hT ha0 hS, fun U hU hW => ⟨rfl, hT.at hS hU hW (fun _ z => z.elim)⟩⟩ rfl rfl hl.1 rfl (lv_room (Nat.le_of_ble_eq_true rfl)) d_C_writeString_13 ⟨Nat.le_refl _, Nat.le_refl _⟩) ?_
        obtain ⟨r_6, g_7, hf⟩ := Option.bind_eq_some_iff.mp hf
        refine va_callv (va_runV (As := [.int (r_4)]) (rest := []) ⟨hx, hb, hml, hown, hts⟩ (c_C_write l (ad := ad) (sk := sk) (sv := sv) (tK := tK) dC dI cA h0 o y_f y_n r_4  r_6 g_7) (cwV 1 hts (aw_V aw_198 aw_200 aw_p8 aw_1 aw_201) rfl rfl rfl (by decide +kernel) ⟨Nat.le_of_ble_eq_true rfl, Nat.le_of_ble_eq_true rfl⟩) ⟨wBlind, va_recv hK hP (ci := 0) (q0 := 0) rfl rfl, fun U hU hW => ⟨rfl, by rw [hU]; exact hP, va_K.moved hW.alike hK, hD, hT.at hS hU hW (fun _ z => z)⟩⟩ rfl rfl hl.1 rfl (lv_room (Nat.le_of_ble_eq_true rfl)) d_C_writeString_16 ⟨Nat.le_refl _, Nat.le_refl _⟩) hS (fun _ _ h => h) (fun _ h => h) (fun u t H1 locs ht1 hvm hw hB hz1 hk1 hS => ?_)
        rw [hw] at hB
        rw [ht1] at hB
        have hP : va_P (dC, dI) cls2 (wC cA h0 o r_6.1 r_6.2) H1 := hB
        have hD : va_D (aC h0 o) (wC cA h0 o r_6.1 r_6.2) := dD hD0 rfl
        refine lv_iinc (v := x2 + 1) (lv' := [(2, .int (x2 + 1)), (0, .ref (h0)), (1, .ref (sk a0))]) hx hb d_C_writeString_19 hl (k := 2) rfl rfl (by decide) rfl (fun ls hl => ?_)
        refine lv_goto (tgt := 2) hx hb d_C_writeString_22 (by decide) ?_
        exact ih (x2 + 1) r_6.1 r_6.2 _ _ _ hP hS (lv_sub hl [1, 2, 0] rfl) hf
  rw [f_C_writeString] at hf
  refine lv_iconst (v := 0) hx hb d_C_writeString_0 (by decide) ?_
  refine lv_istore_n (lv' := [(2, .int (0)), (0, .ref (h0)), (1, .ref (sk a0))]) hx hb d_C_writeString_1 rfl hl (by decide) rfl (fun ls hl => ?_)
  exact J2 40 0 w_f w_n _ _ _ hP hS (lv_sub hl [1, 2, 0] rfl) hf

def f_C_writeHex_L23 (w_f : Nat → Int32) (w_n : Int32) (a0 : Int32) (k9 : Int32 → (Nat → Int32) → Int32 → Option ((Nat → Int32) × Int32)) (x2 : Int32) (y_f : (Nat → Int32)) (y_n : Int32) : Option ((Nat → Int32) × Int32) :=
  if 10 ≤ ((ju_ushr a0 x2) &&& 15) then ((f_C_write y_f y_n (ju_i2c ((97 + ((ju_ushr a0 x2) &&& 15)) - 10))).bind fun r_6 => k9 (x2 + (-4)) r_6.1 r_6.2) else ((f_C_write y_f y_n (ju_i2c (48 + ((ju_ushr a0 x2) &&& 15)))).bind fun r_8 => k9 (x2 + (-4)) r_8.1 r_8.2)
def f_C_writeHex_L9 (w_f : Nat → Int32) (w_n : Int32) (a0 : Int32)  : Nat → Int32 → (Nat → Int32) → Int32 → Option ((Nat → Int32) × Int32)
  | 0, _, _, _ => none
  | n + 1, x2, y_f, y_n =>
    if x2 < 0 then (some (y_f, y_n)) else (if (ju_ushr a0 x2) = 0 then (if x2 = 0 then (f_C_writeHex_L23 w_f w_n a0 (fun y0 y1 y2 => f_C_writeHex_L9 w_f w_n a0  n y0 y1 y2) x2 y_f y_n) else (f_C_writeHex_L9 w_f w_n a0  n (x2 + (-4)) y_f y_n)) else (f_C_writeHex_L23 w_f w_n a0 (fun y0 y1 y2 => f_C_writeHex_L9 w_f w_n a0  n y0 y1 y2) x2 y_f y_n))
def f_C_writeHex (w_f : Nat → Int32) (w_n : Int32) (a0 : Int32) : Option ((Nat → Int32) × Int32) :=
  (f_C_writeString w_f w_n 1).bind fun r_1 => f_C_writeHex_L9 w_f w_n a0  40 28 r_1.1 r_1.2
set_option maxHeartbeats 1000000 in
set_option maxRecDepth 100000 in
theorem c_C_writeHex (l : Launch) {ad sk sv : Nat → Nat} {tK : Nat} (dC : Nat → ClassId) (dI : Nat → Nat → Nat) (cA : ClassId) (h0 o : Nat) (w_f : Nat → Int32) (w_n : Int32) (a0 : Int32)  (r : (Nat → Int32) × Int32) (hf : f_C_writeHex w_f w_n a0 = some r) : Met l y_C_writeHex (Cond.code y_C_writeHex b_C_writeHex 4 (Option.none : Option FieldType) :: aw) ({ frames := 5, cells := 0, slots := 0, locals := 107 } : Room) (va_Pc [.ref (h0), .int (a0)] (fun U => va_P (dC, dI) cls2 (wC cA h0 o w_f w_n) U.heap ∧ va_K (dC, dI) cls2 [(cA, .char)] U ∧ va_D (aC h0 o) (wC cA h0 o w_f w_n) ∧ tb ad sk sv tK (aC h0 o) U U.heap)) (va_Qv (fun u => u = r) (fun (u : (Nat → Int32) × Int32) t => va_P (dC, dI) cls2 (wC cA h0 o u.1 u.2) t.heap) (aC h0 o)) 0 0 (aC h0 o) := by
  refine Met.ofW (cc := b_C_writeHex) (maxL := 4) (ret := (Option.none : Option FieldType)) (by decide) rfl ?_
  intro p e s m args below meth c s₁ B hml hv
  obtain ⟨rfl, hP, hK, hD, hT⟩ := hv
  have hD0 := hD
  have hx := B.exec
  have hb := B.bytes
  have hr := B.returns
  have hts := atoms_spec (ws := (Cond.code y_C_writeHex b_C_writeHex 4 (Option.none : Option FieldType) :: aw)) B.pre
  have ht : ∀ {w : Cond}, w ∈ aw → w.before ([.ref (h0), .int (a0)] : List Value).toArray s = true := fun h => hts _ (List.mem_cons_of_mem _ h)
  have hown : s.vm.findClass "CodeWords" = some m.cls := findClass_of_methodNamed B.named
  have hlocks := B.notSynchronized
  have hS : va_S (aC h0 o) s.heap s.heap [] := va_S.rf
  have hl := lv_entry ([.ref (h0), .int (a0)]) (n := 4) (Nat.le_of_ble_eq_true rfl)
  rw [lg_entry_eq]
  generalize (lg_sl ([.ref (h0), .int (a0)]) ++ List.replicate (4 - (lg_sl ([.ref (h0), .int (a0)])).length) Slot.unset).toArray = ls at hl ⊢
  have hl : lv_has ls 4 [(0, .ref (h0)), (1, .int (a0))] := hl
  have J9 : ∀ (n : Nat) (x2 : Int32) (y_f : (Nat → Int32)) (y_n : Int32) (H : Heap) (locs : List Loc) (ls : Array Slot), va_P (dC, dI) cls2 (wC cA h0 o y_f y_n) H → va_S (aC h0 o) s.heap H locs → lv_has ls 4 [(0, .ref (h0)), (1, .int (a0)), (2, .int (x2))] → f_C_writeHex_L9 w_f w_n a0  n x2 y_f y_n = some r → wW p l e (headSpec (Cond.code y_C_writeHex b_C_writeHex 4 (Option.none : Option FieldType) :: aw) ({ frames := 5, cells := 0, slots := 0, locals := 107 } : Room)).room s m ([.ref (h0), .int (a0)] : List Value).toArray below meth c (va_Qv (fun u => u = r) (fun (u : (Nat → Int32) × Int32) t => va_P (dC, dI) cls2 (wC cA h0 o u.1 u.2) t.heap) (aC h0 o)) (aC h0 o) H locs (F0 m 9 ls []) := by
    intro n
    induction n with
    | zero =>
      intro x2 y_f y_n H locs ls hP hS hl hf
      rw [f_C_writeHex_L9] at hf
      cases hf
    | succ n ih =>
      intro x2 y_f y_n H locs ls hP hS hl hf
      rw [f_C_writeHex_L9] at hf
      have hD : va_D (aC h0 o) (wC cA h0 o y_f y_n) := dD hD0 rfl
      have J23 : ∀ (x2 : Int32) (y_f : (Nat → Int32)) (y_n : Int32) (H : Heap) (locs : List Loc) (ls : Array Slot), va_P (dC, dI) cls2 (wC cA h0 o y_f y_n) H → va_S (aC h0 o) s.heap H locs → lv_has ls 4 [(0, .ref (h0)), (1, .int (a0)), (2, .int (x2))] → f_C_writeHex_L23 w_f w_n a0 (fun y0 y1 y2 => f_C_writeHex_L9 w_f w_n a0  n y0 y1 y2) x2 y_f y_n = some r → wW p l e (headSpec (Cond.code y_C_writeHex b_C_writeHex 4 (Option.none : Option FieldType) :: aw) ({ frames := 5, cells := 0, slots := 0, locals := 107 } : Room)).room s m ([.ref (h0), .int (a0)] : List Value).toArray below meth c (va_Qv (fun u => u = r) (fun (u : (Nat → Int32) × Int32) t => va_P (dC, dI) cls2 (wC cA h0 o u.1 u.2) t.heap) (aC h0 o)) (aC h0 o) H locs (F0 m 23 ls []) := by
        intro x2 y_f y_n H locs ls hP hS hl hf
        rw [f_C_writeHex_L23] at hf
        have hD : va_D (aC h0 o) (wC cA h0 o y_f y_n) := dD hD0 rfl
        refine lv_iload_n hx hb d_C_writeHex_23 rfl (lv_at hl 1 rfl) ?_
        refine lv_iload_n hx hb d_C_writeHex_24 rfl (lv_at hl 2 rfl) ?_
        refine lv_iushr (v := ju_ushr a0 x2) hx hb d_C_writeHex_25 rfl ?_
        refine lv_bipush (v := 15) hx hb d_C_writeHex_26 (by decide) ?_
        refine lv_iand hx hb d_C_writeHex_28 ?_
        refine lv_istore_n (lv' := [(3, .int ((ju_ushr a0 x2) &&& 15)), (0, .ref (h0)), (1, .int (a0)), (2, .int (x2))]) hx hb d_C_writeHex_29 rfl hl (by decide) rfl (fun ls hl => ?_)
        refine lv_aload_n hx hb d_C_writeHex_30 rfl (lv_at hl 1 rfl) ?_
        refine lv_iload_n hx hb d_C_writeHex_31 rfl (lv_at hl 0 rfl) ?_
        refine lv_bipush (v := 10) hx hb d_C_writeHex_32 (by decide) ?_
        refine lv_icmp_ge (tgt := 44) hx hb d_C_writeHex_34 (by decide) (fun c_5 => ?_) (fun c_5 => ?_)
        · replace hf := (if_pos c_5).symm.trans hf
          refine lv_bipush (v := 97) hx hb d_C_writeHex_44 (by decide) ?_
          refine lv_iload_n hx hb d_C_writeHex_46 rfl (lv_at hl 0 rfl) ?_
          refine lv_iadd hx hb d_C_writeHex_47 ?_
          refine lv_bipush (v := 10) hx hb d_C_writeHex_48 (by decide) ?_
          refine lv_isub hx hb d_C_writeHex_50 ?_
          refine lv_i2c (v := ju_i2c ((97 + ((ju_ushr a0 x2) &&& 15)) - 10)) hx hb d_C_writeHex_51 rfl ?_
          obtain ⟨r_6, g_7, hf⟩ := Option.bind_eq_some_iff.mp hf
          refine va_callv (va_runV (As := [.int (ju_i2c ((97 + ((ju_ushr a0 x2) &&& 15)) - 10))]) (rest := []) ⟨hx, hb, hml, hown, hts⟩ (c_C_write l (ad := ad) (sk := sk) (sv := sv) (tK := tK) dC dI cA h0 o y_f y_n (ju_i2c ((97 + ((ju_ushr a0 x2) &&& 15)) - 10))  r_6 g_7) (cwV 1 hts (aw_V aw_198 aw_200 aw_p8 aw_1 aw_201) rfl rfl rfl (by decide +kernel) ⟨Nat.le_of_ble_eq_true rfl, Nat.le_of_ble_eq_true rfl⟩) ⟨wBlind, va_recv hK hP (ci := 0) (q0 := 0) rfl rfl, fun U hU hW => ⟨rfl, by rw [hU]; exact hP, va_K.moved hW.alike hK, hD, hT.at hS hU hW (fun _ z => z)⟩⟩ rfl rfl hl.1 rfl (lv_room (Nat.le_of_ble_eq_true rfl)) d_C_writeHex_52 ⟨Nat.le_refl _, Nat.le_refl _⟩) hS (fun _ _ h => h) (fun _ h => h) (fun u t H1 locs ht1 hvm hw hB hz1 hk1 hS => ?_)
          rw [hw] at hB
          rw [ht1] at hB
          have hP : va_P (dC, dI) cls2 (wC cA h0 o r_6.1 r_6.2) H1 := hB
          have hD : va_D (aC h0 o) (wC cA h0 o r_6.1 r_6.2) := dD hD0 rfl
          refine lv_iinc (v := x2 + (-4)) (lv' := [(2, .int (x2 + (-4))), (3, .int ((ju_ushr a0 x2) &&& 15)), (0, .ref (h0)), (1, .int (a0))]) hx hb d_C_writeHex_55 hl (k := 3) rfl rfl (by decide) rfl (fun ls hl => ?_)
          refine lv_goto (tgt := 9) hx hb d_C_writeHex_58 (by decide) ?_
          exact ih (x2 + (-4)) r_6.1 r_6.2 _ _ _ hP hS (lv_sub hl [2, 3, 0] rfl) hf
        · replace hf := (if_neg c_5).symm.trans hf
          refine lv_bipush (v := 48) hx hb d_C_writeHex_37 (by decide) ?_
          refine lv_iload_n hx hb d_C_writeHex_39 rfl (lv_at hl 0 rfl) ?_
          refine lv_iadd hx hb d_C_writeHex_40 ?_
          refine lv_goto (tgt := 51) hx hb d_C_writeHex_41 (by decide) ?_
          refine lv_i2c (v := ju_i2c (48 + ((ju_ushr a0 x2) &&& 15))) hx hb d_C_writeHex_51 rfl ?_
          obtain ⟨r_8, g_9, hf⟩ := Option.bind_eq_some_iff.mp hf
          refine va_callv (va_runV (As := [.int (ju_i2c (48 + ((ju_ushr a0 x2) &&& 15)))]) (rest := []) ⟨hx, hb, hml, hown, hts⟩ (c_C_write l (ad := ad) (sk := sk) (sv := sv) (tK := tK) dC dI cA h0 o y_f y_n (ju_i2c (48 + ((ju_ushr a0 x2) &&& 15)))  r_8 g_9) (cwV 1 hts (aw_V aw_198 aw_200 aw_p8 aw_1 aw_201) rfl rfl rfl (by decide +kernel) ⟨Nat.le_of_ble_eq_true rfl, Nat.le_of_ble_eq_true rfl⟩) ⟨wBlind, va_recv hK hP (ci := 0) (q0 := 0) rfl rfl, fun U hU hW => ⟨rfl, by rw [hU]; exact hP, va_K.moved hW.alike hK, hD, hT.at hS hU hW (fun _ z => z)⟩⟩ rfl rfl hl.1 rfl (lv_room (Nat.le_of_ble_eq_true rfl)) d_C_writeHex_52 ⟨Nat.le_refl _, Nat.le_refl _⟩) hS (fun _ _ h => h) (fun _ h => h) (fun u t H1 locs ht1 hvm hw hB hz1 hk1 hS => ?_)
          rw [hw] at hB
          rw [ht1] at hB
          have hP : va_P (dC, dI) cls2 (wC cA h0 o r_8.1 r_8.2) H1 := hB
          have hD : va_D (aC h0 o) (wC cA h0 o r_8.1 r_8.2) := dD hD0 rfl
          refine lv_iinc (v := x2 + (-4)) (lv' := [(2, .int (x2 + (-4))), (3, .int ((ju_ushr a0 x2) &&& 15)), (0, .ref (h0)), (1, .int (a0))]) hx hb d_C_writeHex_55 hl (k := 3) rfl rfl (by decide) rfl (fun ls hl => ?_)
          refine lv_goto (tgt := 9) hx hb d_C_writeHex_58 (by decide) ?_
          exact ih (x2 + (-4)) r_8.1 r_8.2 _ _ _ hP hS (lv_sub hl [2, 3, 0] rfl) hf
      refine lv_iload_n hx hb d_C_writeHex_9 rfl (lv_at hl 2 rfl) ?_
      refine lv_if_lt (tgt := 61) hx hb d_C_writeHex_10 (by decide) (fun c_3 => ?_) (fun c_3 => ?_)
      · replace hf := (if_pos c_3).symm.trans hf
        exact W.vret hx hb hr (fun t ht hW => ⟨⟨(y_f, y_n), rfl, Option.some.inj hf, by rw [← ht] at hP; exact hP⟩, hS.F ht⟩) hS.2.2 d_C_writeHex_61
      · replace hf := (if_neg c_3).symm.trans hf
        refine lv_iload_n hx hb d_C_writeHex_13 rfl (lv_at hl 1 rfl) ?_
        refine lv_iload_n hx hb d_C_writeHex_14 rfl (lv_at hl 2 rfl) ?_
        refine lv_iushr (v := ju_ushr a0 x2) hx hb d_C_writeHex_15 rfl ?_
        refine lv_if_ne (tgt := 23) hx hb d_C_writeHex_16 (by decide) (fun c_4 => ?_) (fun c_4 => ?_)
        · replace hf := (if_neg c_4).symm.trans hf
          exact J23 x2 y_f y_n _ _ _ hP hS (lv_sub hl [0, 1, 2] rfl) hf
        · replace hf := (if_pos c_4).symm.trans hf
          refine lv_iload_n hx hb d_C_writeHex_19 rfl (lv_at hl 2 rfl) ?_
          refine lv_if_ne (tgt := 55) hx hb d_C_writeHex_20 (by decide) (fun c_10 => ?_) (fun c_10 => ?_)
          · replace hf := (if_neg c_10).symm.trans hf
            refine lv_iinc (v := x2 + (-4)) (lv' := [(2, .int (x2 + (-4))), (0, .ref (h0)), (1, .int (a0))]) hx hb d_C_writeHex_55 hl (k := 2) rfl rfl (by decide) rfl (fun ls hl => ?_)
            refine lv_goto (tgt := 9) hx hb d_C_writeHex_58 (by decide) ?_
            exact ih (x2 + (-4)) y_f y_n _ _ _ hP hS (lv_sub hl [1, 2, 0] rfl) hf
          · replace hf := (if_pos c_10).symm.trans hf
            exact J23 x2 y_f y_n _ _ _ hP hS (lv_sub hl [0, 1, 2] rfl) hf
  rw [f_C_writeHex] at hf
  refine lv_aload_n hx hb d_C_writeHex_0 rfl (lv_at hl 0 rfl) ?_
  refine va_ldcS hx hb hown (tb_r178 hT) d_C_writeHex_1 ?_
  obtain ⟨r_1, g_2, hf⟩ := Option.bind_eq_some_iff.mp hf
  refine va_callv (va_runV (As := [.ref (sk 1)]) (rest := []) ⟨hx, hb, hml, hown, hts⟩ (c_C_writeString l (ad := ad) (sk := sk) (sv := sv) (tK := tK) dC dI cA h0 o w_f w_n 1 (by decide) r_1 g_2) (cwV 1 hts (aw_V aw_194 aw_196 aw_p7 aw_1 aw_197) rfl rfl rfl (by decide +kernel) ⟨Nat.le_of_ble_eq_true rfl, Nat.le_of_ble_eq_true rfl⟩) ⟨wBlind, va_recv hK hP (ci := 0) (q0 := 0) rfl rfl, fun U hU hW => ⟨rfl, by rw [hU]; exact hP, va_K.moved hW.alike hK, hD, hT.at hS hU hW (fun _ z => z)⟩⟩ rfl rfl hl.1 rfl (lv_room (Nat.le_of_ble_eq_true rfl)) d_C_writeHex_3 ⟨Nat.le_refl _, Nat.le_refl _⟩) hS (fun _ _ h => h) (fun _ h => h) (fun u t H1 locs ht1 hvm hw hB hz1 hk1 hS => ?_)
  rw [hw] at hB
  rw [ht1] at hB
  have hP : va_P (dC, dI) cls2 (wC cA h0 o r_1.1 r_1.2) H1 := hB
  have hD : va_D (aC h0 o) (wC cA h0 o r_1.1 r_1.2) := dD hD0 rfl
  refine lv_bipush (v := 28) hx hb d_C_writeHex_6 (by decide) ?_
  refine lv_istore_n (lv' := [(2, .int (28)), (0, .ref (h0)), (1, .int (a0))]) hx hb d_C_writeHex_8 rfl hl (by decide) rfl (fun ls hl => ?_)
  exact J9 40 28 r_1.1 r_1.2 _ _ _ hP hS (lv_sub hl [1, 2, 0] rfl) hf

def f_C_writeDecimal_L39 (w_f : Nat → Int32) (w_n : Int32) (a0 : Int32) (k25 : Int32 → Int32 → (Nat → Int32) → Int32 → Option ((Nat → Int32) × Int32)) (x2 : Int32) (x3 : Int32) (y_f : (Nat → Int32)) (y_n : Int32) : Option ((Nat → Int32) × Int32) :=
  if x3 = 0 then none else (f_C_write y_f y_n (ju_i2c (48 + ((x2 / x3) - (x2 / x3) / 10 * 10)))).bind fun r_6 => k25 x2 (x3 / 10) r_6.1 r_6.2
def f_C_writeDecimal_L25 (w_f : Nat → Int32) (w_n : Int32) (a0 : Int32)  : Nat → Int32 → Int32 → (Nat → Int32) → Int32 → Option ((Nat → Int32) × Int32)
  | 0, _, _, _, _ => none
  | n + 1, x2, x3, y_f, y_n =>
    if x3 ≤ 0 then (some (y_f, y_n)) else (if x3 ≤ x2 then (f_C_writeDecimal_L39 w_f w_n a0 (fun y0 y1 y2 y3 => f_C_writeDecimal_L25 w_f w_n a0  n y0 y1 y2 y3) x2 x3 y_f y_n) else (if x3 = 1 then (f_C_writeDecimal_L39 w_f w_n a0 (fun y0 y1 y2 y3 => f_C_writeDecimal_L25 w_f w_n a0  n y0 y1 y2 y3) x2 x3 y_f y_n) else (f_C_writeDecimal_L25 w_f w_n a0  n x2 (x3 / 10) y_f y_n)))
def f_C_writeDecimal_L10 (w_f : Nat → Int32) (w_n : Int32) (a0 : Int32)  (y_f : (Nat → Int32)) (y_n : Int32) : Option ((Nat → Int32) × Int32) :=
  if 0 ≤ a0 then (f_C_writeDecimal_L25 w_f w_n a0  40 a0 1000 y_f y_n) else (f_C_writeDecimal_L25 w_f w_n a0  40 (-a0) 1000 y_f y_n)
def f_C_writeDecimal (w_f : Nat → Int32) (w_n : Int32) (a0 : Int32) : Option ((Nat → Int32) × Int32) :=
  if 0 ≤ a0 then (f_C_writeDecimal_L10 w_f w_n a0  w_f w_n) else ((f_C_write w_f w_n 45).bind fun r_9 => f_C_writeDecimal_L10 w_f w_n a0  r_9.1 r_9.2)
set_option maxHeartbeats 1000000 in
set_option maxRecDepth 100000 in
theorem c_C_writeDecimal (l : Launch) {ad sk sv : Nat → Nat} {tK : Nat} (dC : Nat → ClassId) (dI : Nat → Nat → Nat) (cA : ClassId) (h0 o : Nat) (w_f : Nat → Int32) (w_n : Int32) (a0 : Int32)  (r : (Nat → Int32) × Int32) (hf : f_C_writeDecimal w_f w_n a0 = some r) : Met l y_C_writeDecimal (Cond.code y_C_writeDecimal b_C_writeDecimal 4 (Option.none : Option FieldType) :: aw) ({ frames := 1, cells := 0, slots := 0, locals := 21 } : Room) (va_Pc [.ref (h0), .int (a0)] (fun U => va_P (dC, dI) cls2 (wC cA h0 o w_f w_n) U.heap ∧ va_K (dC, dI) cls2 [(cA, .char)] U ∧ va_D (aC h0 o) (wC cA h0 o w_f w_n) ∧ tb ad sk sv tK (aC h0 o) U U.heap)) (va_Qv (fun u => u = r) (fun (u : (Nat → Int32) × Int32) t => va_P (dC, dI) cls2 (wC cA h0 o u.1 u.2) t.heap) (aC h0 o)) 0 0 (aC h0 o) := by
  refine Met.ofW (cc := b_C_writeDecimal) (maxL := 4) (ret := (Option.none : Option FieldType)) (by decide) rfl ?_
  intro p e s m args below meth c s₁ B hml hv
  obtain ⟨rfl, hP, hK, hD, hT⟩ := hv
  have hD0 := hD
  have hx := B.exec
  have hb := B.bytes
  have hr := B.returns
  have hts := atoms_spec (ws := (Cond.code y_C_writeDecimal b_C_writeDecimal 4 (Option.none : Option FieldType) :: aw)) B.pre
  have ht : ∀ {w : Cond}, w ∈ aw → w.before ([.ref (h0), .int (a0)] : List Value).toArray s = true := fun h => hts _ (List.mem_cons_of_mem _ h)
  have hown : s.vm.findClass "CodeWords" = some m.cls := findClass_of_methodNamed B.named
  have hlocks := B.notSynchronized
  have hS : va_S (aC h0 o) s.heap s.heap [] := va_S.rf
  have hl := lv_entry ([.ref (h0), .int (a0)]) (n := 4) (Nat.le_of_ble_eq_true rfl)
  rw [lg_entry_eq]
  generalize (lg_sl ([.ref (h0), .int (a0)]) ++ List.replicate (4 - (lg_sl ([.ref (h0), .int (a0)])).length) Slot.unset).toArray = ls at hl ⊢
  have hl : lv_has ls 4 [(0, .ref (h0)), (1, .int (a0))] := hl
  have J25 : ∀ (n : Nat) (x2 : Int32) (x3 : Int32) (y_f : (Nat → Int32)) (y_n : Int32) (H : Heap) (locs : List Loc) (ls : Array Slot), va_P (dC, dI) cls2 (wC cA h0 o y_f y_n) H → va_S (aC h0 o) s.heap H locs → lv_has ls 4 [(0, .ref (h0)), (1, .int (a0)), (2, .int (x2)), (3, .int (x3))] → f_C_writeDecimal_L25 w_f w_n a0  n x2 x3 y_f y_n = some r → wW p l e (headSpec (Cond.code y_C_writeDecimal b_C_writeDecimal 4 (Option.none : Option FieldType) :: aw) ({ frames := 1, cells := 0, slots := 0, locals := 21 } : Room)).room s m ([.ref (h0), .int (a0)] : List Value).toArray below meth c (va_Qv (fun u => u = r) (fun (u : (Nat → Int32) × Int32) t => va_P (dC, dI) cls2 (wC cA h0 o u.1 u.2) t.heap) (aC h0 o)) (aC h0 o) H locs (F0 m 25 ls []) := by
    intro n
    induction n with
    | zero =>
      intro x2 x3 y_f y_n H locs ls hP hS hl hf
      rw [f_C_writeDecimal_L25] at hf
      cases hf
    | succ n ih =>
      intro x2 x3 y_f y_n H locs ls hP hS hl hf
      rw [f_C_writeDecimal_L25] at hf
      have hD : va_D (aC h0 o) (wC cA h0 o y_f y_n) := dD hD0 rfl
      have J39 : ∀ (x2 : Int32) (x3 : Int32) (y_f : (Nat → Int32)) (y_n : Int32) (H : Heap) (locs : List Loc) (ls : Array Slot), va_P (dC, dI) cls2 (wC cA h0 o y_f y_n) H → va_S (aC h0 o) s.heap H locs → lv_has ls 4 [(0, .ref (h0)), (1, .int (a0)), (2, .int (x2)), (3, .int (x3))] → f_C_writeDecimal_L39 w_f w_n a0 (fun y0 y1 y2 y3 => f_C_writeDecimal_L25 w_f w_n a0  n y0 y1 y2 y3) x2 x3 y_f y_n = some r → wW p l e (headSpec (Cond.code y_C_writeDecimal b_C_writeDecimal 4 (Option.none : Option FieldType) :: aw) ({ frames := 1, cells := 0, slots := 0, locals := 21 } : Room)).room s m ([.ref (h0), .int (a0)] : List Value).toArray below meth c (va_Qv (fun u => u = r) (fun (u : (Nat → Int32) × Int32) t => va_P (dC, dI) cls2 (wC cA h0 o u.1 u.2) t.heap) (aC h0 o)) (aC h0 o) H locs (F0 m 39 ls []) := by
        intro x2 x3 y_f y_n H locs ls hP hS hl hf
        rw [f_C_writeDecimal_L39] at hf
        have hD : va_D (aC h0 o) (wC cA h0 o y_f y_n) := dD hD0 rfl
        refine lv_aload_n hx hb d_C_writeDecimal_39 rfl (lv_at hl 0 rfl) ?_
        refine lv_bipush (v := 48) hx hb d_C_writeDecimal_40 (by decide) ?_
        refine lv_iload_n hx hb d_C_writeDecimal_42 rfl (lv_at hl 2 rfl) ?_
        refine lv_iload_n hx hb d_C_writeDecimal_43 rfl (lv_at hl 3 rfl) ?_
        obtain ⟨z_5, hf⟩ := ju_gd hf
        refine lv_idiv hx hb d_C_writeDecimal_44 z_5 ?_
        refine lv_bipush (v := 10) hx hb d_C_writeDecimal_45 (by decide) ?_
        refine lv_irem hx hb d_C_writeDecimal_47 (by decide) ?_
        refine lv_iadd hx hb d_C_writeDecimal_48 ?_
        refine lv_i2c (v := ju_i2c (48 + ((x2 / x3) - (x2 / x3) / 10 * 10))) hx hb d_C_writeDecimal_49 rfl ?_
        obtain ⟨r_6, g_7, hf⟩ := Option.bind_eq_some_iff.mp hf
        refine va_callv (va_runV (As := [.int (ju_i2c (48 + ((x2 / x3) - (x2 / x3) / 10 * 10)))]) (rest := []) ⟨hx, hb, hml, hown, hts⟩ (c_C_write l (ad := ad) (sk := sk) (sv := sv) (tK := tK) dC dI cA h0 o y_f y_n (ju_i2c (48 + ((x2 / x3) - (x2 / x3) / 10 * 10)))  r_6 g_7) (cwV 1 hts (aw_V aw_198 aw_200 aw_p8 aw_1 aw_201) rfl rfl rfl (by decide +kernel) ⟨Nat.le_of_ble_eq_true rfl, Nat.le_of_ble_eq_true rfl⟩) ⟨wBlind, va_recv hK hP (ci := 0) (q0 := 0) rfl rfl, fun U hU hW => ⟨rfl, by rw [hU]; exact hP, va_K.moved hW.alike hK, hD, hT.at hS hU hW (fun _ z => z)⟩⟩ rfl rfl hl.1 rfl (lv_room (Nat.le_of_ble_eq_true rfl)) d_C_writeDecimal_50 ⟨Nat.le_refl _, Nat.le_refl _⟩) hS (fun _ _ h => h) (fun _ h => h) (fun u t H1 locs ht1 hvm hw hB hz1 hk1 hS => ?_)
        rw [hw] at hB
        rw [ht1] at hB
        have hP : va_P (dC, dI) cls2 (wC cA h0 o r_6.1 r_6.2) H1 := hB
        have hD : va_D (aC h0 o) (wC cA h0 o r_6.1 r_6.2) := dD hD0 rfl
        refine lv_iload_n hx hb d_C_writeDecimal_53 rfl (lv_at hl 3 rfl) ?_
        refine lv_bipush (v := 10) hx hb d_C_writeDecimal_54 (by decide) ?_
        refine lv_idiv hx hb d_C_writeDecimal_56 (by decide) ?_
        refine lv_istore_n (lv' := [(3, .int (x3 / 10)), (0, .ref (h0)), (1, .int (a0)), (2, .int (x2))]) hx hb d_C_writeDecimal_57 rfl hl (by decide) rfl (fun ls hl => ?_)
        refine lv_goto (tgt := 25) hx hb d_C_writeDecimal_58 (by decide) ?_
        exact ih x2 (x3 / 10) r_6.1 r_6.2 _ _ _ hP hS (lv_sub hl [1, 2, 3, 0] rfl) hf
      refine lv_iload_n hx hb d_C_writeDecimal_25 rfl (lv_at hl 3 rfl) ?_
      refine lv_if_le (tgt := 61) hx hb d_C_writeDecimal_26 (by decide) (fun c_3 => ?_) (fun c_3 => ?_)
      · replace hf := (if_pos c_3).symm.trans hf
        exact W.vret hx hb hr (fun t ht hW => ⟨⟨(y_f, y_n), rfl, Option.some.inj hf, by rw [← ht] at hP; exact hP⟩, hS.F ht⟩) hS.2.2 d_C_writeDecimal_61
      · replace hf := (if_neg c_3).symm.trans hf
        refine lv_iload_n hx hb d_C_writeDecimal_29 rfl (lv_at hl 2 rfl) ?_
        refine lv_iload_n hx hb d_C_writeDecimal_30 rfl (lv_at hl 3 rfl) ?_
        refine lv_icmp_ge (tgt := 39) hx hb d_C_writeDecimal_31 (by decide) (fun c_4 => ?_) (fun c_4 => ?_)
        · replace hf := (if_pos c_4).symm.trans hf
          exact J39 x2 x3 y_f y_n _ _ _ hP hS (lv_sub hl [0, 1, 2, 3] rfl) hf
        · replace hf := (if_neg c_4).symm.trans hf
          refine lv_iload_n hx hb d_C_writeDecimal_34 rfl (lv_at hl 3 rfl) ?_
          refine lv_iconst (v := 1) hx hb d_C_writeDecimal_35 (by decide) ?_
          refine lv_icmp_ne (tgt := 53) hx hb d_C_writeDecimal_36 (by decide) (fun c_8 => ?_) (fun c_8 => ?_)
          · replace hf := (if_neg c_8).symm.trans hf
            refine lv_iload_n hx hb d_C_writeDecimal_53 rfl (lv_at hl 3 rfl) ?_
            refine lv_bipush (v := 10) hx hb d_C_writeDecimal_54 (by decide) ?_
            refine lv_idiv hx hb d_C_writeDecimal_56 (by decide) ?_
            refine lv_istore_n (lv' := [(3, .int (x3 / 10)), (0, .ref (h0)), (1, .int (a0)), (2, .int (x2))]) hx hb d_C_writeDecimal_57 rfl hl (by decide) rfl (fun ls hl => ?_)
            refine lv_goto (tgt := 25) hx hb d_C_writeDecimal_58 (by decide) ?_
            exact ih x2 (x3 / 10) y_f y_n _ _ _ hP hS (lv_sub hl [1, 2, 3, 0] rfl) hf
          · replace hf := (if_pos c_8).symm.trans hf
            exact J39 x2 x3 y_f y_n _ _ _ hP hS (lv_sub hl [0, 1, 2, 3] rfl) hf
  have J10 : ∀ (y_f : (Nat → Int32)) (y_n : Int32) (H : Heap) (locs : List Loc) (ls : Array Slot), va_P (dC, dI) cls2 (wC cA h0 o y_f y_n) H → va_S (aC h0 o) s.heap H locs → lv_has ls 4 [(0, .ref (h0)), (1, .int (a0))] → f_C_writeDecimal_L10 w_f w_n a0  y_f y_n = some r → wW p l e (headSpec (Cond.code y_C_writeDecimal b_C_writeDecimal 4 (Option.none : Option FieldType) :: aw) ({ frames := 1, cells := 0, slots := 0, locals := 21 } : Room)).room s m ([.ref (h0), .int (a0)] : List Value).toArray below meth c (va_Qv (fun u => u = r) (fun (u : (Nat → Int32) × Int32) t => va_P (dC, dI) cls2 (wC cA h0 o u.1 u.2) t.heap) (aC h0 o)) (aC h0 o) H locs (F0 m 10 ls []) := by
    intro y_f y_n H locs ls hP hS hl hf
    rw [f_C_writeDecimal_L10] at hf
    have hD : va_D (aC h0 o) (wC cA h0 o y_f y_n) := dD hD0 rfl
    refine lv_iload_n hx hb d_C_writeDecimal_10 rfl (lv_at hl 1 rfl) ?_
    refine lv_if_ge (tgt := 19) hx hb d_C_writeDecimal_11 (by decide) (fun c_2 => ?_) (fun c_2 => ?_)
    · replace hf := (if_pos c_2).symm.trans hf
      refine lv_iload_n hx hb d_C_writeDecimal_19 rfl (lv_at hl 1 rfl) ?_
      refine lv_istore_n (lv' := [(2, .int (a0)), (0, .ref (h0)), (1, .int (a0))]) hx hb d_C_writeDecimal_20 rfl hl (by decide) rfl (fun ls hl => ?_)
      refine lv_sipush (v := 1000) hx hb d_C_writeDecimal_21 (by decide) ?_
      refine lv_istore_n (lv' := [(3, .int (1000)), (2, .int (a0)), (0, .ref (h0)), (1, .int (a0))]) hx hb d_C_writeDecimal_24 rfl hl (by decide) rfl (fun ls hl => ?_)
      exact J25 40 a0 1000 y_f y_n _ _ _ hP hS (lv_sub hl [2, 3, 1, 0] rfl) hf
    · replace hf := (if_neg c_2).symm.trans hf
      refine lv_iload_n hx hb d_C_writeDecimal_14 rfl (lv_at hl 1 rfl) ?_
      refine lv_ineg hx hb d_C_writeDecimal_15 ?_
      refine lv_goto (tgt := 20) hx hb d_C_writeDecimal_16 (by decide) ?_
      refine lv_istore_n (lv' := [(2, .int (-a0)), (0, .ref (h0)), (1, .int (a0))]) hx hb d_C_writeDecimal_20 rfl hl (by decide) rfl (fun ls hl => ?_)
      refine lv_sipush (v := 1000) hx hb d_C_writeDecimal_21 (by decide) ?_
      refine lv_istore_n (lv' := [(3, .int (1000)), (2, .int (-a0)), (0, .ref (h0)), (1, .int (a0))]) hx hb d_C_writeDecimal_24 rfl hl (by decide) rfl (fun ls hl => ?_)
      exact J25 40 (-a0) 1000 y_f y_n _ _ _ hP hS (lv_sub hl [2, 3, 1, 0] rfl) hf
  rw [f_C_writeDecimal] at hf
  refine lv_iload_n hx hb d_C_writeDecimal_0 rfl (lv_at hl 1 rfl) ?_
  refine lv_if_ge (tgt := 10) hx hb d_C_writeDecimal_1 (by decide) (fun c_1 => ?_) (fun c_1 => ?_)
  · replace hf := (if_pos c_1).symm.trans hf
    exact J10 w_f w_n _ _ _ hP hS (lv_sub hl [0, 1] rfl) hf
  · replace hf := (if_neg c_1).symm.trans hf
    refine lv_aload_n hx hb d_C_writeDecimal_4 rfl (lv_at hl 0 rfl) ?_
    refine lv_bipush (v := 45) hx hb d_C_writeDecimal_5 (by decide) ?_
    obtain ⟨r_9, g_10, hf⟩ := Option.bind_eq_some_iff.mp hf
    refine va_callv (va_runV (As := [.int (45)]) (rest := []) ⟨hx, hb, hml, hown, hts⟩ (c_C_write l (ad := ad) (sk := sk) (sv := sv) (tK := tK) dC dI cA h0 o w_f w_n 45  r_9 g_10) (cwV 1 hts (aw_V aw_198 aw_200 aw_p8 aw_1 aw_201) rfl rfl rfl (by decide +kernel) ⟨Nat.le_of_ble_eq_true rfl, Nat.le_of_ble_eq_true rfl⟩) ⟨wBlind, va_recv hK hP (ci := 0) (q0 := 0) rfl rfl, fun U hU hW => ⟨rfl, by rw [hU]; exact hP, va_K.moved hW.alike hK, hD, hT.at hS hU hW (fun _ z => z)⟩⟩ rfl rfl hl.1 rfl (lv_room (Nat.le_of_ble_eq_true rfl)) d_C_writeDecimal_7 ⟨Nat.le_refl _, Nat.le_refl _⟩) hS (fun _ _ h => h) (fun _ h => h) (fun u t H1 locs ht1 hvm hw hB hz1 hk1 hS => ?_)
    rw [hw] at hB
    rw [ht1] at hB
    have hP : va_P (dC, dI) cls2 (wC cA h0 o r_9.1 r_9.2) H1 := hB
    have hD : va_D (aC h0 o) (wC cA h0 o r_9.1 r_9.2) := dD hD0 rfl
    exact J10 r_9.1 r_9.2 _ _ _ hP hS (lv_sub hl [0, 1] rfl) hf

def f_C_writeRegister_L6 (w_f : Nat → Int32) (w_n : Int32) (a0 : Int32)  : Nat → Int32 → Int32 → (Nat → Int32) → Int32 → Option ((Nat → Int32) × Int32)
  | 0, _, _, _, _ => none
  | n + 1, x2, x3, y_f, y_n =>
    if (x2 + 4) ≤ x3 then (some (y_f, y_n)) else (if x3 < 0 then (f_C_writeRegister_L6 w_f w_n a0  n x2 (x3 + 1) y_f y_n) else ((f_S_length 6).bind fun r_3 => if r_3 ≤ x3 then (f_C_writeRegister_L6 w_f w_n a0  n x2 (x3 + 1) y_f y_n) else ((f_S_charAt 6 x3).bind fun r_6 => if r_6 = 32 then (f_C_writeRegister_L6 w_f w_n a0  n x2 (x3 + 1) y_f y_n) else ((f_S_charAt 6 x3).bind fun r_9 => (f_C_write y_f y_n r_9).bind fun r_11 => f_C_writeRegister_L6 w_f w_n a0  n x2 (x3 + 1) r_11.1 r_11.2))))
def f_C_writeRegister (w_f : Nat → Int32) (w_n : Int32) (a0 : Int32) : Option ((Nat → Int32) × Int32) :=
  f_C_writeRegister_L6 w_f w_n a0  40 (a0 * 4) (a0 * 4) w_f w_n
set_option maxHeartbeats 1000000 in
set_option maxRecDepth 100000 in
theorem c_C_writeRegister (l : Launch) {ad sk sv : Nat → Nat} {tK : Nat} (dC : Nat → ClassId) (dI : Nat → Nat → Nat) (cA : ClassId) (h0 o : Nat) (w_f : Nat → Int32) (w_n : Int32) (a0 : Int32)  (r : (Nat → Int32) × Int32) (hf : f_C_writeRegister w_f w_n a0 = some r) : Met l y_C_writeRegister (Cond.code y_C_writeRegister b_C_writeRegister 4 (Option.none : Option FieldType) :: aw) ({ frames := 4, cells := 0, slots := 0, locals := 85 } : Room) (va_Pc [.ref (h0), .int (a0)] (fun U => va_P (dC, dI) cls2 (wC cA h0 o w_f w_n) U.heap ∧ va_K (dC, dI) cls2 [(cA, .char)] U ∧ va_D (aC h0 o) (wC cA h0 o w_f w_n) ∧ tb ad sk sv tK (aC h0 o) U U.heap)) (va_Qv (fun u => u = r) (fun (u : (Nat → Int32) × Int32) t => va_P (dC, dI) cls2 (wC cA h0 o u.1 u.2) t.heap) (aC h0 o)) 0 0 (aC h0 o) := by
  refine Met.ofW (cc := b_C_writeRegister) (maxL := 4) (ret := (Option.none : Option FieldType)) (by decide) rfl ?_
  intro p e s m args below meth c s₁ B hml hv
  obtain ⟨rfl, hP, hK, hD, hT⟩ := hv
  have hD0 := hD
  have hx := B.exec
  have hb := B.bytes
  have hr := B.returns
  have hts := atoms_spec (ws := (Cond.code y_C_writeRegister b_C_writeRegister 4 (Option.none : Option FieldType) :: aw)) B.pre
  have ht : ∀ {w : Cond}, w ∈ aw → w.before ([.ref (h0), .int (a0)] : List Value).toArray s = true := fun h => hts _ (List.mem_cons_of_mem _ h)
  have hown : s.vm.findClass "CodeWords" = some m.cls := findClass_of_methodNamed B.named
  have hlocks := B.notSynchronized
  have hS : va_S (aC h0 o) s.heap s.heap [] := va_S.rf
  have hl := lv_entry ([.ref (h0), .int (a0)]) (n := 4) (Nat.le_of_ble_eq_true rfl)
  rw [lg_entry_eq]
  generalize (lg_sl ([.ref (h0), .int (a0)]) ++ List.replicate (4 - (lg_sl ([.ref (h0), .int (a0)])).length) Slot.unset).toArray = ls at hl ⊢
  have hl : lv_has ls 4 [(0, .ref (h0)), (1, .int (a0))] := hl
  have J6 : ∀ (n : Nat) (x2 : Int32) (x3 : Int32) (y_f : (Nat → Int32)) (y_n : Int32) (H : Heap) (locs : List Loc) (ls : Array Slot), va_P (dC, dI) cls2 (wC cA h0 o y_f y_n) H → va_S (aC h0 o) s.heap H locs → lv_has ls 4 [(0, .ref (h0)), (1, .int (a0)), (2, .int (x2)), (3, .int (x3))] → f_C_writeRegister_L6 w_f w_n a0  n x2 x3 y_f y_n = some r → wW p l e (headSpec (Cond.code y_C_writeRegister b_C_writeRegister 4 (Option.none : Option FieldType) :: aw) ({ frames := 4, cells := 0, slots := 0, locals := 85 } : Room)).room s m ([.ref (h0), .int (a0)] : List Value).toArray below meth c (va_Qv (fun u => u = r) (fun (u : (Nat → Int32) × Int32) t => va_P (dC, dI) cls2 (wC cA h0 o u.1 u.2) t.heap) (aC h0 o)) (aC h0 o) H locs (F0 m 6 ls []) := by
    intro n
    induction n with
    | zero =>
      intro x2 x3 y_f y_n H locs ls hP hS hl hf
      rw [f_C_writeRegister_L6] at hf
      cases hf
    | succ n ih =>
      intro x2 x3 y_f y_n H locs ls hP hS hl hf
      rw [f_C_writeRegister_L6] at hf
      have hD : va_D (aC h0 o) (wC cA h0 o y_f y_n) := dD hD0 rfl
      refine lv_iload_n hx hb d_C_writeRegister_6 rfl (lv_at hl 3 rfl) ?_
      refine lv_iload_n hx hb d_C_writeRegister_7 rfl (lv_at hl 2 rfl) ?_
      refine lv_iconst (v := 4) hx hb d_C_writeRegister_8 (by decide) ?_
      refine lv_iadd hx hb d_C_writeRegister_9 ?_
      refine lv_icmp_ge (tgt := 53) hx hb d_C_writeRegister_10 (by decide) (fun c_1 => ?_) (fun c_1 => ?_)
      · replace hf := (if_pos c_1).symm.trans hf
        exact W.vret hx hb hr (fun t ht hW => ⟨⟨(y_f, y_n), rfl, Option.some.inj hf, by rw [← ht] at hP; exact hP⟩, hS.F ht⟩) hS.2.2 d_C_writeRegister_53
      · replace hf := (if_neg c_1).symm.trans hf
        refine lv_iload_n hx hb d_C_writeRegister_13 rfl (lv_at hl 3 rfl) ?_
        refine lv_if_lt (tgt := 47) hx hb d_C_writeRegister_14 (by decide) (fun c_2 => ?_) (fun c_2 => ?_)
        · replace hf := (if_pos c_2).symm.trans hf
          refine lv_iinc (v := x3 + 1) (lv' := [(3, .int (x3 + 1)), (0, .ref (h0)), (1, .int (a0)), (2, .int (x2))]) hx hb d_C_writeRegister_47 hl (k := 3) rfl rfl (by decide) rfl (fun ls hl => ?_)
          refine lv_goto (tgt := 6) hx hb d_C_writeRegister_50 (by decide) ?_
          exact ih x2 (x3 + 1) y_f y_n _ _ _ hP hS (lv_sub hl [1, 2, 3, 0] rfl) hf
        · replace hf := (if_neg c_2).symm.trans hf
          refine lv_iload_n hx hb d_C_writeRegister_17 rfl (lv_at hl 3 rfl) ?_
          refine va_ldcS hx hb hown (tb_r176 hT) d_C_writeRegister_18 ?_
          obtain ⟨r_3, g_4, hf⟩ := Option.bind_eq_some_iff.mp hf
          refine ju_calli (W.runV (As := []) (rest := [.int (x3)]) ⟨hx, hb, hml, hown, hts⟩ (c_S_length l (ad := ad) (sk := sk) (sv := sv) (tK := tK)  6 (by decide) r_3 g_4) (cwV 0 hts (aw_V aw_174 aw_62 aw_63 aw_7 aw_64) rfl rfl rfl (by decide +kernel) ⟨Nat.le_of_ble_eq_true rfl, Nat.le_of_ble_eq_true rfl⟩) ⟨fun a U g mk q => ⟨q.1, q.2.call⟩, tb_recvS hT (by decide) hS, fun U hU hW => ⟨rfl, hT.at hS hU hW (fun _ z => z.elim)⟩⟩ rfl rfl hl.1 rfl (lv_room (Nat.le_of_ble_eq_true rfl)) d_C_writeRegister_20 ⟨Nat.le_refl _, Nat.le_refl _⟩) ?_
          refine lv_icmp_ge (tgt := 47) hx hb d_C_writeRegister_23 (by decide) (fun c_5 => ?_) (fun c_5 => ?_)
          · replace hf := (if_pos c_5).symm.trans hf
            refine lv_iinc (v := x3 + 1) (lv' := [(3, .int (x3 + 1)), (0, .ref (h0)), (1, .int (a0)), (2, .int (x2))]) hx hb d_C_writeRegister_47 hl (k := 3) rfl rfl (by decide) rfl (fun ls hl => ?_)
            refine lv_goto (tgt := 6) hx hb d_C_writeRegister_50 (by decide) ?_
            exact ih x2 (x3 + 1) y_f y_n _ _ _ hP hS (lv_sub hl [1, 2, 3, 0] rfl) hf
          · replace hf := (if_neg c_5).symm.trans hf
            refine va_ldcS hx hb hown (tb_r176 hT) d_C_writeRegister_26 ?_
            refine lv_iload_n hx hb d_C_writeRegister_28 rfl (lv_at hl 3 rfl) ?_
            obtain ⟨r_6, g_7, hf⟩ := Option.bind_eq_some_iff.mp hf
            refine ju_calli (W.runV (As := [.int (x3)]) (rest := []) ⟨hx, hb, hml, hown, hts⟩ (c_S_charAt l (ad := ad) (sk := sk) (sv := sv) (tK := tK)  6 x3 (by decide) r_6 g_7) (cwV 1 hts (aw_V aw_175 aw_72 aw_73 aw_7 aw_74) rfl rfl rfl (by decide +kernel) ⟨Nat.le_of_ble_eq_true rfl, Nat.le_of_ble_eq_true rfl⟩) ⟨fun a U g mk q => ⟨q.1, q.2.call⟩, tb_recvS hT (by decide) hS, fun U hU hW => ⟨rfl, hT.at hS hU hW (fun _ z => z.elim)⟩⟩ rfl rfl hl.1 rfl (lv_room (Nat.le_of_ble_eq_true rfl)) d_C_writeRegister_29 ⟨Nat.le_refl _, Nat.le_refl _⟩) ?_
            refine lv_bipush (v := 32) hx hb d_C_writeRegister_32 (by decide) ?_
            refine lv_icmp_eq (tgt := 47) hx hb d_C_writeRegister_34 (by decide) (fun c_8 => ?_) (fun c_8 => ?_)
            · replace hf := (if_pos c_8).symm.trans hf
              refine lv_iinc (v := x3 + 1) (lv' := [(3, .int (x3 + 1)), (0, .ref (h0)), (1, .int (a0)), (2, .int (x2))]) hx hb d_C_writeRegister_47 hl (k := 3) rfl rfl (by decide) rfl (fun ls hl => ?_)
              refine lv_goto (tgt := 6) hx hb d_C_writeRegister_50 (by decide) ?_
              exact ih x2 (x3 + 1) y_f y_n _ _ _ hP hS (lv_sub hl [1, 2, 3, 0] rfl) hf
            · replace hf := (if_neg c_8).symm.trans hf
              refine lv_aload_n hx hb d_C_writeRegister_37 rfl (lv_at hl 0 rfl) ?_
              refine va_ldcS hx hb hown (tb_r176 hT) d_C_writeRegister_38 ?_
              refine lv_iload_n hx hb d_C_writeRegister_40 rfl (lv_at hl 3 rfl) ?_
              obtain ⟨r_9, g_10, hf⟩ := Option.bind_eq_some_iff.mp hf
              refine ju_calli (W.runV (As := [.int (x3)]) (rest := [.ref (h0)]) ⟨hx, hb, hml, hown, hts⟩ (c_S_charAt l (ad := ad) (sk := sk) (sv := sv) (tK := tK)  6 x3 (by decide) r_9 g_10) (cwV 1 hts (aw_V aw_175 aw_72 aw_73 aw_7 aw_74) rfl rfl rfl (by decide +kernel) ⟨Nat.le_of_ble_eq_true rfl, Nat.le_of_ble_eq_true rfl⟩) ⟨fun a U g mk q => ⟨q.1, q.2.call⟩, tb_recvS hT (by decide) hS, fun U hU hW => ⟨rfl, hT.at hS hU hW (fun _ z => z.elim)⟩⟩ rfl rfl hl.1 rfl (lv_room (Nat.le_of_ble_eq_true rfl)) d_C_writeRegister_41 ⟨Nat.le_refl _, Nat.le_refl _⟩) ?_
              obtain ⟨r_11, g_12, hf⟩ := Option.bind_eq_some_iff.mp hf
              refine va_callv (va_runV (As := [.int (r_9)]) (rest := []) ⟨hx, hb, hml, hown, hts⟩ (c_C_write l (ad := ad) (sk := sk) (sv := sv) (tK := tK) dC dI cA h0 o y_f y_n r_9  r_11 g_12) (cwV 1 hts (aw_V aw_198 aw_200 aw_p8 aw_1 aw_201) rfl rfl rfl (by decide +kernel) ⟨Nat.le_of_ble_eq_true rfl, Nat.le_of_ble_eq_true rfl⟩) ⟨wBlind, va_recv hK hP (ci := 0) (q0 := 0) rfl rfl, fun U hU hW => ⟨rfl, by rw [hU]; exact hP, va_K.moved hW.alike hK, hD, hT.at hS hU hW (fun _ z => z)⟩⟩ rfl rfl hl.1 rfl (lv_room (Nat.le_of_ble_eq_true rfl)) d_C_writeRegister_44 ⟨Nat.le_refl _, Nat.le_refl _⟩) hS (fun _ _ h => h) (fun _ h => h) (fun u t H1 locs ht1 hvm hw hB hz1 hk1 hS => ?_)
              rw [hw] at hB
              rw [ht1] at hB
              have hP : va_P (dC, dI) cls2 (wC cA h0 o r_11.1 r_11.2) H1 := hB
              have hD : va_D (aC h0 o) (wC cA h0 o r_11.1 r_11.2) := dD hD0 rfl
              refine lv_iinc (v := x3 + 1) (lv' := [(3, .int (x3 + 1)), (0, .ref (h0)), (1, .int (a0)), (2, .int (x2))]) hx hb d_C_writeRegister_47 hl (k := 3) rfl rfl (by decide) rfl (fun ls hl => ?_)
              refine lv_goto (tgt := 6) hx hb d_C_writeRegister_50 (by decide) ?_
              exact ih x2 (x3 + 1) r_11.1 r_11.2 _ _ _ hP hS (lv_sub hl [1, 2, 3, 0] rfl) hf
  rw [f_C_writeRegister] at hf
  refine lv_iload_n hx hb d_C_writeRegister_0 rfl (lv_at hl 1 rfl) ?_
  refine lv_iconst (v := 4) hx hb d_C_writeRegister_1 (by decide) ?_
  refine lv_imul hx hb d_C_writeRegister_2 ?_
  refine lv_istore_n (lv' := [(2, .int (a0 * 4)), (0, .ref (h0)), (1, .int (a0))]) hx hb d_C_writeRegister_3 rfl hl (by decide) rfl (fun ls hl => ?_)
  refine lv_iload_n hx hb d_C_writeRegister_4 rfl (lv_at hl 0 rfl) ?_
  refine lv_istore_n (lv' := [(3, .int (a0 * 4)), (2, .int (a0 * 4)), (0, .ref (h0)), (1, .int (a0))]) hx hb d_C_writeRegister_5 rfl hl (by decide) rfl (fun ls hl => ?_)
  exact J6 40 (a0 * 4) (a0 * 4) w_f w_n _ _ _ hP hS (lv_sub hl [2, 3, 1, 0] rfl) hf

def f_C_writeOffset (w_f : Nat → Int32) (w_n : Int32) (a0 : Int32) (a1 : Int32) : Option ((Nat → Int32) × Int32) :=
  (f_C_writeDecimal w_f w_n a0).bind fun r_1 => (f_C_write r_1.1 r_1.2 40).bind fun r_3 => (f_C_writeRegister r_3.1 r_3.2 a1).bind fun r_5 => (f_C_write r_5.1 r_5.2 41).bind fun r_7 => some (r_7.1, r_7.2)
set_option maxHeartbeats 1000000 in
set_option maxRecDepth 100000 in
theorem c_C_writeOffset (l : Launch) {ad sk sv : Nat → Nat} {tK : Nat} (dC : Nat → ClassId) (dI : Nat → Nat → Nat) (cA : ClassId) (h0 o : Nat) (w_f : Nat → Int32) (w_n : Int32) (a0 : Int32) (a1 : Int32)  (r : (Nat → Int32) × Int32) (hf : f_C_writeOffset w_f w_n a0 a1 = some r) : Met l y_C_writeOffset (Cond.code y_C_writeOffset b_C_writeOffset 3 (Option.none : Option FieldType) :: aw) ({ frames := 5, cells := 0, slots := 0, locals := 108 } : Room) (va_Pc [.ref (h0), .int (a0), .int (a1)] (fun U => va_P (dC, dI) cls2 (wC cA h0 o w_f w_n) U.heap ∧ va_K (dC, dI) cls2 [(cA, .char)] U ∧ va_D (aC h0 o) (wC cA h0 o w_f w_n) ∧ tb ad sk sv tK (aC h0 o) U U.heap)) (va_Qv (fun u => u = r) (fun (u : (Nat → Int32) × Int32) t => va_P (dC, dI) cls2 (wC cA h0 o u.1 u.2) t.heap) (aC h0 o)) 0 0 (aC h0 o) := by
  refine Met.ofW (cc := b_C_writeOffset) (maxL := 3) (ret := (Option.none : Option FieldType)) (by decide) rfl ?_
  intro p e s m args below meth c s₁ B hml hv
  obtain ⟨rfl, hP, hK, hD, hT⟩ := hv
  have hD0 := hD
  have hx := B.exec
  have hb := B.bytes
  have hr := B.returns
  have hts := atoms_spec (ws := (Cond.code y_C_writeOffset b_C_writeOffset 3 (Option.none : Option FieldType) :: aw)) B.pre
  have ht : ∀ {w : Cond}, w ∈ aw → w.before ([.ref (h0), .int (a0), .int (a1)] : List Value).toArray s = true := fun h => hts _ (List.mem_cons_of_mem _ h)
  have hown : s.vm.findClass "CodeWords" = some m.cls := findClass_of_methodNamed B.named
  have hlocks := B.notSynchronized
  have hS : va_S (aC h0 o) s.heap s.heap [] := va_S.rf
  have hl := lv_entry ([.ref (h0), .int (a0), .int (a1)]) (n := 3) (Nat.le_of_ble_eq_true rfl)
  rw [lg_entry_eq]
  generalize (lg_sl ([.ref (h0), .int (a0), .int (a1)]) ++ List.replicate (3 - (lg_sl ([.ref (h0), .int (a0), .int (a1)])).length) Slot.unset).toArray = ls at hl ⊢
  have hl : lv_has ls 3 [(0, .ref (h0)), (1, .int (a0)), (2, .int (a1))] := hl
  rw [f_C_writeOffset] at hf
  refine lv_aload_n hx hb d_C_writeOffset_0 rfl (lv_at hl 0 rfl) ?_
  refine lv_iload_n hx hb d_C_writeOffset_1 rfl (lv_at hl 1 rfl) ?_
  obtain ⟨r_1, g_2, hf⟩ := Option.bind_eq_some_iff.mp hf
  refine va_callv (va_runV (As := [.int (a0)]) (rest := []) ⟨hx, hb, hml, hown, hts⟩ (c_C_writeDecimal l (ad := ad) (sk := sk) (sv := sv) (tK := tK) dC dI cA h0 o w_f w_n a0  r_1 g_2) (cwV 1 hts (aw_V aw_228 aw_230 aw_p13 aw_1 aw_231) rfl rfl rfl (by decide +kernel) ⟨Nat.le_of_ble_eq_true rfl, Nat.le_of_ble_eq_true rfl⟩) ⟨wBlind, va_recv hK hP (ci := 0) (q0 := 0) rfl rfl, fun U hU hW => ⟨rfl, by rw [hU]; exact hP, va_K.moved hW.alike hK, hD, hT.at hS hU hW (fun _ z => z)⟩⟩ rfl rfl hl.1 rfl (lv_room (Nat.le_of_ble_eq_true rfl)) d_C_writeOffset_2 ⟨Nat.le_refl _, Nat.le_refl _⟩) hS (fun _ _ h => h) (fun _ h => h) (fun u t H1 locs ht1 hvm hw hB hz1 hk1 hS => ?_)
  rw [hw] at hB
  rw [ht1] at hB
  have hP : va_P (dC, dI) cls2 (wC cA h0 o r_1.1 r_1.2) H1 := hB
  have hD : va_D (aC h0 o) (wC cA h0 o r_1.1 r_1.2) := dD hD0 rfl
  refine lv_aload_n hx hb d_C_writeOffset_5 rfl (lv_at hl 0 rfl) ?_
  refine lv_bipush (v := 40) hx hb d_C_writeOffset_6 (by decide) ?_
  obtain ⟨r_3, g_4, hf⟩ := Option.bind_eq_some_iff.mp hf
  refine va_callv (va_runV (As := [.int (40)]) (rest := []) ⟨hx, hb, hml, hown, hts⟩ (c_C_write l (ad := ad) (sk := sk) (sv := sv) (tK := tK) dC dI cA h0 o r_1.1 r_1.2 40  r_3 g_4) (cwV 1 hts (aw_V aw_198 aw_200 aw_p8 aw_1 aw_201) rfl rfl rfl (by decide +kernel) ⟨Nat.le_of_ble_eq_true rfl, Nat.le_of_ble_eq_true rfl⟩) ⟨wBlind, va_recv hK hP (ci := 0) (q0 := 0) rfl rfl, fun U hU hW => ⟨rfl, by rw [hU]; exact hP, va_K.moved hW.alike hK, hD, hT.at hS hU hW (fun _ z => z)⟩⟩ rfl rfl hl.1 rfl (lv_room (Nat.le_of_ble_eq_true rfl)) d_C_writeOffset_8 ⟨Nat.le_refl _, Nat.le_refl _⟩) hS (fun _ _ h => h) (fun _ h => h) (fun u t H1 locs ht1 hvm hw hB hz1 hk1 hS => ?_)
  rw [hw] at hB
  rw [ht1] at hB
  have hP : va_P (dC, dI) cls2 (wC cA h0 o r_3.1 r_3.2) H1 := hB
  have hD : va_D (aC h0 o) (wC cA h0 o r_3.1 r_3.2) := dD hD0 rfl
  refine lv_aload_n hx hb d_C_writeOffset_11 rfl (lv_at hl 0 rfl) ?_
  refine lv_iload_n hx hb d_C_writeOffset_12 rfl (lv_at hl 2 rfl) ?_
  obtain ⟨r_5, g_6, hf⟩ := Option.bind_eq_some_iff.mp hf
  refine va_callv (va_runV (As := [.int (a1)]) (rest := []) ⟨hx, hb, hml, hown, hts⟩ (c_C_writeRegister l (ad := ad) (sk := sk) (sv := sv) (tK := tK) dC dI cA h0 o r_3.1 r_3.2 a1  r_5 g_6) (cwV 1 hts (aw_V aw_223 aw_225 aw_p12 aw_1 aw_226) rfl rfl rfl (by decide +kernel) ⟨Nat.le_of_ble_eq_true rfl, Nat.le_of_ble_eq_true rfl⟩) ⟨wBlind, va_recv hK hP (ci := 0) (q0 := 0) rfl rfl, fun U hU hW => ⟨rfl, by rw [hU]; exact hP, va_K.moved hW.alike hK, hD, hT.at hS hU hW (fun _ z => z)⟩⟩ rfl rfl hl.1 rfl (lv_room (Nat.le_of_ble_eq_true rfl)) d_C_writeOffset_13 ⟨Nat.le_refl _, Nat.le_refl _⟩) hS (fun _ _ h => h) (fun _ h => h) (fun u t H1 locs ht1 hvm hw hB hz1 hk1 hS => ?_)
  rw [hw] at hB
  rw [ht1] at hB
  have hP : va_P (dC, dI) cls2 (wC cA h0 o r_5.1 r_5.2) H1 := hB
  have hD : va_D (aC h0 o) (wC cA h0 o r_5.1 r_5.2) := dD hD0 rfl
  refine lv_aload_n hx hb d_C_writeOffset_16 rfl (lv_at hl 0 rfl) ?_
  refine lv_bipush (v := 41) hx hb d_C_writeOffset_17 (by decide) ?_
  obtain ⟨r_7, g_8, hf⟩ := Option.bind_eq_some_iff.mp hf
  refine va_callv (va_runV (As := [.int (41)]) (rest := []) ⟨hx, hb, hml, hown, hts⟩ (c_C_write l (ad := ad) (sk := sk) (sv := sv) (tK := tK) dC dI cA h0 o r_5.1 r_5.2 41  r_7 g_8) (cwV 1 hts (aw_V aw_198 aw_200 aw_p8 aw_1 aw_201) rfl rfl rfl (by decide +kernel) ⟨Nat.le_of_ble_eq_true rfl, Nat.le_of_ble_eq_true rfl⟩) ⟨wBlind, va_recv hK hP (ci := 0) (q0 := 0) rfl rfl, fun U hU hW => ⟨rfl, by rw [hU]; exact hP, va_K.moved hW.alike hK, hD, hT.at hS hU hW (fun _ z => z)⟩⟩ rfl rfl hl.1 rfl (lv_room (Nat.le_of_ble_eq_true rfl)) d_C_writeOffset_19 ⟨Nat.le_refl _, Nat.le_refl _⟩) hS (fun _ _ h => h) (fun _ h => h) (fun u t H1 locs ht1 hvm hw hB hz1 hk1 hS => ?_)
  rw [hw] at hB
  rw [ht1] at hB
  have hP : va_P (dC, dI) cls2 (wC cA h0 o r_7.1 r_7.2) H1 := hB
  have hD : va_D (aC h0 o) (wC cA h0 o r_7.1 r_7.2) := dD hD0 rfl
  exact W.vret hx hb hr (fun t ht hW => ⟨⟨(r_7.1, r_7.2), rfl, Option.some.inj hf, by rw [← ht] at hP; exact hP⟩, hS.F ht⟩) hS.2.2 d_C_writeOffset_22

def f_C_writeOperand (w_f : Nat → Int32) (w_n : Int32) (a0 : Int32) (a1 : Nat) (a2 : Int32) (a3 : Int32) : Option ((Nat → Int32) × Int32) :=
  if a0 = 73 then ((f_K_immediate a1 a2).bind fun r_2 => (f_C_writeDecimal w_f w_n r_2).bind fun r_4 => some (r_4.1, r_4.2)) else ( if a0 = 79 then ((f_K_immediate a1 a2).bind fun r_7 => (f_K_register a1 a2 2).bind fun r_9 => (f_C_writeOffset w_f w_n r_7 r_9).bind fun r_11 => some (r_11.1, r_11.2)) else ( if a0 = 80 then ((f_K_immediate a1 a2).bind fun r_14 => (f_C_writeHex w_f w_n (a3 + r_14)).bind fun r_16 => some (r_16.1, r_16.2)) else ( if a0 = 83 then ((f_K_immediate a1 a2).bind fun r_19 => (f_C_writeOffset w_f w_n r_19 2).bind fun r_21 => some (r_21.1, r_21.2)) else ( if a0 = 97 then ((f_K_register a1 a2 2).bind fun r_24 => (f_C_writeRegister w_f w_n r_24).bind fun r_26 => some (r_26.1, r_26.2)) else ( if a0 = 98 then ((f_K_register a1 a2 4).bind fun r_29 => (f_C_writeRegister w_f w_n r_29).bind fun r_31 => some (r_31.1, r_31.2)) else ( if a0 = 100 then ((f_K_register a1 a2 1).bind fun r_34 => (f_C_writeRegister w_f w_n r_34).bind fun r_36 => some (r_36.1, r_36.2)) else ( if a0 = 115 then ((f_C_writeRegister w_f w_n 2).bind fun r_39 => some (r_39.1, r_39.2)) else ((f_K_immediate a1 a2).bind fun r_41 => (f_C_writeHex w_f w_n r_41).bind fun r_43 => some (r_43.1, r_43.2)))))))))
set_option maxHeartbeats 1000000 in
set_option maxRecDepth 100000 in
theorem c_C_writeOperand (l : Launch) {ad sk sv : Nat → Nat} {tK : Nat} (dC : Nat → ClassId) (dI : Nat → Nat → Nat) (cA : ClassId) (h0 o : Nat) (w_f : Nat → Int32) (w_n : Int32) (a0 : Int32) (a1 : Nat) (a2 : Int32) (a3 : Int32) (ha1 : a1 < 75) (r : (Nat → Int32) × Int32) (hf : f_C_writeOperand w_f w_n a0 a1 a2 a3 = some r) : Met l y_C_writeOperand (Cond.code y_C_writeOperand b_C_writeOperand 5 (Option.none : Option FieldType) :: aw) ({ frames := 6, cells := 0, slots := 0, locals := 130 } : Room) (va_Pc [.ref (h0), .int (a0), .ref (ad a1), .int (a2), .int (a3)] (fun U => va_P (dC, dI) cls2 (wC cA h0 o w_f w_n) U.heap ∧ va_K (dC, dI) cls2 [(cA, .char)] U ∧ va_D (aC h0 o) (wC cA h0 o w_f w_n) ∧ tb ad sk sv tK (aC h0 o) U U.heap)) (va_Qv (fun u => u = r) (fun (u : (Nat → Int32) × Int32) t => va_P (dC, dI) cls2 (wC cA h0 o u.1 u.2) t.heap) (aC h0 o)) 0 0 (aC h0 o) := by
  refine Met.ofW (cc := b_C_writeOperand) (maxL := 5) (ret := (Option.none : Option FieldType)) (by decide) rfl ?_
  intro p e s m args below meth c s₁ B hml hv
  obtain ⟨rfl, hP, hK, hD, hT⟩ := hv
  have hD0 := hD
  have hx := B.exec
  have hb := B.bytes
  have hr := B.returns
  have hts := atoms_spec (ws := (Cond.code y_C_writeOperand b_C_writeOperand 5 (Option.none : Option FieldType) :: aw)) B.pre
  have ht : ∀ {w : Cond}, w ∈ aw → w.before ([.ref (h0), .int (a0), .ref (ad a1), .int (a2), .int (a3)] : List Value).toArray s = true := fun h => hts _ (List.mem_cons_of_mem _ h)
  have hown : s.vm.findClass "CodeWords" = some m.cls := findClass_of_methodNamed B.named
  have hlocks := B.notSynchronized
  have hS : va_S (aC h0 o) s.heap s.heap [] := va_S.rf
  have hl := lv_entry ([.ref (h0), .int (a0), .ref (ad a1), .int (a2), .int (a3)]) (n := 5) (Nat.le_of_ble_eq_true rfl)
  rw [lg_entry_eq]
  generalize (lg_sl ([.ref (h0), .int (a0), .ref (ad a1), .int (a2), .int (a3)]) ++ List.replicate (5 - (lg_sl ([.ref (h0), .int (a0), .ref (ad a1), .int (a2), .int (a3)])).length) Slot.unset).toArray = ls at hl ⊢
  have hl : lv_has ls 5 [(0, .ref (h0)), (1, .int (a0)), (2, .ref (ad a1)), (3, .int (a2)), (4, .int (a3))] := hl
  rw [f_C_writeOperand] at hf
  refine lv_iload_n hx hb d_C_writeOperand_0 rfl (lv_at hl 1 rfl) ?_
  by_cases c_1 : a0 = 73
  · replace hf := (if_pos c_1).symm.trans hf
    refine lv_lookup (tgt := 123) hx hb d_C_writeOperand_1 (by decide) (by rw [c_1] <;> rfl) (by decide) ?_
    refine lv_aload_n hx hb d_C_writeOperand_123 rfl (lv_at hl 0 rfl) ?_
    refine lv_aload_n hx hb d_C_writeOperand_124 rfl (lv_at hl 2 rfl) ?_
    refine lv_iload_n hx hb d_C_writeOperand_125 rfl (lv_at hl 3 rfl) ?_
    obtain ⟨r_2, g_3, hf⟩ := Option.bind_eq_some_iff.mp hf
    refine ju_calli (W.runV (As := [.int (a2)]) (rest := [.ref (h0)]) ⟨hx, hb, hml, hown, hts⟩ (c_K_immediate l (ad := ad) (sk := sk) (sv := sv) (tK := tK)  a1 a2 ha1 r_2 g_3) (cwV 1 hts (aw_V aw_148 aw_113 aw_114 aw_12 aw_115) rfl rfl rfl (by decide +kernel) ⟨Nat.le_of_ble_eq_true rfl, Nat.le_of_ble_eq_true rfl⟩) ⟨fun a U g mk q => ⟨q.1, q.2.call⟩, tb_recvK hT ha1 hS, fun U hU hW => ⟨rfl, hT.at hS hU hW (fun _ z => z.elim)⟩⟩ rfl rfl hl.1 rfl (lv_room (Nat.le_of_ble_eq_true rfl)) d_C_writeOperand_126 ⟨Nat.le_refl _, Nat.le_refl _⟩) ?_
    obtain ⟨r_4, g_5, hf⟩ := Option.bind_eq_some_iff.mp hf
    refine va_callv (va_runV (As := [.int (r_2)]) (rest := []) ⟨hx, hb, hml, hown, hts⟩ (c_C_writeDecimal l (ad := ad) (sk := sk) (sv := sv) (tK := tK) dC dI cA h0 o w_f w_n r_2  r_4 g_5) (cwV 1 hts (aw_V aw_228 aw_230 aw_p13 aw_1 aw_231) rfl rfl rfl (by decide +kernel) ⟨Nat.le_of_ble_eq_true rfl, Nat.le_of_ble_eq_true rfl⟩) ⟨wBlind, va_recv hK hP (ci := 0) (q0 := 0) rfl rfl, fun U hU hW => ⟨rfl, by rw [hU]; exact hP, va_K.moved hW.alike hK, hD, hT.at hS hU hW (fun _ z => z)⟩⟩ rfl rfl hl.1 rfl (lv_room (Nat.le_of_ble_eq_true rfl)) d_C_writeOperand_129 ⟨Nat.le_refl _, Nat.le_refl _⟩) hS (fun _ _ h => h) (fun _ h => h) (fun u t H1 locs ht1 hvm hw hB hz1 hk1 hS => ?_)
    rw [hw] at hB
    rw [ht1] at hB
    have hP : va_P (dC, dI) cls2 (wC cA h0 o r_4.1 r_4.2) H1 := hB
    have hD : va_D (aC h0 o) (wC cA h0 o r_4.1 r_4.2) := dD hD0 rfl
    refine lv_goto (tgt := 190) hx hb d_C_writeOperand_132 (by decide) ?_
    exact W.vret hx hb hr (fun t ht hW => ⟨⟨(r_4.1, r_4.2), rfl, Option.some.inj hf, by rw [← ht] at hP; exact hP⟩, hS.F ht⟩) hS.2.2 d_C_writeOperand_190
  · replace hf := (if_neg c_1).symm.trans hf
    by_cases c_6 : a0 = 79
    · replace hf := (if_pos c_6).symm.trans hf
      refine lv_lookup (tgt := 135) hx hb d_C_writeOperand_1 (by decide) (by rw [c_6] <;> rfl) (by decide) ?_
      refine lv_aload_n hx hb d_C_writeOperand_135 rfl (lv_at hl 0 rfl) ?_
      refine lv_aload_n hx hb d_C_writeOperand_136 rfl (lv_at hl 2 rfl) ?_
      refine lv_iload_n hx hb d_C_writeOperand_137 rfl (lv_at hl 3 rfl) ?_
      obtain ⟨r_7, g_8, hf⟩ := Option.bind_eq_some_iff.mp hf
      refine ju_calli (W.runV (As := [.int (a2)]) (rest := [.ref (h0)]) ⟨hx, hb, hml, hown, hts⟩ (c_K_immediate l (ad := ad) (sk := sk) (sv := sv) (tK := tK)  a1 a2 ha1 r_7 g_8) (cwV 1 hts (aw_V aw_148 aw_113 aw_114 aw_12 aw_115) rfl rfl rfl (by decide +kernel) ⟨Nat.le_of_ble_eq_true rfl, Nat.le_of_ble_eq_true rfl⟩) ⟨fun a U g mk q => ⟨q.1, q.2.call⟩, tb_recvK hT ha1 hS, fun U hU hW => ⟨rfl, hT.at hS hU hW (fun _ z => z.elim)⟩⟩ rfl rfl hl.1 rfl (lv_room (Nat.le_of_ble_eq_true rfl)) d_C_writeOperand_138 ⟨Nat.le_refl _, Nat.le_refl _⟩) ?_
      refine lv_aload_n hx hb d_C_writeOperand_141 rfl (lv_at hl 2 rfl) ?_
      refine lv_iload_n hx hb d_C_writeOperand_142 rfl (lv_at hl 3 rfl) ?_
      refine lv_iconst (v := 2) hx hb d_C_writeOperand_143 (by decide) ?_
      obtain ⟨r_9, g_10, hf⟩ := Option.bind_eq_some_iff.mp hf
      refine ju_calli (W.runV (As := [.int (a2), .int (2)]) (rest := [.int (r_7), .ref (h0)]) ⟨hx, hb, hml, hown, hts⟩ (c_K_register l (ad := ad) (sk := sk) (sv := sv) (tK := tK)  a1 a2 2 ha1 r_9 g_10) (cwV 2 hts (aw_V aw_147 aw_45 aw_46 aw_12 aw_47) rfl rfl rfl (by decide +kernel) ⟨Nat.le_of_ble_eq_true rfl, Nat.le_of_ble_eq_true rfl⟩) ⟨fun a U g mk q => ⟨q.1, q.2.call⟩, tb_recvK hT ha1 hS, fun U hU hW => ⟨rfl, hT.at hS hU hW (fun _ z => z.elim)⟩⟩ rfl rfl hl.1 rfl (lv_room (Nat.le_of_ble_eq_true rfl)) d_C_writeOperand_144 ⟨Nat.le_refl _, Nat.le_refl _⟩) ?_
      obtain ⟨r_11, g_12, hf⟩ := Option.bind_eq_some_iff.mp hf
      refine va_callv (va_runV (As := [.int (r_7), .int (r_9)]) (rest := []) ⟨hx, hb, hml, hown, hts⟩ (c_C_writeOffset l (ad := ad) (sk := sk) (sv := sv) (tK := tK) dC dI cA h0 o w_f w_n r_7 r_9  r_11 g_12) (cwV 2 hts (aw_V aw_232 aw_234 aw_p14 aw_1 aw_235) rfl rfl rfl (by decide +kernel) ⟨Nat.le_of_ble_eq_true rfl, Nat.le_of_ble_eq_true rfl⟩) ⟨wBlind, va_recv hK hP (ci := 0) (q0 := 0) rfl rfl, fun U hU hW => ⟨rfl, by rw [hU]; exact hP, va_K.moved hW.alike hK, hD, hT.at hS hU hW (fun _ z => z)⟩⟩ rfl rfl hl.1 rfl (lv_room (Nat.le_of_ble_eq_true rfl)) d_C_writeOperand_147 ⟨Nat.le_refl _, Nat.le_refl _⟩) hS (fun _ _ h => h) (fun _ h => h) (fun u t H1 locs ht1 hvm hw hB hz1 hk1 hS => ?_)
      rw [hw] at hB
      rw [ht1] at hB
      have hP : va_P (dC, dI) cls2 (wC cA h0 o r_11.1 r_11.2) H1 := hB
      have hD : va_D (aC h0 o) (wC cA h0 o r_11.1 r_11.2) := dD hD0 rfl
      refine lv_goto (tgt := 190) hx hb d_C_writeOperand_150 (by decide) ?_
      exact W.vret hx hb hr (fun t ht hW => ⟨⟨(r_11.1, r_11.2), rfl, Option.some.inj hf, by rw [← ht] at hP; exact hP⟩, hS.F ht⟩) hS.2.2 d_C_writeOperand_190
    · replace hf := (if_neg c_6).symm.trans hf
      by_cases c_13 : a0 = 80
      · replace hf := (if_pos c_13).symm.trans hf
        refine lv_lookup (tgt := 166) hx hb d_C_writeOperand_1 (by decide) (by rw [c_13] <;> rfl) (by decide) ?_
        refine lv_aload_n hx hb d_C_writeOperand_166 rfl (lv_at hl 0 rfl) ?_
        refine lv_iload hx hb d_C_writeOperand_167 (lv_at hl 4 rfl) ?_
        refine lv_aload_n hx hb d_C_writeOperand_169 rfl (lv_at hl 2 rfl) ?_
        refine lv_iload_n hx hb d_C_writeOperand_170 rfl (lv_at hl 3 rfl) ?_
        obtain ⟨r_14, g_15, hf⟩ := Option.bind_eq_some_iff.mp hf
        refine ju_calli (W.runV (As := [.int (a2)]) (rest := [.int (a3), .ref (h0)]) ⟨hx, hb, hml, hown, hts⟩ (c_K_immediate l (ad := ad) (sk := sk) (sv := sv) (tK := tK)  a1 a2 ha1 r_14 g_15) (cwV 1 hts (aw_V aw_148 aw_113 aw_114 aw_12 aw_115) rfl rfl rfl (by decide +kernel) ⟨Nat.le_of_ble_eq_true rfl, Nat.le_of_ble_eq_true rfl⟩) ⟨fun a U g mk q => ⟨q.1, q.2.call⟩, tb_recvK hT ha1 hS, fun U hU hW => ⟨rfl, hT.at hS hU hW (fun _ z => z.elim)⟩⟩ rfl rfl hl.1 rfl (lv_room (Nat.le_of_ble_eq_true rfl)) d_C_writeOperand_171 ⟨Nat.le_refl _, Nat.le_refl _⟩) ?_
        refine lv_iadd hx hb d_C_writeOperand_174 ?_
        obtain ⟨r_16, g_17, hf⟩ := Option.bind_eq_some_iff.mp hf
        refine va_callv (va_runV (As := [.int (a3 + r_14)]) (rest := []) ⟨hx, hb, hml, hown, hts⟩ (c_C_writeHex l (ad := ad) (sk := sk) (sv := sv) (tK := tK) dC dI cA h0 o w_f w_n (a3 + r_14)  r_16 g_17) (cwV 1 hts (aw_V aw_202 aw_204 aw_p9 aw_1 aw_205) rfl rfl rfl (by decide +kernel) ⟨Nat.le_of_ble_eq_true rfl, Nat.le_of_ble_eq_true rfl⟩) ⟨wBlind, va_recv hK hP (ci := 0) (q0 := 0) rfl rfl, fun U hU hW => ⟨rfl, by rw [hU]; exact hP, va_K.moved hW.alike hK, hD, hT.at hS hU hW (fun _ z => z)⟩⟩ rfl rfl hl.1 rfl (lv_room (Nat.le_of_ble_eq_true rfl)) d_C_writeOperand_175 ⟨Nat.le_refl _, Nat.le_refl _⟩) hS (fun _ _ h => h) (fun _ h => h) (fun u t H1 locs ht1 hvm hw hB hz1 hk1 hS => ?_)
        rw [hw] at hB
        rw [ht1] at hB
        have hP : va_P (dC, dI) cls2 (wC cA h0 o r_16.1 r_16.2) H1 := hB
        have hD : va_D (aC h0 o) (wC cA h0 o r_16.1 r_16.2) := dD hD0 rfl
        refine lv_goto (tgt := 190) hx hb d_C_writeOperand_178 (by decide) ?_
        exact W.vret hx hb hr (fun t ht hW => ⟨⟨(r_16.1, r_16.2), rfl, Option.some.inj hf, by rw [← ht] at hP; exact hP⟩, hS.F ht⟩) hS.2.2 d_C_writeOperand_190
      · replace hf := (if_neg c_13).symm.trans hf
        by_cases c_18 : a0 = 83
        · replace hf := (if_pos c_18).symm.trans hf
          refine lv_lookup (tgt := 153) hx hb d_C_writeOperand_1 (by decide) (by rw [c_18] <;> rfl) (by decide) ?_
          refine lv_aload_n hx hb d_C_writeOperand_153 rfl (lv_at hl 0 rfl) ?_
          refine lv_aload_n hx hb d_C_writeOperand_154 rfl (lv_at hl 2 rfl) ?_
          refine lv_iload_n hx hb d_C_writeOperand_155 rfl (lv_at hl 3 rfl) ?_
          obtain ⟨r_19, g_20, hf⟩ := Option.bind_eq_some_iff.mp hf
          refine ju_calli (W.runV (As := [.int (a2)]) (rest := [.ref (h0)]) ⟨hx, hb, hml, hown, hts⟩ (c_K_immediate l (ad := ad) (sk := sk) (sv := sv) (tK := tK)  a1 a2 ha1 r_19 g_20) (cwV 1 hts (aw_V aw_148 aw_113 aw_114 aw_12 aw_115) rfl rfl rfl (by decide +kernel) ⟨Nat.le_of_ble_eq_true rfl, Nat.le_of_ble_eq_true rfl⟩) ⟨fun a U g mk q => ⟨q.1, q.2.call⟩, tb_recvK hT ha1 hS, fun U hU hW => ⟨rfl, hT.at hS hU hW (fun _ z => z.elim)⟩⟩ rfl rfl hl.1 rfl (lv_room (Nat.le_of_ble_eq_true rfl)) d_C_writeOperand_156 ⟨Nat.le_refl _, Nat.le_refl _⟩) ?_
          refine lv_iconst (v := 2) hx hb d_C_writeOperand_159 (by decide) ?_
          obtain ⟨r_21, g_22, hf⟩ := Option.bind_eq_some_iff.mp hf
          refine va_callv (va_runV (As := [.int (r_19), .int (2)]) (rest := []) ⟨hx, hb, hml, hown, hts⟩ (c_C_writeOffset l (ad := ad) (sk := sk) (sv := sv) (tK := tK) dC dI cA h0 o w_f w_n r_19 2  r_21 g_22) (cwV 2 hts (aw_V aw_232 aw_234 aw_p14 aw_1 aw_235) rfl rfl rfl (by decide +kernel) ⟨Nat.le_of_ble_eq_true rfl, Nat.le_of_ble_eq_true rfl⟩) ⟨wBlind, va_recv hK hP (ci := 0) (q0 := 0) rfl rfl, fun U hU hW => ⟨rfl, by rw [hU]; exact hP, va_K.moved hW.alike hK, hD, hT.at hS hU hW (fun _ z => z)⟩⟩ rfl rfl hl.1 rfl (lv_room (Nat.le_of_ble_eq_true rfl)) d_C_writeOperand_160 ⟨Nat.le_refl _, Nat.le_refl _⟩) hS (fun _ _ h => h) (fun _ h => h) (fun u t H1 locs ht1 hvm hw hB hz1 hk1 hS => ?_)
          rw [hw] at hB
          rw [ht1] at hB
          have hP : va_P (dC, dI) cls2 (wC cA h0 o r_21.1 r_21.2) H1 := hB
          have hD : va_D (aC h0 o) (wC cA h0 o r_21.1 r_21.2) := dD hD0 rfl
          refine lv_goto (tgt := 190) hx hb d_C_writeOperand_163 (by decide) ?_
          exact W.vret hx hb hr (fun t ht hW => ⟨⟨(r_21.1, r_21.2), rfl, Option.some.inj hf, by rw [← ht] at hP; exact hP⟩, hS.F ht⟩) hS.2.2 d_C_writeOperand_190
        · replace hf := (if_neg c_18).symm.trans hf
          by_cases c_23 : a0 = 97
          · replace hf := (if_pos c_23).symm.trans hf
            refine lv_lookup (tgt := 89) hx hb d_C_writeOperand_1 (by decide) (by rw [c_23] <;> rfl) (by decide) ?_
            refine lv_aload_n hx hb d_C_writeOperand_89 rfl (lv_at hl 0 rfl) ?_
            refine lv_aload_n hx hb d_C_writeOperand_90 rfl (lv_at hl 2 rfl) ?_
            refine lv_iload_n hx hb d_C_writeOperand_91 rfl (lv_at hl 3 rfl) ?_
            refine lv_iconst (v := 2) hx hb d_C_writeOperand_92 (by decide) ?_
            obtain ⟨r_24, g_25, hf⟩ := Option.bind_eq_some_iff.mp hf
            refine ju_calli (W.runV (As := [.int (a2), .int (2)]) (rest := [.ref (h0)]) ⟨hx, hb, hml, hown, hts⟩ (c_K_register l (ad := ad) (sk := sk) (sv := sv) (tK := tK)  a1 a2 2 ha1 r_24 g_25) (cwV 2 hts (aw_V aw_147 aw_45 aw_46 aw_12 aw_47) rfl rfl rfl (by decide +kernel) ⟨Nat.le_of_ble_eq_true rfl, Nat.le_of_ble_eq_true rfl⟩) ⟨fun a U g mk q => ⟨q.1, q.2.call⟩, tb_recvK hT ha1 hS, fun U hU hW => ⟨rfl, hT.at hS hU hW (fun _ z => z.elim)⟩⟩ rfl rfl hl.1 rfl (lv_room (Nat.le_of_ble_eq_true rfl)) d_C_writeOperand_93 ⟨Nat.le_refl _, Nat.le_refl _⟩) ?_
            obtain ⟨r_26, g_27, hf⟩ := Option.bind_eq_some_iff.mp hf
            refine va_callv (va_runV (As := [.int (r_24)]) (rest := []) ⟨hx, hb, hml, hown, hts⟩ (c_C_writeRegister l (ad := ad) (sk := sk) (sv := sv) (tK := tK) dC dI cA h0 o w_f w_n r_24  r_26 g_27) (cwV 1 hts (aw_V aw_223 aw_225 aw_p12 aw_1 aw_226) rfl rfl rfl (by decide +kernel) ⟨Nat.le_of_ble_eq_true rfl, Nat.le_of_ble_eq_true rfl⟩) ⟨wBlind, va_recv hK hP (ci := 0) (q0 := 0) rfl rfl, fun U hU hW => ⟨rfl, by rw [hU]; exact hP, va_K.moved hW.alike hK, hD, hT.at hS hU hW (fun _ z => z)⟩⟩ rfl rfl hl.1 rfl (lv_room (Nat.le_of_ble_eq_true rfl)) d_C_writeOperand_96 ⟨Nat.le_refl _, Nat.le_refl _⟩) hS (fun _ _ h => h) (fun _ h => h) (fun u t H1 locs ht1 hvm hw hB hz1 hk1 hS => ?_)
            rw [hw] at hB
            rw [ht1] at hB
            have hP : va_P (dC, dI) cls2 (wC cA h0 o r_26.1 r_26.2) H1 := hB
            have hD : va_D (aC h0 o) (wC cA h0 o r_26.1 r_26.2) := dD hD0 rfl
            refine lv_goto (tgt := 190) hx hb d_C_writeOperand_99 (by decide) ?_
            exact W.vret hx hb hr (fun t ht hW => ⟨⟨(r_26.1, r_26.2), rfl, Option.some.inj hf, by rw [← ht] at hP; exact hP⟩, hS.F ht⟩) hS.2.2 d_C_writeOperand_190
          · replace hf := (if_neg c_23).symm.trans hf
            by_cases c_28 : a0 = 98
            · replace hf := (if_pos c_28).symm.trans hf
              refine lv_lookup (tgt := 102) hx hb d_C_writeOperand_1 (by decide) (by rw [c_28] <;> rfl) (by decide) ?_
              refine lv_aload_n hx hb d_C_writeOperand_102 rfl (lv_at hl 0 rfl) ?_
              refine lv_aload_n hx hb d_C_writeOperand_103 rfl (lv_at hl 2 rfl) ?_
              refine lv_iload_n hx hb d_C_writeOperand_104 rfl (lv_at hl 3 rfl) ?_
              refine lv_iconst (v := 4) hx hb d_C_writeOperand_105 (by decide) ?_
              obtain ⟨r_29, g_30, hf⟩ := Option.bind_eq_some_iff.mp hf
              refine ju_calli (W.runV (As := [.int (a2), .int (4)]) (rest := [.ref (h0)]) ⟨hx, hb, hml, hown, hts⟩ (c_K_register l (ad := ad) (sk := sk) (sv := sv) (tK := tK)  a1 a2 4 ha1 r_29 g_30) (cwV 2 hts (aw_V aw_147 aw_45 aw_46 aw_12 aw_47) rfl rfl rfl (by decide +kernel) ⟨Nat.le_of_ble_eq_true rfl, Nat.le_of_ble_eq_true rfl⟩) ⟨fun a U g mk q => ⟨q.1, q.2.call⟩, tb_recvK hT ha1 hS, fun U hU hW => ⟨rfl, hT.at hS hU hW (fun _ z => z.elim)⟩⟩ rfl rfl hl.1 rfl (lv_room (Nat.le_of_ble_eq_true rfl)) d_C_writeOperand_106 ⟨Nat.le_refl _, Nat.le_refl _⟩) ?_
              obtain ⟨r_31, g_32, hf⟩ := Option.bind_eq_some_iff.mp hf
              refine va_callv (va_runV (As := [.int (r_29)]) (rest := []) ⟨hx, hb, hml, hown, hts⟩ (c_C_writeRegister l (ad := ad) (sk := sk) (sv := sv) (tK := tK) dC dI cA h0 o w_f w_n r_29  r_31 g_32) (cwV 1 hts (aw_V aw_223 aw_225 aw_p12 aw_1 aw_226) rfl rfl rfl (by decide +kernel) ⟨Nat.le_of_ble_eq_true rfl, Nat.le_of_ble_eq_true rfl⟩) ⟨wBlind, va_recv hK hP (ci := 0) (q0 := 0) rfl rfl, fun U hU hW => ⟨rfl, by rw [hU]; exact hP, va_K.moved hW.alike hK, hD, hT.at hS hU hW (fun _ z => z)⟩⟩ rfl rfl hl.1 rfl (lv_room (Nat.le_of_ble_eq_true rfl)) d_C_writeOperand_109 ⟨Nat.le_refl _, Nat.le_refl _⟩) hS (fun _ _ h => h) (fun _ h => h) (fun u t H1 locs ht1 hvm hw hB hz1 hk1 hS => ?_)
              rw [hw] at hB
              rw [ht1] at hB
              have hP : va_P (dC, dI) cls2 (wC cA h0 o r_31.1 r_31.2) H1 := hB
              have hD : va_D (aC h0 o) (wC cA h0 o r_31.1 r_31.2) := dD hD0 rfl
              refine lv_goto (tgt := 190) hx hb d_C_writeOperand_112 (by decide) ?_
              exact W.vret hx hb hr (fun t ht hW => ⟨⟨(r_31.1, r_31.2), rfl, Option.some.inj hf, by rw [← ht] at hP; exact hP⟩, hS.F ht⟩) hS.2.2 d_C_writeOperand_190
            · replace hf := (if_neg c_28).symm.trans hf
              by_cases c_33 : a0 = 100
              · replace hf := (if_pos c_33).symm.trans hf
                refine lv_lookup (tgt := 76) hx hb d_C_writeOperand_1 (by decide) (by rw [c_33] <;> rfl) (by decide) ?_
                refine lv_aload_n hx hb d_C_writeOperand_76 rfl (lv_at hl 0 rfl) ?_
                refine lv_aload_n hx hb d_C_writeOperand_77 rfl (lv_at hl 2 rfl) ?_
                refine lv_iload_n hx hb d_C_writeOperand_78 rfl (lv_at hl 3 rfl) ?_
                refine lv_iconst (v := 1) hx hb d_C_writeOperand_79 (by decide) ?_
                obtain ⟨r_34, g_35, hf⟩ := Option.bind_eq_some_iff.mp hf
                refine ju_calli (W.runV (As := [.int (a2), .int (1)]) (rest := [.ref (h0)]) ⟨hx, hb, hml, hown, hts⟩ (c_K_register l (ad := ad) (sk := sk) (sv := sv) (tK := tK)  a1 a2 1 ha1 r_34 g_35) (cwV 2 hts (aw_V aw_147 aw_45 aw_46 aw_12 aw_47) rfl rfl rfl (by decide +kernel) ⟨Nat.le_of_ble_eq_true rfl, Nat.le_of_ble_eq_true rfl⟩) ⟨fun a U g mk q => ⟨q.1, q.2.call⟩, tb_recvK hT ha1 hS, fun U hU hW => ⟨rfl, hT.at hS hU hW (fun _ z => z.elim)⟩⟩ rfl rfl hl.1 rfl (lv_room (Nat.le_of_ble_eq_true rfl)) d_C_writeOperand_80 ⟨Nat.le_refl _, Nat.le_refl _⟩) ?_
                obtain ⟨r_36, g_37, hf⟩ := Option.bind_eq_some_iff.mp hf
                refine va_callv (va_runV (As := [.int (r_34)]) (rest := []) ⟨hx, hb, hml, hown, hts⟩ (c_C_writeRegister l (ad := ad) (sk := sk) (sv := sv) (tK := tK) dC dI cA h0 o w_f w_n r_34  r_36 g_37) (cwV 1 hts (aw_V aw_223 aw_225 aw_p12 aw_1 aw_226) rfl rfl rfl (by decide +kernel) ⟨Nat.le_of_ble_eq_true rfl, Nat.le_of_ble_eq_true rfl⟩) ⟨wBlind, va_recv hK hP (ci := 0) (q0 := 0) rfl rfl, fun U hU hW => ⟨rfl, by rw [hU]; exact hP, va_K.moved hW.alike hK, hD, hT.at hS hU hW (fun _ z => z)⟩⟩ rfl rfl hl.1 rfl (lv_room (Nat.le_of_ble_eq_true rfl)) d_C_writeOperand_83 ⟨Nat.le_refl _, Nat.le_refl _⟩) hS (fun _ _ h => h) (fun _ h => h) (fun u t H1 locs ht1 hvm hw hB hz1 hk1 hS => ?_)
                rw [hw] at hB
                rw [ht1] at hB
                have hP : va_P (dC, dI) cls2 (wC cA h0 o r_36.1 r_36.2) H1 := hB
                have hD : va_D (aC h0 o) (wC cA h0 o r_36.1 r_36.2) := dD hD0 rfl
                refine lv_goto (tgt := 190) hx hb d_C_writeOperand_86 (by decide) ?_
                exact W.vret hx hb hr (fun t ht hW => ⟨⟨(r_36.1, r_36.2), rfl, Option.some.inj hf, by rw [← ht] at hP; exact hP⟩, hS.F ht⟩) hS.2.2 d_C_writeOperand_190
              · replace hf := (if_neg c_33).symm.trans hf
                by_cases c_38 : a0 = 115
                · replace hf := (if_pos c_38).symm.trans hf
                  refine lv_lookup (tgt := 115) hx hb d_C_writeOperand_1 (by decide) (by rw [c_38] <;> rfl) (by decide) ?_
                  refine lv_aload_n hx hb d_C_writeOperand_115 rfl (lv_at hl 0 rfl) ?_
                  refine lv_iconst (v := 2) hx hb d_C_writeOperand_116 (by decide) ?_
                  obtain ⟨r_39, g_40, hf⟩ := Option.bind_eq_some_iff.mp hf
                  refine va_callv (va_runV (As := [.int (2)]) (rest := []) ⟨hx, hb, hml, hown, hts⟩ (c_C_writeRegister l (ad := ad) (sk := sk) (sv := sv) (tK := tK) dC dI cA h0 o w_f w_n 2  r_39 g_40) (cwV 1 hts (aw_V aw_223 aw_225 aw_p12 aw_1 aw_226) rfl rfl rfl (by decide +kernel) ⟨Nat.le_of_ble_eq_true rfl, Nat.le_of_ble_eq_true rfl⟩) ⟨wBlind, va_recv hK hP (ci := 0) (q0 := 0) rfl rfl, fun U hU hW => ⟨rfl, by rw [hU]; exact hP, va_K.moved hW.alike hK, hD, hT.at hS hU hW (fun _ z => z)⟩⟩ rfl rfl hl.1 rfl (lv_room (Nat.le_of_ble_eq_true rfl)) d_C_writeOperand_117 ⟨Nat.le_refl _, Nat.le_refl _⟩) hS (fun _ _ h => h) (fun _ h => h) (fun u t H1 locs ht1 hvm hw hB hz1 hk1 hS => ?_)
                  rw [hw] at hB
                  rw [ht1] at hB
                  have hP : va_P (dC, dI) cls2 (wC cA h0 o r_39.1 r_39.2) H1 := hB
                  have hD : va_D (aC h0 o) (wC cA h0 o r_39.1 r_39.2) := dD hD0 rfl
                  refine lv_goto (tgt := 190) hx hb d_C_writeOperand_120 (by decide) ?_
                  exact W.vret hx hb hr (fun t ht hW => ⟨⟨(r_39.1, r_39.2), rfl, Option.some.inj hf, by rw [← ht] at hP; exact hP⟩, hS.F ht⟩) hS.2.2 d_C_writeOperand_190
                · replace hf := (if_neg c_38).symm.trans hf
                  refine lv_lookup (off := 180) (tgt := 181) hx hb d_C_writeOperand_1 (by decide) (by show Op.lookupswitch.offset [(73, 122), (79, 134), (80, 165), (83, 152), (97, 88), (98, 101), (100, 75), (115, 114)] 180 _ = _; rw [lv_osw (a := 73) c_1 rfl, lv_osw (a := 79) c_6 rfl, lv_osw (a := 80) c_13 rfl, lv_osw (a := 83) c_18 rfl, lv_osw (a := 97) c_23 rfl, lv_osw (a := 98) c_28 rfl, lv_osw (a := 100) c_33 rfl, lv_osw (a := 115) c_38 rfl]; rfl) (by decide) ?_
                  refine lv_aload_n hx hb d_C_writeOperand_181 rfl (lv_at hl 0 rfl) ?_
                  refine lv_aload_n hx hb d_C_writeOperand_182 rfl (lv_at hl 2 rfl) ?_
                  refine lv_iload_n hx hb d_C_writeOperand_183 rfl (lv_at hl 3 rfl) ?_
                  obtain ⟨r_41, g_42, hf⟩ := Option.bind_eq_some_iff.mp hf
                  refine ju_calli (W.runV (As := [.int (a2)]) (rest := [.ref (h0)]) ⟨hx, hb, hml, hown, hts⟩ (c_K_immediate l (ad := ad) (sk := sk) (sv := sv) (tK := tK)  a1 a2 ha1 r_41 g_42) (cwV 1 hts (aw_V aw_148 aw_113 aw_114 aw_12 aw_115) rfl rfl rfl (by decide +kernel) ⟨Nat.le_of_ble_eq_true rfl, Nat.le_of_ble_eq_true rfl⟩) ⟨fun a U g mk q => ⟨q.1, q.2.call⟩, tb_recvK hT ha1 hS, fun U hU hW => ⟨rfl, hT.at hS hU hW (fun _ z => z.elim)⟩⟩ rfl rfl hl.1 rfl (lv_room (Nat.le_of_ble_eq_true rfl)) d_C_writeOperand_184 ⟨Nat.le_refl _, Nat.le_refl _⟩) ?_
                  obtain ⟨r_43, g_44, hf⟩ := Option.bind_eq_some_iff.mp hf
                  refine va_callv (va_runV (As := [.int (r_41)]) (rest := []) ⟨hx, hb, hml, hown, hts⟩ (c_C_writeHex l (ad := ad) (sk := sk) (sv := sv) (tK := tK) dC dI cA h0 o w_f w_n r_41  r_43 g_44) (cwV 1 hts (aw_V aw_202 aw_204 aw_p9 aw_1 aw_205) rfl rfl rfl (by decide +kernel) ⟨Nat.le_of_ble_eq_true rfl, Nat.le_of_ble_eq_true rfl⟩) ⟨wBlind, va_recv hK hP (ci := 0) (q0 := 0) rfl rfl, fun U hU hW => ⟨rfl, by rw [hU]; exact hP, va_K.moved hW.alike hK, hD, hT.at hS hU hW (fun _ z => z)⟩⟩ rfl rfl hl.1 rfl (lv_room (Nat.le_of_ble_eq_true rfl)) d_C_writeOperand_187 ⟨Nat.le_refl _, Nat.le_refl _⟩) hS (fun _ _ h => h) (fun _ h => h) (fun u t H1 locs ht1 hvm hw hB hz1 hk1 hS => ?_)
                  rw [hw] at hB
                  rw [ht1] at hB
                  have hP : va_P (dC, dI) cls2 (wC cA h0 o r_43.1 r_43.2) H1 := hB
                  have hD : va_D (aC h0 o) (wC cA h0 o r_43.1 r_43.2) := dD hD0 rfl
                  exact W.vret hx hb hr (fun t ht hW => ⟨⟨(r_43.1, r_43.2), rfl, Option.some.inj hf, by rw [← ht] at hP; exact hP⟩, hS.F ht⟩) hS.2.2 d_C_writeOperand_190

def f_C_writeLegal_L11 (w_f : Nat → Int32) (w_n : Int32) (a0 : Nat) (a1 : Int32) (a2 : Int32)  : Nat → Int32 → (Nat → Int32) → Int32 → Option ((Nat → Int32) × Int32)
  | 0, _, _, _ => none
  | n + 1, x4, y_f, y_n =>
    if 3 ≤ x4 then (some (y_f, y_n)) else ((f_C_operandAt (((k_pattern a0) * 3) + x4)).bind fun r_4 => if r_4 = 32 then (f_C_writeLegal_L11 w_f w_n a0 a1 a2  n (x4 + 1) y_f y_n) else (if x4 = 0 then ((f_C_writeString y_f y_n 4).bind fun r_12 => (f_C_writeOperand r_12.1 r_12.2 r_4 a0 a1 a2).bind fun r_14 => f_C_writeLegal_L11 w_f w_n a0 a1 a2  n (x4 + 1) r_14.1 r_14.2) else ((f_C_writeString y_f y_n 5).bind fun r_8 => (f_C_writeOperand r_8.1 r_8.2 r_4 a0 a1 a2).bind fun r_10 => f_C_writeLegal_L11 w_f w_n a0 a1 a2  n (x4 + 1) r_10.1 r_10.2)))
def f_C_writeLegal (w_f : Nat → Int32) (w_n : Int32) (a0 : Nat) (a1 : Int32) (a2 : Int32) : Option ((Nat → Int32) × Int32) :=
  (f_C_writeString w_f w_n (k_title a0)).bind fun r_1 => f_C_writeLegal_L11 w_f w_n a0 a1 a2  40 0 r_1.1 r_1.2
set_option maxHeartbeats 1000000 in
set_option maxRecDepth 100000 in
theorem c_C_writeLegal (l : Launch) {ad sk sv : Nat → Nat} {tK : Nat} (dC : Nat → ClassId) (dI : Nat → Nat → Nat) (cA : ClassId) (h0 o : Nat) (w_f : Nat → Int32) (w_n : Int32) (a0 : Nat) (a1 : Int32) (a2 : Int32) (ha0 : a0 < 75) (r : (Nat → Int32) × Int32) (hf : f_C_writeLegal w_f w_n a0 a1 a2 = some r) : Met l y_C_writeLegal (Cond.code y_C_writeLegal b_C_writeLegal 6 (Option.none : Option FieldType) :: aw) ({ frames := 7, cells := 0, slots := 0, locals := 154 } : Room) (va_Pc [.ref (h0), .ref (ad a0), .int (a1), .int (a2)] (fun U => va_P (dC, dI) cls2 (wC cA h0 o w_f w_n) U.heap ∧ va_K (dC, dI) cls2 [(cA, .char)] U ∧ va_D (aC h0 o) (wC cA h0 o w_f w_n) ∧ tb ad sk sv tK (aC h0 o) U U.heap)) (va_Qv (fun u => u = r) (fun (u : (Nat → Int32) × Int32) t => va_P (dC, dI) cls2 (wC cA h0 o u.1 u.2) t.heap) (aC h0 o)) 0 0 (aC h0 o) := by
  refine Met.ofW (cc := b_C_writeLegal) (maxL := 6) (ret := (Option.none : Option FieldType)) (by decide) rfl ?_
  intro p e s m args below meth c s₁ B hml hv
  obtain ⟨rfl, hP, hK, hD, hT⟩ := hv
  have hD0 := hD
  have hx := B.exec
  have hb := B.bytes
  have hr := B.returns
  have hts := atoms_spec (ws := (Cond.code y_C_writeLegal b_C_writeLegal 6 (Option.none : Option FieldType) :: aw)) B.pre
  have ht : ∀ {w : Cond}, w ∈ aw → w.before ([.ref (h0), .ref (ad a0), .int (a1), .int (a2)] : List Value).toArray s = true := fun h => hts _ (List.mem_cons_of_mem _ h)
  have hown : s.vm.findClass "CodeWords" = some m.cls := findClass_of_methodNamed B.named
  have hlocks := B.notSynchronized
  have hS : va_S (aC h0 o) s.heap s.heap [] := va_S.rf
  have hl := lv_entry ([.ref (h0), .ref (ad a0), .int (a1), .int (a2)]) (n := 6) (Nat.le_of_ble_eq_true rfl)
  rw [lg_entry_eq]
  generalize (lg_sl ([.ref (h0), .ref (ad a0), .int (a1), .int (a2)]) ++ List.replicate (6 - (lg_sl ([.ref (h0), .ref (ad a0), .int (a1), .int (a2)])).length) Slot.unset).toArray = ls at hl ⊢
  have hl : lv_has ls 6 [(0, .ref (h0)), (1, .ref (ad a0)), (2, .int (a1)), (3, .int (a2))] := hl
  have J11 : ∀ (n : Nat) (x4 : Int32) (y_f : (Nat → Int32)) (y_n : Int32) (H : Heap) (locs : List Loc) (ls : Array Slot), va_P (dC, dI) cls2 (wC cA h0 o y_f y_n) H → va_S (aC h0 o) s.heap H locs → lv_has ls 6 [(0, .ref (h0)), (1, .ref (ad a0)), (2, .int (a1)), (3, .int (a2)), (4, .int (x4))] → f_C_writeLegal_L11 w_f w_n a0 a1 a2  n x4 y_f y_n = some r → wW p l e (headSpec (Cond.code y_C_writeLegal b_C_writeLegal 6 (Option.none : Option FieldType) :: aw) ({ frames := 7, cells := 0, slots := 0, locals := 154 } : Room)).room s m ([.ref (h0), .ref (ad a0), .int (a1), .int (a2)] : List Value).toArray below meth c (va_Qv (fun u => u = r) (fun (u : (Nat → Int32) × Int32) t => va_P (dC, dI) cls2 (wC cA h0 o u.1 u.2) t.heap) (aC h0 o)) (aC h0 o) H locs (F0 m 11 ls []) := by
    intro n
    induction n with
    | zero =>
      intro x4 y_f y_n H locs ls hP hS hl hf
      rw [f_C_writeLegal_L11] at hf
      cases hf
    | succ n ih =>
      intro x4 y_f y_n H locs ls hP hS hl hf
      rw [f_C_writeLegal_L11] at hf
      have hD : va_D (aC h0 o) (wC cA h0 o y_f y_n) := dD hD0 rfl
      refine lv_iload hx hb d_C_writeLegal_11 (lv_at hl 4 rfl) ?_
      refine lv_iconst (v := 3) hx hb d_C_writeLegal_13 (by decide) ?_
      refine lv_icmp_ge (tgt := 69) hx hb d_C_writeLegal_14 (by decide) (fun c_3 => ?_) (fun c_3 => ?_)
      · replace hf := (if_pos c_3).symm.trans hf
        exact W.vret hx hb hr (fun t ht hW => ⟨⟨(y_f, y_n), rfl, Option.some.inj hf, by rw [← ht] at hP; exact hP⟩, hS.F ht⟩) hS.2.2 d_C_writeLegal_69
      · replace hf := (if_neg c_3).symm.trans hf
        refine lv_aload_n hx hb d_C_writeLegal_17 rfl (lv_at hl 1 rfl) ?_
        refine vk_getf (v := .int (k_pattern a0)) hx hb (tb_pattern hT ha0) hS hown (ht aw_777) (fun _ h9 => h9) d_C_writeLegal_18 ?_
        refine lv_iconst (v := 3) hx hb d_C_writeLegal_21 (by decide) ?_
        refine lv_imul hx hb d_C_writeLegal_22 ?_
        refine lv_iload hx hb d_C_writeLegal_23 (lv_at hl 4 rfl) ?_
        refine lv_iadd hx hb d_C_writeLegal_25 ?_
        obtain ⟨r_4, g_5, hf⟩ := Option.bind_eq_some_iff.mp hf
        refine ju_calli (W.runS (As := [.int (((k_pattern a0) * 3) + x4)]) (rest := []) ⟨hx, hb, hml, hown, hts⟩ (c_C_operandAt l (ad := ad) (sk := sk) (sv := sv) (tK := tK)  (((k_pattern a0) * 3) + x4)  r_4 g_5) (va_cwS 1 hts (aw_S aw_213 aw_214 aw_1 aw_215) rfl rfl rfl (by decide +kernel) ⟨Nat.le_of_ble_eq_true rfl, Nat.le_of_ble_eq_true rfl⟩) ⟨fun a U g mk q => ⟨q.1, q.2.call⟩, fun U hU hW => ⟨rfl, hT.at hS hU hW (fun _ z => z.elim)⟩⟩ rfl rfl hl.1 rfl (lv_room (Nat.le_of_ble_eq_true rfl)) d_C_writeLegal_26 ⟨Nat.le_refl _, Nat.le_refl _⟩) ?_
        refine lv_istore (lv' := [(5, .int (r_4)), (0, .ref (h0)), (1, .ref (ad a0)), (2, .int (a1)), (3, .int (a2)), (4, .int (x4))]) hx hb d_C_writeLegal_29 hl (by decide) rfl (fun ls hl => ?_)
        refine lv_iload hx hb d_C_writeLegal_31 (lv_at hl 0 rfl) ?_
        refine lv_bipush (v := 32) hx hb d_C_writeLegal_33 (by decide) ?_
        refine lv_icmp_eq (tgt := 63) hx hb d_C_writeLegal_35 (by decide) (fun c_6 => ?_) (fun c_6 => ?_)
        · replace hf := (if_pos c_6).symm.trans hf
          refine lv_iinc (v := x4 + 1) (lv' := [(4, .int (x4 + 1)), (5, .int (r_4)), (0, .ref (h0)), (1, .ref (ad a0)), (2, .int (a1)), (3, .int (a2))]) hx hb d_C_writeLegal_63 hl (k := 5) rfl rfl (by decide) rfl (fun ls hl => ?_)
          refine lv_goto (tgt := 11) hx hb d_C_writeLegal_66 (by decide) ?_
          exact ih (x4 + 1) y_f y_n _ _ _ hP hS (lv_sub hl [2, 3, 4, 5, 0] rfl) hf
        · replace hf := (if_neg c_6).symm.trans hf
          refine lv_aload_n hx hb d_C_writeLegal_38 rfl (lv_at hl 1 rfl) ?_
          refine lv_iload hx hb d_C_writeLegal_39 (lv_at hl 5 rfl) ?_
          refine lv_if_ne (tgt := 49) hx hb d_C_writeLegal_41 (by decide) (fun c_7 => ?_) (fun c_7 => ?_)
          · replace hf := (if_neg c_7).symm.trans hf
            refine va_ldcS hx hb hown (tb_r154 hT) d_C_writeLegal_49 ?_
            obtain ⟨r_8, g_9, hf⟩ := Option.bind_eq_some_iff.mp hf
            refine va_callv (va_runV (As := [.ref (sk 5)]) (rest := []) ⟨hx, hb, hml, hown, hts⟩ (c_C_writeString l (ad := ad) (sk := sk) (sv := sv) (tK := tK) dC dI cA h0 o y_f y_n 5 (by decide) r_8 g_9) (cwV 1 hts (aw_V aw_194 aw_196 aw_p7 aw_1 aw_197) rfl rfl rfl (by decide +kernel) ⟨Nat.le_of_ble_eq_true rfl, Nat.le_of_ble_eq_true rfl⟩) ⟨wBlind, va_recv hK hP (ci := 0) (q0 := 0) rfl rfl, fun U hU hW => ⟨rfl, by rw [hU]; exact hP, va_K.moved hW.alike hK, hD, hT.at hS hU hW (fun _ z => z)⟩⟩ rfl rfl hl.1 rfl (lv_room (Nat.le_of_ble_eq_true rfl)) d_C_writeLegal_51 ⟨Nat.le_refl _, Nat.le_refl _⟩) hS (fun _ _ h => h) (fun _ h => h) (fun u t H1 locs ht1 hvm hw hB hz1 hk1 hS => ?_)
            rw [hw] at hB
            rw [ht1] at hB
            have hP : va_P (dC, dI) cls2 (wC cA h0 o r_8.1 r_8.2) H1 := hB
            have hD : va_D (aC h0 o) (wC cA h0 o r_8.1 r_8.2) := dD hD0 rfl
            refine lv_aload_n hx hb d_C_writeLegal_54 rfl (lv_at hl 1 rfl) ?_
            refine lv_iload hx hb d_C_writeLegal_55 (lv_at hl 0 rfl) ?_
            refine lv_aload_n hx hb d_C_writeLegal_57 rfl (lv_at hl 2 rfl) ?_
            refine lv_iload_n hx hb d_C_writeLegal_58 rfl (lv_at hl 3 rfl) ?_
            refine lv_iload_n hx hb d_C_writeLegal_59 rfl (lv_at hl 4 rfl) ?_
            obtain ⟨r_10, g_11, hf⟩ := Option.bind_eq_some_iff.mp hf
            refine va_callv (va_runV (As := [.int (r_4), .ref (ad a0), .int (a1), .int (a2)]) (rest := []) ⟨hx, hb, hml, hown, hts⟩ (c_C_writeOperand l (ad := ad) (sk := sk) (sv := sv) (tK := tK) dC dI cA h0 o r_8.1 r_8.2 r_4 a0 a1 a2 ha0 r_10 g_11) (cwV 4 hts (aw_V aw_219 aw_221 aw_p11 aw_1 aw_222) rfl rfl rfl (by decide +kernel) ⟨Nat.le_of_ble_eq_true rfl, Nat.le_of_ble_eq_true rfl⟩) ⟨wBlind, va_recv hK hP (ci := 0) (q0 := 0) rfl rfl, fun U hU hW => ⟨rfl, by rw [hU]; exact hP, va_K.moved hW.alike hK, hD, hT.at hS hU hW (fun _ z => z)⟩⟩ rfl rfl hl.1 rfl (lv_room (Nat.le_of_ble_eq_true rfl)) d_C_writeLegal_60 ⟨Nat.le_refl _, Nat.le_refl _⟩) hS (fun _ _ h => h) (fun _ h => h) (fun u t H1 locs ht1 hvm hw hB hz1 hk1 hS => ?_)
            rw [hw] at hB
            rw [ht1] at hB
            have hP : va_P (dC, dI) cls2 (wC cA h0 o r_10.1 r_10.2) H1 := hB
            have hD : va_D (aC h0 o) (wC cA h0 o r_10.1 r_10.2) := dD hD0 rfl
            refine lv_iinc (v := x4 + 1) (lv' := [(4, .int (x4 + 1)), (5, .int (r_4)), (0, .ref (h0)), (1, .ref (ad a0)), (2, .int (a1)), (3, .int (a2))]) hx hb d_C_writeLegal_63 hl (k := 5) rfl rfl (by decide) rfl (fun ls hl => ?_)
            refine lv_goto (tgt := 11) hx hb d_C_writeLegal_66 (by decide) ?_
            exact ih (x4 + 1) r_10.1 r_10.2 _ _ _ hP hS (lv_sub hl [2, 3, 4, 5, 0] rfl) hf
          · replace hf := (if_pos c_7).symm.trans hf
            refine va_ldcS hx hb hown (tb_r152 hT) d_C_writeLegal_44 ?_
            refine lv_goto (tgt := 51) hx hb d_C_writeLegal_46 (by decide) ?_
            obtain ⟨r_12, g_13, hf⟩ := Option.bind_eq_some_iff.mp hf
            refine va_callv (va_runV (As := [.ref (sk 4)]) (rest := []) ⟨hx, hb, hml, hown, hts⟩ (c_C_writeString l (ad := ad) (sk := sk) (sv := sv) (tK := tK) dC dI cA h0 o y_f y_n 4 (by decide) r_12 g_13) (cwV 1 hts (aw_V aw_194 aw_196 aw_p7 aw_1 aw_197) rfl rfl rfl (by decide +kernel) ⟨Nat.le_of_ble_eq_true rfl, Nat.le_of_ble_eq_true rfl⟩) ⟨wBlind, va_recv hK hP (ci := 0) (q0 := 0) rfl rfl, fun U hU hW => ⟨rfl, by rw [hU]; exact hP, va_K.moved hW.alike hK, hD, hT.at hS hU hW (fun _ z => z)⟩⟩ rfl rfl hl.1 rfl (lv_room (Nat.le_of_ble_eq_true rfl)) d_C_writeLegal_51 ⟨Nat.le_refl _, Nat.le_refl _⟩) hS (fun _ _ h => h) (fun _ h => h) (fun u t H1 locs ht1 hvm hw hB hz1 hk1 hS => ?_)
            rw [hw] at hB
            rw [ht1] at hB
            have hP : va_P (dC, dI) cls2 (wC cA h0 o r_12.1 r_12.2) H1 := hB
            have hD : va_D (aC h0 o) (wC cA h0 o r_12.1 r_12.2) := dD hD0 rfl
            refine lv_aload_n hx hb d_C_writeLegal_54 rfl (lv_at hl 1 rfl) ?_
            refine lv_iload hx hb d_C_writeLegal_55 (lv_at hl 0 rfl) ?_
            refine lv_aload_n hx hb d_C_writeLegal_57 rfl (lv_at hl 2 rfl) ?_
            refine lv_iload_n hx hb d_C_writeLegal_58 rfl (lv_at hl 3 rfl) ?_
            refine lv_iload_n hx hb d_C_writeLegal_59 rfl (lv_at hl 4 rfl) ?_
            obtain ⟨r_14, g_15, hf⟩ := Option.bind_eq_some_iff.mp hf
            refine va_callv (va_runV (As := [.int (r_4), .ref (ad a0), .int (a1), .int (a2)]) (rest := []) ⟨hx, hb, hml, hown, hts⟩ (c_C_writeOperand l (ad := ad) (sk := sk) (sv := sv) (tK := tK) dC dI cA h0 o r_12.1 r_12.2 r_4 a0 a1 a2 ha0 r_14 g_15) (cwV 4 hts (aw_V aw_219 aw_221 aw_p11 aw_1 aw_222) rfl rfl rfl (by decide +kernel) ⟨Nat.le_of_ble_eq_true rfl, Nat.le_of_ble_eq_true rfl⟩) ⟨wBlind, va_recv hK hP (ci := 0) (q0 := 0) rfl rfl, fun U hU hW => ⟨rfl, by rw [hU]; exact hP, va_K.moved hW.alike hK, hD, hT.at hS hU hW (fun _ z => z)⟩⟩ rfl rfl hl.1 rfl (lv_room (Nat.le_of_ble_eq_true rfl)) d_C_writeLegal_60 ⟨Nat.le_refl _, Nat.le_refl _⟩) hS (fun _ _ h => h) (fun _ h => h) (fun u t H1 locs ht1 hvm hw hB hz1 hk1 hS => ?_)
            rw [hw] at hB
            rw [ht1] at hB
            have hP : va_P (dC, dI) cls2 (wC cA h0 o r_14.1 r_14.2) H1 := hB
            have hD : va_D (aC h0 o) (wC cA h0 o r_14.1 r_14.2) := dD hD0 rfl
            refine lv_iinc (v := x4 + 1) (lv' := [(4, .int (x4 + 1)), (5, .int (r_4)), (0, .ref (h0)), (1, .ref (ad a0)), (2, .int (a1)), (3, .int (a2))]) hx hb d_C_writeLegal_63 hl (k := 5) rfl rfl (by decide) rfl (fun ls hl => ?_)
            refine lv_goto (tgt := 11) hx hb d_C_writeLegal_66 (by decide) ?_
            exact ih (x4 + 1) r_14.1 r_14.2 _ _ _ hP hS (lv_sub hl [2, 3, 4, 5, 0] rfl) hf
  rw [f_C_writeLegal] at hf
  refine lv_aload_n hx hb d_C_writeLegal_0 rfl (lv_at hl 0 rfl) ?_
  refine lv_aload_n hx hb d_C_writeLegal_1 rfl (lv_at hl 1 rfl) ?_
  refine vk_getf (v := .ref (sk (k_title a0))) hx hb (tb_title hT ha0) hS hown (ht aw_776) (fun _ h9 => h9) d_C_writeLegal_2 ?_
  obtain ⟨r_1, g_2, hf⟩ := Option.bind_eq_some_iff.mp hf
  refine va_callv (va_runV (As := [.ref (sk (k_title a0))]) (rest := []) ⟨hx, hb, hml, hown, hts⟩ (c_C_writeString l (ad := ad) (sk := sk) (sv := sv) (tK := tK) dC dI cA h0 o w_f w_n (k_title a0) (k_title_lt ha0) r_1 g_2) (cwV 1 hts (aw_V aw_194 aw_196 aw_p7 aw_1 aw_197) rfl rfl rfl (by decide +kernel) ⟨Nat.le_of_ble_eq_true rfl, Nat.le_of_ble_eq_true rfl⟩) ⟨wBlind, va_recv hK hP (ci := 0) (q0 := 0) rfl rfl, fun U hU hW => ⟨rfl, by rw [hU]; exact hP, va_K.moved hW.alike hK, hD, hT.at hS hU hW (fun _ z => z)⟩⟩ rfl rfl hl.1 rfl (lv_room (Nat.le_of_ble_eq_true rfl)) d_C_writeLegal_5 ⟨Nat.le_refl _, Nat.le_refl _⟩) hS (fun _ _ h => h) (fun _ h => h) (fun u t H1 locs ht1 hvm hw hB hz1 hk1 hS => ?_)
  rw [hw] at hB
  rw [ht1] at hB
  have hP : va_P (dC, dI) cls2 (wC cA h0 o r_1.1 r_1.2) H1 := hB
  have hD : va_D (aC h0 o) (wC cA h0 o r_1.1 r_1.2) := dD hD0 rfl
  refine lv_iconst (v := 0) hx hb d_C_writeLegal_8 (by decide) ?_
  refine lv_istore (lv' := [(4, .int (0)), (0, .ref (h0)), (1, .ref (ad a0)), (2, .int (a1)), (3, .int (a2))]) hx hb d_C_writeLegal_9 hl (by decide) rfl (fun ls hl => ?_)
  exact J11 40 0 r_1.1 r_1.2 _ _ _ hP hS (lv_sub hl [1, 2, 3, 4, 0] rfl) hf

def f_C_writeIllegal (w_f : Nat → Int32) (w_n : Int32) (a0 : Int32) : Option ((Nat → Int32) × Int32) :=
  (f_C_isLong a0).bind fun r_1 => if (bI r_1) = 0 then ((f_C_writeString w_f w_n 2).bind fun r_4 => (f_C_writeHex r_4.1 r_4.2 (a0 &&& 65535)).bind fun r_6 => some (r_6.1, r_6.2)) else ((f_C_writeString w_f w_n 0).bind fun r_8 => (f_C_writeHex r_8.1 r_8.2 a0).bind fun r_10 => some (r_10.1, r_10.2))
set_option maxHeartbeats 1000000 in
set_option maxRecDepth 100000 in
theorem c_C_writeIllegal (l : Launch) {ad sk sv : Nat → Nat} {tK : Nat} (dC : Nat → ClassId) (dI : Nat → Nat → Nat) (cA : ClassId) (h0 o : Nat) (w_f : Nat → Int32) (w_n : Int32) (a0 : Int32)  (r : (Nat → Int32) × Int32) (hf : f_C_writeIllegal w_f w_n a0 = some r) : Met l y_C_writeIllegal (Cond.code y_C_writeIllegal b_C_writeIllegal 2 (Option.none : Option FieldType) :: aw) ({ frames := 6, cells := 0, slots := 0, locals := 130 } : Room) (va_Pc [.ref (h0), .int (a0)] (fun U => va_P (dC, dI) cls2 (wC cA h0 o w_f w_n) U.heap ∧ va_K (dC, dI) cls2 [(cA, .char)] U ∧ va_D (aC h0 o) (wC cA h0 o w_f w_n) ∧ tb ad sk sv tK (aC h0 o) U U.heap)) (va_Qv (fun u => u = r) (fun (u : (Nat → Int32) × Int32) t => va_P (dC, dI) cls2 (wC cA h0 o u.1 u.2) t.heap) (aC h0 o)) 0 0 (aC h0 o) := by
  refine Met.ofW (cc := b_C_writeIllegal) (maxL := 2) (ret := (Option.none : Option FieldType)) (by decide) rfl ?_
  intro p e s m args below meth c s₁ B hml hv
  obtain ⟨rfl, hP, hK, hD, hT⟩ := hv
  have hD0 := hD
  have hx := B.exec
  have hb := B.bytes
  have hr := B.returns
  have hts := atoms_spec (ws := (Cond.code y_C_writeIllegal b_C_writeIllegal 2 (Option.none : Option FieldType) :: aw)) B.pre
  have ht : ∀ {w : Cond}, w ∈ aw → w.before ([.ref (h0), .int (a0)] : List Value).toArray s = true := fun h => hts _ (List.mem_cons_of_mem _ h)
  have hown : s.vm.findClass "CodeWords" = some m.cls := findClass_of_methodNamed B.named
  have hlocks := B.notSynchronized
  have hS : va_S (aC h0 o) s.heap s.heap [] := va_S.rf
  have hl := lv_entry ([.ref (h0), .int (a0)]) (n := 2) (Nat.le_of_ble_eq_true rfl)
  rw [lg_entry_eq]
  generalize (lg_sl ([.ref (h0), .int (a0)]) ++ List.replicate (2 - (lg_sl ([.ref (h0), .int (a0)])).length) Slot.unset).toArray = ls at hl ⊢
  have hl : lv_has ls 2 [(0, .ref (h0)), (1, .int (a0))] := hl
  rw [f_C_writeIllegal] at hf
  refine lv_iload_n hx hb d_C_writeIllegal_0 rfl (lv_at hl 1 rfl) ?_
  obtain ⟨r_1, g_2, hf⟩ := Option.bind_eq_some_iff.mp hf
  refine ju_calli (W.runS (As := [.int (a0)]) (rest := []) ⟨hx, hb, hml, hown, hts⟩ (c_C_isLong l (ad := ad) (sk := sk) (sv := sv) (tK := tK)  a0  r_1 g_2) (va_cwS 1 hts (aw_S aw_140 aw_141 aw_1 aw_142) rfl rfl rfl (by decide +kernel) ⟨Nat.le_of_ble_eq_true rfl, Nat.le_of_ble_eq_true rfl⟩) ⟨fun a U g mk q => ⟨q.1, q.2.call⟩, fun U hU hW => ⟨rfl, hT.at hS hU hW (fun _ z => z.elim)⟩⟩ rfl rfl hl.1 rfl (lv_room (Nat.le_of_ble_eq_true rfl)) d_C_writeIllegal_1 ⟨Nat.le_refl _, Nat.le_refl _⟩) ?_
  refine lv_if_eq (tgt := 21) hx hb d_C_writeIllegal_4 (by decide) (fun c_3 => ?_) (fun c_3 => ?_)
  · replace hf := (if_pos c_3).symm.trans hf
    refine lv_aload_n hx hb d_C_writeIllegal_21 rfl (lv_at hl 0 rfl) ?_
    refine va_ldcS hx hb hown (tb_r146 hT) d_C_writeIllegal_22 ?_
    obtain ⟨r_4, g_5, hf⟩ := Option.bind_eq_some_iff.mp hf
    refine va_callv (va_runV (As := [.ref (sk 2)]) (rest := []) ⟨hx, hb, hml, hown, hts⟩ (c_C_writeString l (ad := ad) (sk := sk) (sv := sv) (tK := tK) dC dI cA h0 o w_f w_n 2 (by decide) r_4 g_5) (cwV 1 hts (aw_V aw_194 aw_196 aw_p7 aw_1 aw_197) rfl rfl rfl (by decide +kernel) ⟨Nat.le_of_ble_eq_true rfl, Nat.le_of_ble_eq_true rfl⟩) ⟨wBlind, va_recv hK hP (ci := 0) (q0 := 0) rfl rfl, fun U hU hW => ⟨rfl, by rw [hU]; exact hP, va_K.moved hW.alike hK, hD, hT.at hS hU hW (fun _ z => z)⟩⟩ rfl rfl hl.1 rfl (lv_room (Nat.le_of_ble_eq_true rfl)) d_C_writeIllegal_24 ⟨Nat.le_refl _, Nat.le_refl _⟩) hS (fun _ _ h => h) (fun _ h => h) (fun u t H1 locs ht1 hvm hw hB hz1 hk1 hS => ?_)
    rw [hw] at hB
    rw [ht1] at hB
    have hP : va_P (dC, dI) cls2 (wC cA h0 o r_4.1 r_4.2) H1 := hB
    have hD : va_D (aC h0 o) (wC cA h0 o r_4.1 r_4.2) := dD hD0 rfl
    refine lv_aload_n hx hb d_C_writeIllegal_27 rfl (lv_at hl 0 rfl) ?_
    refine lv_iload_n hx hb d_C_writeIllegal_28 rfl (lv_at hl 1 rfl) ?_
    refine lv_ldc (v := 65535) hx hb hown (ht aw_208) d_C_writeIllegal_29 ?_
    refine lv_iand hx hb d_C_writeIllegal_31 ?_
    obtain ⟨r_6, g_7, hf⟩ := Option.bind_eq_some_iff.mp hf
    refine va_callv (va_runV (As := [.int (a0 &&& 65535)]) (rest := []) ⟨hx, hb, hml, hown, hts⟩ (c_C_writeHex l (ad := ad) (sk := sk) (sv := sv) (tK := tK) dC dI cA h0 o r_4.1 r_4.2 (a0 &&& 65535)  r_6 g_7) (cwV 1 hts (aw_V aw_202 aw_204 aw_p9 aw_1 aw_205) rfl rfl rfl (by decide +kernel) ⟨Nat.le_of_ble_eq_true rfl, Nat.le_of_ble_eq_true rfl⟩) ⟨wBlind, va_recv hK hP (ci := 0) (q0 := 0) rfl rfl, fun U hU hW => ⟨rfl, by rw [hU]; exact hP, va_K.moved hW.alike hK, hD, hT.at hS hU hW (fun _ z => z)⟩⟩ rfl rfl hl.1 rfl (lv_room (Nat.le_of_ble_eq_true rfl)) d_C_writeIllegal_32 ⟨Nat.le_refl _, Nat.le_refl _⟩) hS (fun _ _ h => h) (fun _ h => h) (fun u t H1 locs ht1 hvm hw hB hz1 hk1 hS => ?_)
    rw [hw] at hB
    rw [ht1] at hB
    have hP : va_P (dC, dI) cls2 (wC cA h0 o r_6.1 r_6.2) H1 := hB
    have hD : va_D (aC h0 o) (wC cA h0 o r_6.1 r_6.2) := dD hD0 rfl
    exact W.vret hx hb hr (fun t ht hW => ⟨⟨(r_6.1, r_6.2), rfl, Option.some.inj hf, by rw [← ht] at hP; exact hP⟩, hS.F ht⟩) hS.2.2 d_C_writeIllegal_35
  · replace hf := (if_neg c_3).symm.trans hf
    refine lv_aload_n hx hb d_C_writeIllegal_7 rfl (lv_at hl 0 rfl) ?_
    refine va_ldcS hx hb hown (tb_r138 hT) d_C_writeIllegal_8 ?_
    obtain ⟨r_8, g_9, hf⟩ := Option.bind_eq_some_iff.mp hf
    refine va_callv (va_runV (As := [.ref (sk 0)]) (rest := []) ⟨hx, hb, hml, hown, hts⟩ (c_C_writeString l (ad := ad) (sk := sk) (sv := sv) (tK := tK) dC dI cA h0 o w_f w_n 0 (by decide) r_8 g_9) (cwV 1 hts (aw_V aw_194 aw_196 aw_p7 aw_1 aw_197) rfl rfl rfl (by decide +kernel) ⟨Nat.le_of_ble_eq_true rfl, Nat.le_of_ble_eq_true rfl⟩) ⟨wBlind, va_recv hK hP (ci := 0) (q0 := 0) rfl rfl, fun U hU hW => ⟨rfl, by rw [hU]; exact hP, va_K.moved hW.alike hK, hD, hT.at hS hU hW (fun _ z => z)⟩⟩ rfl rfl hl.1 rfl (lv_room (Nat.le_of_ble_eq_true rfl)) d_C_writeIllegal_10 ⟨Nat.le_refl _, Nat.le_refl _⟩) hS (fun _ _ h => h) (fun _ h => h) (fun u t H1 locs ht1 hvm hw hB hz1 hk1 hS => ?_)
    rw [hw] at hB
    rw [ht1] at hB
    have hP : va_P (dC, dI) cls2 (wC cA h0 o r_8.1 r_8.2) H1 := hB
    have hD : va_D (aC h0 o) (wC cA h0 o r_8.1 r_8.2) := dD hD0 rfl
    refine lv_aload_n hx hb d_C_writeIllegal_13 rfl (lv_at hl 0 rfl) ?_
    refine lv_iload_n hx hb d_C_writeIllegal_14 rfl (lv_at hl 1 rfl) ?_
    obtain ⟨r_10, g_11, hf⟩ := Option.bind_eq_some_iff.mp hf
    refine va_callv (va_runV (As := [.int (a0)]) (rest := []) ⟨hx, hb, hml, hown, hts⟩ (c_C_writeHex l (ad := ad) (sk := sk) (sv := sv) (tK := tK) dC dI cA h0 o r_8.1 r_8.2 a0  r_10 g_11) (cwV 1 hts (aw_V aw_202 aw_204 aw_p9 aw_1 aw_205) rfl rfl rfl (by decide +kernel) ⟨Nat.le_of_ble_eq_true rfl, Nat.le_of_ble_eq_true rfl⟩) ⟨wBlind, va_recv hK hP (ci := 0) (q0 := 0) rfl rfl, fun U hU hW => ⟨rfl, by rw [hU]; exact hP, va_K.moved hW.alike hK, hD, hT.at hS hU hW (fun _ z => z)⟩⟩ rfl rfl hl.1 rfl (lv_room (Nat.le_of_ble_eq_true rfl)) d_C_writeIllegal_15 ⟨Nat.le_refl _, Nat.le_refl _⟩) hS (fun _ _ h => h) (fun _ h => h) (fun u t H1 locs ht1 hvm hw hB hz1 hk1 hS => ?_)
    rw [hw] at hB
    rw [ht1] at hB
    have hP : va_P (dC, dI) cls2 (wC cA h0 o r_10.1 r_10.2) H1 := hB
    have hD : va_D (aC h0 o) (wC cA h0 o r_10.1 r_10.2) := dD hD0 rfl
    refine lv_goto (tgt := 35) hx hb d_C_writeIllegal_18 (by decide) ?_
    exact W.vret hx hb hr (fun t ht hW => ⟨⟨(r_10.1, r_10.2), rfl, Option.some.inj hf, by rw [← ht] at hP; exact hP⟩, hS.F ht⟩) hS.2.2 d_C_writeIllegal_35

def f_C_tell (w_f : Nat → Int32) (w_n : Int32) (a0 : Int32) (a1 : Int32) : Option (Int32 × (Nat → Int32) × Int32) :=
  (f_C_numberOf a0).bind fun r_1 => if r_1 = ((-1)) then ((f_C_writeIllegal w_f 0 a0).bind fun r_7 => some (r_7.2, r_7.1, r_7.2)) else (if r_1 < 0 ∨ 75 ≤ r_1.toNatClampNeg then none else (f_C_writeLegal w_f 0 r_1.toNatClampNeg a0 a1).bind fun r_5 => some (r_5.2, r_5.1, r_5.2))
set_option maxHeartbeats 1000000 in
set_option maxRecDepth 100000 in
theorem c_C_tell (l : Launch) {ad sk sv : Nat → Nat} {tK : Nat} (dC : Nat → ClassId) (dI : Nat → Nat → Nat) (cA : ClassId) (h0 o : Nat) (w_f : Nat → Int32) (w_n : Int32) (a0 : Int32) (a1 : Int32)  (r : Int32 × (Nat → Int32) × Int32) (hf : f_C_tell w_f w_n a0 a1 = some r) : Met l y_C_tell (Cond.code y_C_tell b_C_tell 4 (Option.some FieldType.int) :: aw) ({ frames := 9, cells := 0, slots := 0, locals := 195 } : Room) (va_Pc [.ref (h0), .int (a0), .int (a1)] (fun U => va_P (dC, dI) cls2 (wC cA h0 o w_f w_n) U.heap ∧ va_K (dC, dI) cls2 [(cA, .char)] U ∧ va_D (aC h0 o) (wC cA h0 o w_f w_n) ∧ tb ad sk sv tK (aC h0 o) U U.heap)) (va_Qi (fun v u => v = r.1 ∧ u = r.2) (fun (u : (Nat → Int32) × Int32) t => va_P (dC, dI) cls2 (wC cA h0 o u.1 u.2) t.heap) (aC h0 o)) 0 0 (aC h0 o) := by
  refine Met.ofW (cc := b_C_tell) (maxL := 4) (ret := (Option.some FieldType.int)) (by decide) rfl ?_
  intro p e s m args below meth c s₁ B hml hv
  obtain ⟨rfl, hP, hK, hD, hT⟩ := hv
  have hD0 := hD
  have hx := B.exec
  have hb := B.bytes
  have hr := B.returns
  have hts := atoms_spec (ws := (Cond.code y_C_tell b_C_tell 4 (Option.some FieldType.int) :: aw)) B.pre
  have ht : ∀ {w : Cond}, w ∈ aw → w.before ([.ref (h0), .int (a0), .int (a1)] : List Value).toArray s = true := fun h => hts _ (List.mem_cons_of_mem _ h)
  have hown : s.vm.findClass "CodeWords" = some m.cls := findClass_of_methodNamed B.named
  have hlocks := B.notSynchronized
  have hS : va_S (aC h0 o) s.heap s.heap [] := va_S.rf
  have hl := lv_entry ([.ref (h0), .int (a0), .int (a1)]) (n := 4) (Nat.le_of_ble_eq_true rfl)
  rw [lg_entry_eq]
  generalize (lg_sl ([.ref (h0), .int (a0), .int (a1)]) ++ List.replicate (4 - (lg_sl ([.ref (h0), .int (a0), .int (a1)])).length) Slot.unset).toArray = ls at hl ⊢
  have hl : lv_has ls 4 [(0, .ref (h0)), (1, .int (a0)), (2, .int (a1))] := hl
  rw [f_C_tell] at hf
  refine lv_aload_n hx hb d_C_tell_0 rfl (lv_at hl 0 rfl) ?_
  refine lv_iconst (v := 0) hx hb d_C_tell_1 (by decide) ?_
  refine va_put (D := (dC, dI)) (ci := 0) (v := .int (0)) (ty := .int) (C := "CodeWords") (T := F_C) (N := 2) hx hb hts (in_C _) ty_C tyok_C nm_C hown hK hP hD hS 0 rfl rfl 1 (by decide) (ht aw_24) (fun _ h9 => h9) rfl (by decide +kernel) rfl rfl (Nat.le_of_ble_eq_true rfl) d_C_tell_2 (fun H locs hP hD hS => ?_)
  have hP : va_P (dC, dI) cls2 (wC cA h0 o w_f 0) H := hP
  have hD : va_D (aC h0 o) (wC cA h0 o w_f 0) := hD
  refine lv_iload_n hx hb d_C_tell_5 rfl (lv_at hl 1 rfl) ?_
  obtain ⟨r_1, g_2, hf⟩ := Option.bind_eq_some_iff.mp hf
  refine ju_calli (W.runS (As := [.int (a0)]) (rest := []) ⟨hx, hb, hml, hown, hts⟩ (c_C_numberOf l (ad := ad) (sk := sk) (sv := sv) (tK := tK)  a0  r_1 g_2) (va_cwS 1 hts (aw_S aw_35 aw_36 aw_1 aw_37) rfl rfl rfl (by decide +kernel) ⟨Nat.le_of_ble_eq_true rfl, Nat.le_of_ble_eq_true rfl⟩) ⟨fun a U g mk q => ⟨q.1, q.2.call⟩, fun U hU hW => ⟨rfl, hT.at hS hU hW (fun _ z => z.elim)⟩⟩ rfl rfl hl.1 rfl (lv_room (Nat.le_of_ble_eq_true rfl)) d_C_tell_6 ⟨Nat.le_refl _, Nat.le_refl _⟩) ?_
  refine lv_istore_n (lv' := [(3, .int (r_1)), (0, .ref (h0)), (1, .int (a0)), (2, .int (a1))]) hx hb d_C_tell_9 rfl hl (by decide) rfl (fun ls hl => ?_)
  refine lv_iload_n hx hb d_C_tell_10 rfl (lv_at hl 0 rfl) ?_
  refine lv_iconst (v := (-1)) hx hb d_C_tell_11 (by decide) ?_
  refine lv_icmp_ne (tgt := 23) hx hb d_C_tell_12 (by decide) (fun c_3 => ?_) (fun c_3 => ?_)
  · replace hf := (if_neg c_3).symm.trans hf
    refine lv_aload_n hx hb d_C_tell_23 rfl (lv_at hl 1 rfl) ?_
    refine va_gets (v := .ref (tK)) hx hb hT.1 hS hown (ht aw_38) (fun _ h9 => h9) d_C_tell_24 ?_
    refine lv_iload_n hx hb d_C_tell_27 rfl (lv_at hl 0 rfl) ?_
    obtain ⟨z_4, hf⟩ := ju_gd hf
    refine vb_tq (v := .ref (ad r_1.toNatClampNeg)) hx hb hT.2.1 hS z_4 rfl d_C_tell_28 ?_
    refine lv_iload_n hx hb d_C_tell_29 rfl (lv_at hl 2 rfl) ?_
    refine lv_iload_n hx hb d_C_tell_30 rfl (lv_at hl 3 rfl) ?_
    obtain ⟨r_5, g_6, hf⟩ := Option.bind_eq_some_iff.mp hf
    refine va_callv (va_runV (As := [.ref (ad r_1.toNatClampNeg), .int (a0), .int (a1)]) (rest := []) ⟨hx, hb, hml, hown, hts⟩ (c_C_writeLegal l (ad := ad) (sk := sk) (sv := sv) (tK := tK) dC dI cA h0 o w_f 0 r_1.toNatClampNeg a0 a1 (ju_lt z_4) r_5 g_6) (cwV 3 hts (aw_V aw_209 aw_211 aw_p10 aw_1 aw_212) rfl rfl rfl (by decide +kernel) ⟨Nat.le_of_ble_eq_true rfl, Nat.le_of_ble_eq_true rfl⟩) ⟨wBlind, va_recv hK hP (ci := 0) (q0 := 0) rfl rfl, fun U hU hW => ⟨rfl, by rw [hU]; exact hP, va_K.moved hW.alike hK, hD, hT.at hS hU hW (fun _ z => z)⟩⟩ rfl rfl hl.1 rfl (lv_room (Nat.le_of_ble_eq_true rfl)) d_C_tell_31 ⟨Nat.le_refl _, Nat.le_refl _⟩) hS (fun _ _ h => h) (fun _ h => h) (fun u t H1 locs ht1 hvm hw hB hz1 hk1 hS => ?_)
    rw [hw] at hB
    rw [ht1] at hB
    have hP : va_P (dC, dI) cls2 (wC cA h0 o r_5.1 r_5.2) H1 := hB
    have hD : va_D (aC h0 o) (wC cA h0 o r_5.1 r_5.2) := dD hD0 rfl
    refine lv_aload_n hx hb d_C_tell_34 rfl (lv_at hl 1 rfl) ?_
    refine va_get (D := (dC, dI)) (ci := 0) (v := .int (r_5.2)) (C := "CodeWords") (T := F_C) (N := 2) hx hb hts (in_C _) hown hK hP 0 rfl rfl 1 (by decide) (ht aw_24) (fun _ h9 => h9) rfl d_C_tell_35 ?_
    exact W.iret (v := r_5.2) hx hb hr (fun t ht hW => ⟨⟨_, (r_5.1, r_5.2), rfl, ⟨congrArg (fun z => z.1) (Option.some.inj hf), congrArg (fun z => z.2) (Option.some.inj hf)⟩, by rw [← ht] at hP; exact hP⟩, hS.F ht⟩) hS.2.2 d_C_tell_38
  · replace hf := (if_pos c_3).symm.trans hf
    refine lv_aload_n hx hb d_C_tell_15 rfl (lv_at hl 1 rfl) ?_
    refine lv_iload_n hx hb d_C_tell_16 rfl (lv_at hl 2 rfl) ?_
    obtain ⟨r_7, g_8, hf⟩ := Option.bind_eq_some_iff.mp hf
    refine va_callv (va_runV (As := [.int (a0)]) (rest := []) ⟨hx, hb, hml, hown, hts⟩ (c_C_writeIllegal l (ad := ad) (sk := sk) (sv := sv) (tK := tK) dC dI cA h0 o w_f 0 a0  r_7 g_8) (cwV 1 hts (aw_V aw_189 aw_191 aw_p6 aw_1 aw_192) rfl rfl rfl (by decide +kernel) ⟨Nat.le_of_ble_eq_true rfl, Nat.le_of_ble_eq_true rfl⟩) ⟨wBlind, va_recv hK hP (ci := 0) (q0 := 0) rfl rfl, fun U hU hW => ⟨rfl, by rw [hU]; exact hP, va_K.moved hW.alike hK, hD, hT.at hS hU hW (fun _ z => z)⟩⟩ rfl rfl hl.1 rfl (lv_room (Nat.le_of_ble_eq_true rfl)) d_C_tell_17 ⟨Nat.le_refl _, Nat.le_refl _⟩) hS (fun _ _ h => h) (fun _ h => h) (fun u t H1 locs ht1 hvm hw hB hz1 hk1 hS => ?_)
    rw [hw] at hB
    rw [ht1] at hB
    have hP : va_P (dC, dI) cls2 (wC cA h0 o r_7.1 r_7.2) H1 := hB
    have hD : va_D (aC h0 o) (wC cA h0 o r_7.1 r_7.2) := dD hD0 rfl
    refine lv_goto (tgt := 34) hx hb d_C_tell_20 (by decide) ?_
    refine lv_aload_n hx hb d_C_tell_34 rfl (lv_at hl 1 rfl) ?_
    refine va_get (D := (dC, dI)) (ci := 0) (v := .int (r_7.2)) (C := "CodeWords") (T := F_C) (N := 2) hx hb hts (in_C _) hown hK hP 0 rfl rfl 1 (by decide) (ht aw_24) (fun _ h9 => h9) rfl d_C_tell_35 ?_
    exact W.iret (v := r_7.2) hx hb hr (fun t ht hW => ⟨⟨_, (r_7.1, r_7.2), rfl, ⟨congrArg (fun z => z.1) (Option.some.inj hf), congrArg (fun z => z.2) (Option.some.inj hf)⟩, by rw [← ht] at hP; exact hP⟩, hS.F ht⟩) hS.2.2 d_C_tell_38

def f_C_letter (w_f : Nat → Int32) (w_n : Int32) (a0 : Int32) : Option (Int32) :=
  if a0 < 0 then (some ((-1))) else (if w_n ≤ a0 then (some ((-1))) else (if 48 ≤ a0 then (some ((-1))) else (if a0 < 0 ∨ 48 ≤ a0.toNatClampNeg then none else some (w_f a0.toNatClampNeg))))
set_option maxHeartbeats 1000000 in
set_option maxRecDepth 100000 in
theorem c_C_letter (l : Launch) {ad sk sv : Nat → Nat} {tK : Nat} (dC : Nat → ClassId) (dI : Nat → Nat → Nat) (cA : ClassId) (h0 o : Nat) (w_f : Nat → Int32) (w_n : Int32) (a0 : Int32)  (r : Int32) (hf : f_C_letter w_f w_n a0 = some r) : Met l y_C_letter (Cond.code y_C_letter b_C_letter 2 (Option.some FieldType.int) :: aw) ({ frames := 0, cells := 0, slots := 0, locals := 0 } : Room) (va_Pc [.ref (h0), .int (a0)] (fun U => va_P (dC, dI) cls2 (wC cA h0 o w_f w_n) U.heap ∧ va_K (dC, dI) cls2 [(cA, .char)] U ∧ va_D (aC h0 o) (wC cA h0 o w_f w_n) ∧ tb ad sk sv tK (aC h0 o) U U.heap)) (QcRead r) 0 0 (fun _ => False) := by
  refine Met.ofW (cc := b_C_letter) (maxL := 2) (ret := (Option.some FieldType.int)) (by decide) rfl ?_
  intro p e s m args below meth c s₁ B hml hv
  obtain ⟨rfl, hP, hK, hD, hT⟩ := hv
  have hD0 := hD
  have hx := B.exec
  have hb := B.bytes
  have hr := B.returns
  have hts := atoms_spec (ws := (Cond.code y_C_letter b_C_letter 2 (Option.some FieldType.int) :: aw)) B.pre
  have ht : ∀ {w : Cond}, w ∈ aw → w.before ([.ref (h0), .int (a0)] : List Value).toArray s = true := fun h => hts _ (List.mem_cons_of_mem _ h)
  have hown : s.vm.findClass "CodeWords" = some m.cls := findClass_of_methodNamed B.named
  have hlocks := B.notSynchronized
  have hS : va_S (aC h0 o) s.heap s.heap [] := va_S.rf
  have hl := lv_entry ([.ref (h0), .int (a0)]) (n := 2) (Nat.le_of_ble_eq_true rfl)
  rw [lg_entry_eq]
  generalize (lg_sl ([.ref (h0), .int (a0)]) ++ List.replicate (2 - (lg_sl ([.ref (h0), .int (a0)])).length) Slot.unset).toArray = ls at hl ⊢
  have hl : lv_has ls 2 [(0, .ref (h0)), (1, .int (a0))] := hl
  rw [f_C_letter] at hf
  refine lv_iload_n hx hb d_C_letter_0 rfl (lv_at hl 1 rfl) ?_
  refine lv_if_lt (tgt := 30) hx hb d_C_letter_1 (by decide) (fun c_1 => ?_) (fun c_1 => ?_)
  · replace hf := (if_pos c_1).symm.trans hf
    refine lv_iconst (v := (-1)) hx hb d_C_letter_30 (by decide) ?_
    exact W.iret (v := (-1)) hx hb hr (fun t ht hW => ⟨congrArg (fun z => Outcome.returned (some (Value.int z))) (Option.some.inj hf), ht⟩) (fun q h => nomatch h) d_C_letter_31
  · replace hf := (if_neg c_1).symm.trans hf
    refine lv_iload_n hx hb d_C_letter_4 rfl (lv_at hl 1 rfl) ?_
    refine lv_aload_n hx hb d_C_letter_5 rfl (lv_at hl 0 rfl) ?_
    refine va_get (D := (dC, dI)) (ci := 0) (v := .int (w_n)) (C := "CodeWords") (T := F_C) (N := 2) hx hb hts (in_C _) hown hK hP 0 rfl rfl 1 (by decide) (ht aw_24) (fun _ h9 => h9) rfl d_C_letter_6 ?_
    refine lv_icmp_ge (tgt := 30) hx hb d_C_letter_9 (by decide) (fun c_2 => ?_) (fun c_2 => ?_)
    · replace hf := (if_pos c_2).symm.trans hf
      refine lv_iconst (v := (-1)) hx hb d_C_letter_30 (by decide) ?_
      exact W.iret (v := (-1)) hx hb hr (fun t ht hW => ⟨congrArg (fun z => Outcome.returned (some (Value.int z))) (Option.some.inj hf), ht⟩) (fun q h => nomatch h) d_C_letter_31
    · replace hf := (if_neg c_2).symm.trans hf
      refine lv_iload_n hx hb d_C_letter_12 rfl (lv_at hl 1 rfl) ?_
      refine lv_aload_n hx hb d_C_letter_13 rfl (lv_at hl 0 rfl) ?_
      refine va_get (D := (dC, dI)) (ci := 0) (v := .ref (o)) (C := "CodeWords") (T := F_C) (N := 2) hx hb hts (in_C _) hown hK hP 0 rfl rfl 0 (by decide) (ht aw_23) (fun _ h9 => h9) rfl d_C_letter_14 ?_
      refine va_alen (v := 48) hx hb hK hP 1 0 rfl rfl rfl d_C_letter_17 ?_
      refine lv_icmp_ge (tgt := 30) hx hb d_C_letter_18 (by decide) (fun c_3 => ?_) (fun c_3 => ?_)
      · replace hf := (if_pos c_3).symm.trans hf
        refine lv_iconst (v := (-1)) hx hb d_C_letter_30 (by decide) ?_
        exact W.iret (v := (-1)) hx hb hr (fun t ht hW => ⟨congrArg (fun z => Outcome.returned (some (Value.int z))) (Option.some.inj hf), ht⟩) (fun q h => nomatch h) d_C_letter_31
      · replace hf := (if_neg c_3).symm.trans hf
        refine lv_aload_n hx hb d_C_letter_21 rfl (lv_at hl 0 rfl) ?_
        refine va_get (D := (dC, dI)) (ci := 0) (v := .ref (o)) (C := "CodeWords") (T := F_C) (N := 2) hx hb hts (in_C _) hown hK hP 0 rfl rfl 0 (by decide) (ht aw_23) (fun _ h9 => h9) rfl d_C_letter_22 ?_
        refine lv_iload_n hx hb d_C_letter_25 rfl (lv_at hl 1 rfl) ?_
        obtain ⟨z_4, hf⟩ := ju_gd hf
        refine va_cald hx hb hK hP 1 0 rfl rfl z_4 d_C_letter_26 ?_
        refine lv_goto (tgt := 31) hx hb d_C_letter_27 (by decide) ?_
        exact W.iret (v := w_f a0.toNatClampNeg) hx hb hr (fun t ht hW => ⟨congrArg (fun z => Outcome.returned (some (Value.int z))) (Option.some.inj hf), ht⟩) (fun q h => nomatch h) d_C_letter_31
end
