section
-- ===== PART A: goes FIRST, ahead of the names: the tables' words, and 'selects' of the private methods out of them =====
/-- a private method of a class that the tables say can be made, by its rows of tables_1 -/
def lw_okq (q : MethodName × Nat) : Prop := (q.1.cls ≠ "java/lang/invoke/MethodHandle" ∧ q.1.cls ≠ "java/lang/invoke/VarHandle") ∧ Cond.instantiable q.1.cls q.2 ∈ tables_1 ∧ Cond.privateMethod q.1 ∈ tables_1 ∧ Cond.instanceMethod q.1 ∈ tables_1
theorem lw_p0 : lw_okq (⟨"BurdenCourt$Reader", "isSound", "()Z"⟩, 6) := ⟨⟨by decide +kernel, by decide +kernel⟩, List.mem_of_getElem? (i := 41) (by decide +kernel), List.mem_of_getElem? (i := 217) (by decide +kernel), List.mem_of_getElem? (i := 218) (by decide +kernel)⟩
theorem lw_p1 : lw_okq (⟨"BurdenCourt$Reader", "nextSign", "()I"⟩, 6) := ⟨⟨by decide +kernel, by decide +kernel⟩, List.mem_of_getElem? (i := 41) (by decide +kernel), List.mem_of_getElem? (i := 221) (by decide +kernel), List.mem_of_getElem? (i := 222) (by decide +kernel)⟩
theorem lw_p2 : lw_okq (⟨"BurdenCourt$Reader", "readLine", "(LBurdenCourt$Statutes;)V"⟩, 6) := ⟨⟨by decide +kernel, by decide +kernel⟩, List.mem_of_getElem? (i := 41) (by decide +kernel), List.mem_of_getElem? (i := 232) (by decide +kernel), List.mem_of_getElem? (i := 233) (by decide +kernel)⟩
theorem lw_p3 : lw_okq (⟨"BurdenCourt$Reader", "passSettingWord", "()I"⟩, 6) := ⟨⟨by decide +kernel, by decide +kernel⟩, List.mem_of_getElem? (i := 41) (by decide +kernel), List.mem_of_getElem? (i := 236) (by decide +kernel), List.mem_of_getElem? (i := 237) (by decide +kernel)⟩
theorem lw_p4 : lw_okq (⟨"BurdenCourt$Reader", "passWord", "(Ljava/lang/String;)Z"⟩, 6) := ⟨⟨by decide +kernel, by decide +kernel⟩, List.mem_of_getElem? (i := 41) (by decide +kernel), List.mem_of_getElem? (i := 247) (by decide +kernel), List.mem_of_getElem? (i := 248) (by decide +kernel)⟩
theorem lw_p5 : lw_okq (⟨"BurdenCourt$Reader", "readBurden", "(LBurdenCourt$Statutes;)V"⟩, 6) := ⟨⟨by decide +kernel, by decide +kernel⟩, List.mem_of_getElem? (i := 41) (by decide +kernel), List.mem_of_getElem? (i := 302) (by decide +kernel), List.mem_of_getElem? (i := 303) (by decide +kernel)⟩
theorem lw_p6 : lw_okq (⟨"BurdenCourt$Reader", "expectWord", "(Ljava/lang/String;)V"⟩, 6) := ⟨⟨by decide +kernel, by decide +kernel⟩, List.mem_of_getElem? (i := 41) (by decide +kernel), List.mem_of_getElem? (i := 307) (by decide +kernel), List.mem_of_getElem? (i := 308) (by decide +kernel)⟩
theorem lw_p7 : lw_okq (⟨"BurdenCourt$Reader", "blame", "(II)V"⟩, 6) := ⟨⟨by decide +kernel, by decide +kernel⟩, List.mem_of_getElem? (i := 41) (by decide +kernel), List.mem_of_getElem? (i := 311) (by decide +kernel), List.mem_of_getElem? (i := 312) (by decide +kernel)⟩
theorem lw_p8 : lw_okq (⟨"BurdenCourt$Reader", "expectNewName", "(LBurdenCourt$Statutes;)I"⟩, 6) := ⟨⟨by decide +kernel, by decide +kernel⟩, List.mem_of_getElem? (i := 41) (by decide +kernel), List.mem_of_getElem? (i := 315) (by decide +kernel), List.mem_of_getElem? (i := 316) (by decide +kernel)⟩
theorem lw_p9 : lw_okq (⟨"BurdenCourt$Statutes", "shareOf", "(I)I"⟩, 5) := ⟨⟨by decide +kernel, by decide +kernel⟩, List.mem_of_getElem? (i := 133) (by decide +kernel), List.mem_of_getElem? (i := 323) (by decide +kernel), List.mem_of_getElem? (i := 324) (by decide +kernel)⟩
theorem lw_p10 : lw_okq (⟨"BurdenCourt$Reader", "expectNumber", "(II)I"⟩, 6) := ⟨⟨by decide +kernel, by decide +kernel⟩, List.mem_of_getElem? (i := 41) (by decide +kernel), List.mem_of_getElem? (i := 328) (by decide +kernel), List.mem_of_getElem? (i := 329) (by decide +kernel)⟩
theorem lw_p11 : lw_okq (⟨"BurdenCourt$Reader", "expectSemicolon", "()V"⟩, 6) := ⟨⟨by decide +kernel, by decide +kernel⟩, List.mem_of_getElem? (i := 41) (by decide +kernel), List.mem_of_getElem? (i := 352) (by decide +kernel), List.mem_of_getElem? (i := 353) (by decide +kernel)⟩
theorem lw_p12 : lw_okq (⟨"BurdenCourt$Roll", "rankOf", "(I)I"⟩, 8) := ⟨⟨by decide +kernel, by decide +kernel⟩, List.mem_of_getElem? (i := 67) (by decide +kernel), List.mem_of_getElem? (i := 417) (by decide +kernel), List.mem_of_getElem? (i := 418) (by decide +kernel)⟩
theorem lw_p13 : lw_okq (⟨"BurdenCourt$Roll", "richestFit", "(LBurdenCourt$Statutes;I)I"⟩, 8) := ⟨⟨by decide +kernel, by decide +kernel⟩, List.mem_of_getElem? (i := 67) (by decide +kernel), List.mem_of_getElem? (i := 458) (by decide +kernel), List.mem_of_getElem? (i := 459) (by decide +kernel)⟩
theorem lw_p14 : lw_okq (⟨"BurdenCourt$Roll", "layOn", "(II)V"⟩, 8) := ⟨⟨by decide +kernel, by decide +kernel⟩, List.mem_of_getElem? (i := 67) (by decide +kernel), List.mem_of_getElem? (i := 470) (by decide +kernel), List.mem_of_getElem? (i := 471) (by decide +kernel)⟩
theorem lw_p15 : lw_okq (⟨"BurdenCourt$Docket", "isRunning", "(I)Z"⟩, 9) := ⟨⟨by decide +kernel, by decide +kernel⟩, List.mem_of_getElem? (i := 99) (by decide +kernel), List.mem_of_getElem? (i := 482) (by decide +kernel), List.mem_of_getElem? (i := 483) (by decide +kernel)⟩
def lw_privs_1 : List (MethodName × Nat) := [(⟨"BurdenCourt$Reader", "isSound", "()Z"⟩, 6), (⟨"BurdenCourt$Reader", "nextSign", "()I"⟩, 6), (⟨"BurdenCourt$Reader", "readLine", "(LBurdenCourt$Statutes;)V"⟩, 6), (⟨"BurdenCourt$Reader", "passSettingWord", "()I"⟩, 6), (⟨"BurdenCourt$Reader", "passWord", "(Ljava/lang/String;)Z"⟩, 6), (⟨"BurdenCourt$Reader", "readBurden", "(LBurdenCourt$Statutes;)V"⟩, 6), (⟨"BurdenCourt$Reader", "expectWord", "(Ljava/lang/String;)V"⟩, 6), (⟨"BurdenCourt$Reader", "blame", "(II)V"⟩, 6), (⟨"BurdenCourt$Reader", "expectNewName", "(LBurdenCourt$Statutes;)I"⟩, 6), (⟨"BurdenCourt$Statutes", "shareOf", "(I)I"⟩, 5), (⟨"BurdenCourt$Reader", "expectNumber", "(II)I"⟩, 6), (⟨"BurdenCourt$Reader", "expectSemicolon", "()V"⟩, 6), (⟨"BurdenCourt$Roll", "rankOf", "(I)I"⟩, 8), (⟨"BurdenCourt$Roll", "richestFit", "(LBurdenCourt$Statutes;I)I"⟩, 8), (⟨"BurdenCourt$Roll", "layOn", "(II)V"⟩, 8), (⟨"BurdenCourt$Docket", "isRunning", "(I)Z"⟩, 9)]
theorem lw_r1 : ∀ q ∈ lw_privs_1, lw_okq q := List.forall_mem_cons.mpr ⟨lw_p0, List.forall_mem_cons.mpr ⟨lw_p1, List.forall_mem_cons.mpr ⟨lw_p2, List.forall_mem_cons.mpr ⟨lw_p3, List.forall_mem_cons.mpr ⟨lw_p4, List.forall_mem_cons.mpr ⟨lw_p5, List.forall_mem_cons.mpr ⟨lw_p6, List.forall_mem_cons.mpr ⟨lw_p7, List.forall_mem_cons.mpr ⟨lw_p8, List.forall_mem_cons.mpr ⟨lw_p9, List.forall_mem_cons.mpr ⟨lw_p10, List.forall_mem_cons.mpr ⟨lw_p11, List.forall_mem_cons.mpr ⟨lw_p12, List.forall_mem_cons.mpr ⟨lw_p13, List.forall_mem_cons.mpr ⟨lw_p14, List.forall_mem_cons.mpr ⟨lw_p15, fun _ h => absurd h List.not_mem_nil⟩⟩⟩⟩⟩⟩⟩⟩⟩⟩⟩⟩⟩⟩⟩⟩
theorem lw_p16 : lw_okq (⟨"BurdenCourt$Docket", "has", "(I)Z"⟩, 9) := ⟨⟨by decide +kernel, by decide +kernel⟩, List.mem_of_getElem? (i := 99) (by decide +kernel), List.mem_of_getElem? (i := 490) (by decide +kernel), List.mem_of_getElem? (i := 491) (by decide +kernel)⟩
theorem lw_p17 : lw_okq (⟨"BurdenCourt$Docket", "judge", "(ILBurdenCourt$Roll;)V"⟩, 9) := ⟨⟨by decide +kernel, by decide +kernel⟩, List.mem_of_getElem? (i := 99) (by decide +kernel), List.mem_of_getElem? (i := 494) (by decide +kernel), List.mem_of_getElem? (i := 495) (by decide +kernel)⟩
theorem lw_p18 : lw_okq (⟨"BurdenCourt$Docket", "verdictOn", "(ILBurdenCourt$Roll;)I"⟩, 9) := ⟨⟨by decide +kernel, by decide +kernel⟩, List.mem_of_getElem? (i := 99) (by decide +kernel), List.mem_of_getElem? (i := 498) (by decide +kernel), List.mem_of_getElem? (i := 499) (by decide +kernel)⟩
theorem lw_p19 : lw_okq (⟨"BurdenCourt$Docket", "carryOut", "(IILBurdenCourt$Roll;)V"⟩, 9) := ⟨⟨by decide +kernel, by decide +kernel⟩, List.mem_of_getElem? (i := 99) (by decide +kernel), List.mem_of_getElem? (i := 503) (by decide +kernel), List.mem_of_getElem? (i := 504) (by decide +kernel)⟩
theorem lw_p20 : lw_okq (⟨"BurdenCourt", "isFitNow", "(I)Z"⟩, 11) := ⟨⟨by decide +kernel, by decide +kernel⟩, List.mem_of_getElem? (i := 19) (by decide +kernel), List.mem_of_getElem? (i := 523) (by decide +kernel), List.mem_of_getElem? (i := 524) (by decide +kernel)⟩
theorem lw_p21 : lw_okq (⟨"BurdenCourt$Roll", "layDownAll", "()V"⟩, 8) := ⟨⟨by decide +kernel, by decide +kernel⟩, List.mem_of_getElem? (i := 67) (by decide +kernel), List.mem_of_getElem? (i := 616) (by decide +kernel), List.mem_of_getElem? (i := 617) (by decide +kernel)⟩
theorem lw_p22 : lw_okq (⟨"java/lang/Throwable", "fillInStackTrace", "(I)Ljava/lang/Throwable;"⟩, 6) := ⟨⟨by decide +kernel, by decide +kernel⟩, List.mem_of_getElem? (i := 705) (by decide +kernel), List.mem_of_getElem? (i := 703) (by decide +kernel), List.mem_of_getElem? (i := 704) (by decide +kernel)⟩
theorem lw_p23 : lw_okq (⟨"BurdenCourtModel", "take", "()V"⟩, 37) := ⟨⟨by decide +kernel, by decide +kernel⟩, List.mem_of_getElem? (i := 759) (by decide +kernel), List.mem_of_getElem? (i := 889) (by decide +kernel), List.mem_of_getElem? (i := 890) (by decide +kernel)⟩
theorem lw_p24 : lw_okq (⟨"BurdenCourtModel", "isSmall", "(I)Z"⟩, 37) := ⟨⟨by decide +kernel, by decide +kernel⟩, List.mem_of_getElem? (i := 759) (by decide +kernel), List.mem_of_getElem? (i := 893) (by decide +kernel), List.mem_of_getElem? (i := 894) (by decide +kernel)⟩
theorem lw_p25 : lw_okq (⟨"BurdenCourtModel", "wordAt", "(II)I"⟩, 37) := ⟨⟨by decide +kernel, by decide +kernel⟩, List.mem_of_getElem? (i := 759) (by decide +kernel), List.mem_of_getElem? (i := 897) (by decide +kernel), List.mem_of_getElem? (i := 898) (by decide +kernel)⟩
theorem lw_p26 : lw_okq (⟨"BurdenCourtModel", "isDigit", "(I)Z"⟩, 37) := ⟨⟨by decide +kernel, by decide +kernel⟩, List.mem_of_getElem? (i := 759) (by decide +kernel), List.mem_of_getElem? (i := 901) (by decide +kernel), List.mem_of_getElem? (i := 902) (by decide +kernel)⟩
theorem lw_p27 : lw_okq (⟨"BurdenCourtModel", "line", "()Z"⟩, 37) := ⟨⟨by decide +kernel, by decide +kernel⟩, List.mem_of_getElem? (i := 759) (by decide +kernel), List.mem_of_getElem? (i := 906) (by decide +kernel), List.mem_of_getElem? (i := 907) (by decide +kernel)⟩
theorem lw_p28 : lw_okq (⟨"BurdenCourtModel", "wrong", "(II)Z"⟩, 37) := ⟨⟨by decide +kernel, by decide +kernel⟩, List.mem_of_getElem? (i := 759) (by decide +kernel), List.mem_of_getElem? (i := 910) (by decide +kernel), List.mem_of_getElem? (i := 911) (by decide +kernel)⟩
theorem lw_p29 : lw_okq (⟨"BurdenCourtModel", "burdenLine", "()Z"⟩, 37) := ⟨⟨by decide +kernel, by decide +kernel⟩, List.mem_of_getElem? (i := 759) (by decide +kernel), List.mem_of_getElem? (i := 914) (by decide +kernel), List.mem_of_getElem? (i := 915) (by decide +kernel)⟩
theorem lw_p30 : lw_okq (⟨"BurdenCourtModel", "word", "(I)Z"⟩, 37) := ⟨⟨by decide +kernel, by decide +kernel⟩, List.mem_of_getElem? (i := 759) (by decide +kernel), List.mem_of_getElem? (i := 918) (by decide +kernel), List.mem_of_getElem? (i := 919) (by decide +kernel)⟩
theorem lw_p31 : lw_okq (⟨"BurdenCourtModel", "number", "(II)Z"⟩, 37) := ⟨⟨by decide +kernel, by decide +kernel⟩, List.mem_of_getElem? (i := 759) (by decide +kernel), List.mem_of_getElem? (i := 922) (by decide +kernel), List.mem_of_getElem? (i := 923) (by decide +kernel)⟩
def lw_privs_2 : List (MethodName × Nat) := [(⟨"BurdenCourt$Docket", "has", "(I)Z"⟩, 9), (⟨"BurdenCourt$Docket", "judge", "(ILBurdenCourt$Roll;)V"⟩, 9), (⟨"BurdenCourt$Docket", "verdictOn", "(ILBurdenCourt$Roll;)I"⟩, 9), (⟨"BurdenCourt$Docket", "carryOut", "(IILBurdenCourt$Roll;)V"⟩, 9), (⟨"BurdenCourt", "isFitNow", "(I)Z"⟩, 11), (⟨"BurdenCourt$Roll", "layDownAll", "()V"⟩, 8), (⟨"java/lang/Throwable", "fillInStackTrace", "(I)Ljava/lang/Throwable;"⟩, 6), (⟨"BurdenCourtModel", "take", "()V"⟩, 37), (⟨"BurdenCourtModel", "isSmall", "(I)Z"⟩, 37), (⟨"BurdenCourtModel", "wordAt", "(II)I"⟩, 37), (⟨"BurdenCourtModel", "isDigit", "(I)Z"⟩, 37), (⟨"BurdenCourtModel", "line", "()Z"⟩, 37), (⟨"BurdenCourtModel", "wrong", "(II)Z"⟩, 37), (⟨"BurdenCourtModel", "burdenLine", "()Z"⟩, 37), (⟨"BurdenCourtModel", "word", "(I)Z"⟩, 37), (⟨"BurdenCourtModel", "number", "(II)Z"⟩, 37)]
theorem lw_r2 : ∀ q ∈ lw_privs_2, lw_okq q := List.forall_mem_cons.mpr ⟨lw_p16, List.forall_mem_cons.mpr ⟨lw_p17, List.forall_mem_cons.mpr ⟨lw_p18, List.forall_mem_cons.mpr ⟨lw_p19, List.forall_mem_cons.mpr ⟨lw_p20, List.forall_mem_cons.mpr ⟨lw_p21, List.forall_mem_cons.mpr ⟨lw_p22, List.forall_mem_cons.mpr ⟨lw_p23, List.forall_mem_cons.mpr ⟨lw_p24, List.forall_mem_cons.mpr ⟨lw_p25, List.forall_mem_cons.mpr ⟨lw_p26, List.forall_mem_cons.mpr ⟨lw_p27, List.forall_mem_cons.mpr ⟨lw_p28, List.forall_mem_cons.mpr ⟨lw_p29, List.forall_mem_cons.mpr ⟨lw_p30, List.forall_mem_cons.mpr ⟨lw_p31, fun _ h => absurd h List.not_mem_nil⟩⟩⟩⟩⟩⟩⟩⟩⟩⟩⟩⟩⟩⟩⟩⟩
theorem lw_p32 : lw_okq (⟨"BurdenCourtModel", "isMan", "(I)Z"⟩, 37) := ⟨⟨by decide +kernel, by decide +kernel⟩, List.mem_of_getElem? (i := 759) (by decide +kernel), List.mem_of_getElem? (i := 939) (by decide +kernel), List.mem_of_getElem? (i := 940) (by decide +kernel)⟩
theorem lw_p33 : lw_okq (⟨"BurdenCourtModel", "fails", "(I)I"⟩, 37) := ⟨⟨by decide +kernel, by decide +kernel⟩, List.mem_of_getElem? (i := 759) (by decide +kernel), List.mem_of_getElem? (i := 947) (by decide +kernel), List.mem_of_getElem? (i := 948) (by decide +kernel)⟩
theorem lw_p34 : lw_okq (⟨"BurdenCourtModel", "bears", "(II)I"⟩, 37) := ⟨⟨by decide +kernel, by decide +kernel⟩, List.mem_of_getElem? (i := 759) (by decide +kernel), List.mem_of_getElem? (i := 951) (by decide +kernel), List.mem_of_getElem? (i := 952) (by decide +kernel)⟩
theorem lw_p35 : lw_okq (⟨"BurdenCourtModel", "isFit", "(IIII)Z"⟩, 37) := ⟨⟨by decide +kernel, by decide +kernel⟩, List.mem_of_getElem? (i := 759) (by decide +kernel), List.mem_of_getElem? (i := 955) (by decide +kernel), List.mem_of_getElem? (i := 956) (by decide +kernel)⟩
theorem lw_p36 : lw_okq (⟨"BurdenCourtModel", "fill", "(III)I"⟩, 37) := ⟨⟨by decide +kernel, by decide +kernel⟩, List.mem_of_getElem? (i := 759) (by decide +kernel), List.mem_of_getElem? (i := 971) (by decide +kernel), List.mem_of_getElem? (i := 972) (by decide +kernel)⟩
theorem lw_p37 : lw_okq (⟨"BurdenCourtModel", "isOpen", "(I)Z"⟩, 37) := ⟨⟨by decide +kernel, by decide +kernel⟩, List.mem_of_getElem? (i := 759) (by decide +kernel), List.mem_of_getElem? (i := 979) (by decide +kernel), List.mem_of_getElem? (i := 980) (by decide +kernel)⟩
theorem lw_p38 : lw_okq (⟨"BurdenCourtModel", "judge", "(I)V"⟩, 37) := ⟨⟨by decide +kernel, by decide +kernel⟩, List.mem_of_getElem? (i := 759) (by decide +kernel), List.mem_of_getElem? (i := 983) (by decide +kernel), List.mem_of_getElem? (i := 984) (by decide +kernel)⟩
theorem lw_p39 : lw_okq (⟨"BurdenCourtModel", "goesOver", "(I)Z"⟩, 37) := ⟨⟨by decide +kernel, by decide +kernel⟩, List.mem_of_getElem? (i := 759) (by decide +kernel), List.mem_of_getElem? (i := 987) (by decide +kernel), List.mem_of_getElem? (i := 988) (by decide +kernel)⟩
theorem lw_p40 : lw_okq (⟨"BurdenCourtModel", "over", "(I)V"⟩, 37) := ⟨⟨by decide +kernel, by decide +kernel⟩, List.mem_of_getElem? (i := 759) (by decide +kernel), List.mem_of_getElem? (i := 991) (by decide +kernel), List.mem_of_getElem? (i := 992) (by decide +kernel)⟩
theorem lw_p41 : lw_okq (⟨"BurdenCourtModel", "ends", "(III)I"⟩, 37) := ⟨⟨by decide +kernel, by decide +kernel⟩, List.mem_of_getElem? (i := 759) (by decide +kernel), List.mem_of_getElem? (i := 1015) (by decide +kernel), List.mem_of_getElem? (i := 1016) (by decide +kernel)⟩
theorem lw_p42 : lw_okq (⟨"BurdenCourtModel", "pays", "(II)I"⟩, 37) := ⟨⟨by decide +kernel, by decide +kernel⟩, List.mem_of_getElem? (i := 759) (by decide +kernel), List.mem_of_getElem? (i := 1019) (by decide +kernel), List.mem_of_getElem? (i := 1020) (by decide +kernel)⟩
def lw_privs_3 : List (MethodName × Nat) := [(⟨"BurdenCourtModel", "isMan", "(I)Z"⟩, 37), (⟨"BurdenCourtModel", "fails", "(I)I"⟩, 37), (⟨"BurdenCourtModel", "bears", "(II)I"⟩, 37), (⟨"BurdenCourtModel", "isFit", "(IIII)Z"⟩, 37), (⟨"BurdenCourtModel", "fill", "(III)I"⟩, 37), (⟨"BurdenCourtModel", "isOpen", "(I)Z"⟩, 37), (⟨"BurdenCourtModel", "judge", "(I)V"⟩, 37), (⟨"BurdenCourtModel", "goesOver", "(I)Z"⟩, 37), (⟨"BurdenCourtModel", "over", "(I)V"⟩, 37), (⟨"BurdenCourtModel", "ends", "(III)I"⟩, 37), (⟨"BurdenCourtModel", "pays", "(II)I"⟩, 37)]
theorem lw_r3 : ∀ q ∈ lw_privs_3, lw_okq q := List.forall_mem_cons.mpr ⟨lw_p32, List.forall_mem_cons.mpr ⟨lw_p33, List.forall_mem_cons.mpr ⟨lw_p34, List.forall_mem_cons.mpr ⟨lw_p35, List.forall_mem_cons.mpr ⟨lw_p36, List.forall_mem_cons.mpr ⟨lw_p37, List.forall_mem_cons.mpr ⟨lw_p38, List.forall_mem_cons.mpr ⟨lw_p39, List.forall_mem_cons.mpr ⟨lw_p40, List.forall_mem_cons.mpr ⟨lw_p41, List.forall_mem_cons.mpr ⟨lw_p42, fun _ h => absurd h List.not_mem_nil⟩⟩⟩⟩⟩⟩⟩⟩⟩⟩⟩
def lw_privs : List (MethodName × Nat) := lw_privs_1 ++ (lw_privs_2 ++ (lw_privs_3))
def lw_tbl : List Cond := k2_sels lw_privs ++ tables_1
theorem lw_privs_ok : ∀ q ∈ lw_privs, lw_okq q := by
  show ∀ q ∈ lw_privs_1 ++ (lw_privs_2 ++ (lw_privs_3)), lw_okq q
  exact List.forall_mem_append.mpr ⟨lw_r1, List.forall_mem_append.mpr ⟨lw_r2, lw_r3⟩⟩
end
section
def RX0 : String := "BurdenCourt$Docket"
def TX0 : u_T := fun k => match k with
  | 0 => ("BurdenCourt$Docket", "sayer", "[I", true)
  | 1 => ("BurdenCourt$Docket", "hearer", "[I", true)
  | 2 => ("BurdenCourt$Docket", "placeIn", "[I", true)
  | 3 => ("BurdenCourt$Docket", "dayOf", "[I", true)
  | 4 => ("BurdenCourt$Docket", "standing", "[I", true)
  | 5 => ("BurdenCourt$Docket", "lastDay", "[I", true)
  | 6 => ("BurdenCourt$Docket", "sayerSwore", "[Z", true)
  | 7 => ("BurdenCourt$Docket", "hearerSwore", "[Z", true)
  | _ => ("BurdenCourt$Docket", "size", "I", false)
def tyX0 : Nat → FieldType := fun k => match k with
  | 0 => .array .int
  | 1 => .array .int
  | 2 => .array .int
  | 3 => .array .int
  | 4 => .array .int
  | 5 => .array .int
  | 6 => .array .boolean
  | 7 => .array .boolean
  | _ => .int
abbrev wsX00 : List Cond := u_ws RX0 TX0 9
theorem nmX0 : ∀ a, a < 9 → ∀ b, b < 9 → a ≠ b → (TX0 a).2.1 ≠ (TX0 b).2.1 := by decide +kernel
theorem tyX0_ok : ∀ k, k < 9 → parseFieldDescriptor (TX0 k).2.2.1 = some (tyX0 k) := by decide +kernel
abbrev cX0_init : ByteArray := prog_2_method_1_code
def yX0_init : MethodName := ⟨RX0, "<init>", "()V"⟩
abbrev cX0_size : ByteArray := prog_2_method_2_code
def yX0_size : MethodName := ⟨RX0, "size", "()I"⟩
abbrev cX0_clear : ByteArray := prog_2_method_3_code
def yX0_clear : MethodName := ⟨RX0, "clear", "()V"⟩
abbrev cX0_hasRoom : ByteArray := prog_2_method_4_code
def yX0_hasRoom : MethodName := ⟨RX0, "hasRoom", "()Z"⟩
abbrev cX0_enter : ByteArray := prog_2_method_5_code
def yX0_enter : MethodName := ⟨RX0, "enter", "(IIIII)I"⟩
abbrev cX0_sayerOf : ByteArray := prog_2_method_6_code
def yX0_sayerOf : MethodName := ⟨RX0, "sayerOf", "(I)I"⟩
abbrev cX0_hearerOf : ByteArray := prog_2_method_7_code
def yX0_hearerOf : MethodName := ⟨RX0, "hearerOf", "(I)I"⟩
abbrev cX0_placeIn : ByteArray := prog_2_method_8_code
def yX0_placeIn : MethodName := ⟨RX0, "placeIn", "(I)I"⟩
abbrev cX0_dayOf : ByteArray := prog_2_method_9_code
def yX0_dayOf : MethodName := ⟨RX0, "dayOf", "(I)I"⟩
abbrev cX0_standingOf : ByteArray := prog_2_method_10_code
def yX0_standingOf : MethodName := ⟨RX0, "standingOf", "(I)I"⟩
abbrev cX0_lastDayOf : ByteArray := prog_2_method_11_code
def yX0_lastDayOf : MethodName := ⟨RX0, "lastDayOf", "(I)I"⟩
abbrev cX0_engages : ByteArray := prog_2_method_12_code
def yX0_engages : MethodName := ⟨RX0, "engages", "(I)Z"⟩
abbrev cX0_take : ByteArray := prog_2_method_13_code
def yX0_take : MethodName := ⟨RX0, "take", "(ILBurdenCourt$Roll;)V"⟩
abbrev cX0_change : ByteArray := prog_2_method_14_code
def yX0_change : MethodName := ⟨RX0, "change", "(II)V"⟩
abbrev cX0_hasSworn : ByteArray := prog_2_method_15_code
def yX0_hasSworn : MethodName := ⟨RX0, "hasSworn", "(IZ)Z"⟩
abbrev cX0_hearOath : ByteArray := prog_2_method_16_code
def yX0_hearOath : MethodName := ⟨RX0, "hearOath", "(IZLBurdenCourt$Roll;)V"⟩
abbrev cX0_judgeBeyond : ByteArray := prog_2_method_17_code
def yX0_judgeBeyond : MethodName := ⟨RX0, "judgeBeyond", "(ILBurdenCourt$Roll;)V"⟩
abbrev cX0_judgeAll : ByteArray := prog_2_method_18_code
def yX0_judgeAll : MethodName := ⟨RX0, "judgeAll", "(LBurdenCourt$Roll;)V"⟩
abbrev cX0_foreseeVerdicts : ByteArray := prog_2_method_19_code
def yX0_foreseeVerdicts : MethodName := ⟨RX0, "foreseeVerdicts", "(LBurdenCourt$Roll;)V"⟩
abbrev cX0_judge : ByteArray := prog_2_method_20_code
def yX0_judge : MethodName := ⟨RX0, "judge", "(ILBurdenCourt$Roll;)V"⟩
abbrev cX0_verdictOn : ByteArray := prog_2_method_21_code
def yX0_verdictOn : MethodName := ⟨RX0, "verdictOn", "(ILBurdenCourt$Roll;)I"⟩
abbrev cX0_carryOut : ByteArray := prog_2_method_22_code
def yX0_carryOut : MethodName := ⟨RX0, "carryOut", "(IILBurdenCourt$Roll;)V"⟩
abbrev cX0_isRunning : ByteArray := prog_2_method_23_code
def yX0_isRunning : MethodName := ⟨RX0, "isRunning", "(I)Z"⟩
abbrev cX0_has : ByteArray := prog_2_method_24_code
def yX0_has : MethodName := ⟨RX0, "has", "(I)Z"⟩
def RX1 : String := "BurdenCourt$Reader"
def TX1 : u_T := fun k => match k with
  | 0 => ("BurdenCourt$Reader", "tape", "LBurdenCourt$Tape;", true)
  | 1 => ("BurdenCourt$Reader", "settingTold", "[Z", true)
  | 2 => ("BurdenCourt$Reader", "end", "I", false)
  | 3 => ("BurdenCourt$Reader", "spot", "I", false)
  | 4 => ("BurdenCourt$Reader", "faultKind", "I", false)
  | _ => ("BurdenCourt$Reader", "faultPlace", "I", false)
def tyX1 : Nat → FieldType := fun k => match k with
  | 0 => .object "BurdenCourt$Tape"
  | 1 => .array .boolean
  | 2 => .int
  | 3 => .int
  | 4 => .int
  | _ => .int
abbrev wsX10 : List Cond := u_ws RX1 TX1 6
theorem nmX1 : ∀ a, a < 6 → ∀ b, b < 6 → a ≠ b → (TX1 a).2.1 ≠ (TX1 b).2.1 := by decide +kernel
theorem tyX1_ok : ∀ k, k < 6 → parseFieldDescriptor (TX1 k).2.2.1 = some (tyX1 k) := by decide +kernel
abbrev cX1_init : ByteArray := prog_3_method_1_code
def yX1_init : MethodName := ⟨RX1, "<init>", "(LBurdenCourt$Tape;)V"⟩
abbrev cX1_faultKind : ByteArray := prog_3_method_2_code
def yX1_faultKind : MethodName := ⟨RX1, "faultKind", "()I"⟩
abbrev cX1_faultPlace : ByteArray := prog_3_method_3_code
def yX1_faultPlace : MethodName := ⟨RX1, "faultPlace", "()I"⟩
abbrev cX1_read : ByteArray := prog_3_method_4_code
def yX1_read : MethodName := ⟨RX1, "read", "(ILBurdenCourt$Statutes;)Z"⟩
abbrev cX1_isSound : ByteArray := prog_3_method_5_code
def yX1_isSound : MethodName := ⟨RX1, "isSound", "()Z"⟩
abbrev cX1_blame : ByteArray := prog_3_method_6_code
def yX1_blame : MethodName := ⟨RX1, "blame", "(II)V"⟩
abbrev cX1_readLine : ByteArray := prog_3_method_7_code
def yX1_readLine : MethodName := ⟨RX1, "readLine", "(LBurdenCourt$Statutes;)V"⟩
abbrev cX1_readBurden : ByteArray := prog_3_method_8_code
def yX1_readBurden : MethodName := ⟨RX1, "readBurden", "(LBurdenCourt$Statutes;)V"⟩
abbrev cX1_passSettingWord : ByteArray := prog_3_method_9_code
def yX1_passSettingWord : MethodName := ⟨RX1, "passSettingWord", "()I"⟩
abbrev cX1_expectWord : ByteArray := prog_3_method_10_code
def yX1_expectWord : MethodName := ⟨RX1, "expectWord", "(Ljava/lang/String;)V"⟩
abbrev cX1_expectNewName : ByteArray := prog_3_method_11_code
def yX1_expectNewName : MethodName := ⟨RX1, "expectNewName", "(LBurdenCourt$Statutes;)I"⟩
abbrev cX1_expectNumber : ByteArray := prog_3_method_12_code
def yX1_expectNumber : MethodName := ⟨RX1, "expectNumber", "(II)I"⟩
abbrev cX1_expectSemicolon : ByteArray := prog_3_method_13_code
def yX1_expectSemicolon : MethodName := ⟨RX1, "expectSemicolon", "()V"⟩
abbrev cX1_nextSign : ByteArray := prog_3_method_14_code
def yX1_nextSign : MethodName := ⟨RX1, "nextSign", "()I"⟩
abbrev cX1_passWord : ByteArray := prog_3_method_15_code
def yX1_passWord : MethodName := ⟨RX1, "passWord", "(Ljava/lang/String;)Z"⟩
abbrev cX1_wordOf : ByteArray := prog_3_method_16_code
def yX1_wordOf : MethodName := ⟨RX1, "wordOf", "(I)Ljava/lang/String;"⟩
abbrev cX1_mostOf : ByteArray := prog_3_method_17_code
def yX1_mostOf : MethodName := ⟨RX1, "mostOf", "(I)I"⟩
abbrev cX1_isBlank : ByteArray := prog_3_method_18_code
def yX1_isBlank : MethodName := ⟨RX1, "isBlank", "(I)Z"⟩
abbrev cX1_isDigit : ByteArray := prog_3_method_19_code
def yX1_isDigit : MethodName := ⟨RX1, "isDigit", "(I)Z"⟩
abbrev cX1_isSmallLetter : ByteArray := prog_3_method_20_code
def yX1_isSmallLetter : MethodName := ⟨RX1, "isSmallLetter", "(I)Z"⟩
def RX2 : String := "BurdenCourt$Roll"
def TX2 : u_T := fun k => match k with
  | 0 => ("BurdenCourt$Roll", "declared", "[I", true)
  | 1 => ("BurdenCourt$Roll", "hidden", "[I", true)
  | 2 => ("BurdenCourt$Roll", "freeFrom", "[I", true)
  | 3 => ("BurdenCourt$Roll", "yearsBorne", "[I", true)
  | 4 => ("BurdenCourt$Roll", "placeOf", "[I", true)
  | 5 => ("BurdenCourt$Roll", "bearerAt", "[I", true)
  | 6 => ("BurdenCourt$Roll", "haveBorne", "[I", true)
  | _ => ("BurdenCourt$Roll", "size", "I", false)
def tyX2 : Nat → FieldType := fun k => match k with
  | 0 => .array .int
  | 1 => .array .int
  | 2 => .array .int
  | 3 => .array .int
  | 4 => .array .int
  | 5 => .array .int
  | 6 => .array .int
  | _ => .int
abbrev wsX20 : List Cond := u_ws RX2 TX2 8
theorem nmX2 : ∀ a, a < 8 → ∀ b, b < 8 → a ≠ b → (TX2 a).2.1 ≠ (TX2 b).2.1 := by decide +kernel
theorem tyX2_ok : ∀ k, k < 8 → parseFieldDescriptor (TX2 k).2.2.1 = some (tyX2 k) := by decide +kernel
abbrev cX2_init : ByteArray := prog_4_method_1_code
def yX2_init : MethodName := ⟨RX2, "<init>", "()V"⟩
abbrev cX2_copyFrom : ByteArray := prog_4_method_2_code
def yX2_copyFrom : MethodName := ⟨RX2, "copyFrom", "(LBurdenCourt$Roll;)V"⟩
abbrev cX2_size : ByteArray := prog_4_method_3_code
def yX2_size : MethodName := ⟨RX2, "size", "()I"⟩
abbrev cX2_has : ByteArray := prog_4_method_4_code
def yX2_has : MethodName := ⟨RX2, "has", "(I)Z"⟩
abbrev cX2_enter : ByteArray := prog_4_method_5_code
def yX2_enter : MethodName := ⟨RX2, "enter", "(II)I"⟩
abbrev cX2_declaredOf : ByteArray := prog_4_method_6_code
def yX2_declaredOf : MethodName := ⟨RX2, "declaredOf", "(I)I"⟩
abbrev cX2_hiddenOf : ByteArray := prog_4_method_7_code
def yX2_hiddenOf : MethodName := ⟨RX2, "hiddenOf", "(I)I"⟩
abbrev cX2_worthOf : ByteArray := prog_4_method_8_code
def yX2_worthOf : MethodName := ⟨RX2, "worthOf", "(I)I"⟩
abbrev cX2_placeOf : ByteArray := prog_4_method_9_code
def yX2_placeOf : MethodName := ⟨RX2, "placeOf", "(I)I"⟩
abbrev cX2_freeFromOf : ByteArray := prog_4_method_10_code
def yX2_freeFromOf : MethodName := ⟨RX2, "freeFromOf", "(I)I"⟩
abbrev cX2_yearsBorneOf : ByteArray := prog_4_method_11_code
def yX2_yearsBorneOf : MethodName := ⟨RX2, "yearsBorneOf", "(I)I"⟩
abbrev cX2_bearerAt : ByteArray := prog_4_method_12_code
def yX2_bearerAt : MethodName := ⟨RX2, "bearerAt", "(I)I"⟩
abbrev cX2_hasBorne : ByteArray := prog_4_method_13_code
def yX2_hasBorne : MethodName := ⟨RX2, "hasBorne", "(II)Z"⟩
abbrev cX2_uncover : ByteArray := prog_4_method_14_code
def yX2_uncover : MethodName := ⟨RX2, "uncover", "(II)V"⟩
abbrev cX2_exchangeEstates : ByteArray := prog_4_method_15_code
def yX2_exchangeEstates : MethodName := ⟨RX2, "exchangeEstates", "(II)V"⟩
abbrev cX2_manOfRank : ByteArray := prog_4_method_16_code
def yX2_manOfRank : MethodName := ⟨RX2, "manOfRank", "(I)I"⟩
abbrev cX2_rankOf : ByteArray := prog_4_method_17_code
def yX2_rankOf : MethodName := ⟨RX2, "rankOf", "(I)I"⟩
abbrev cX2_isFit : ByteArray := prog_4_method_18_code
def yX2_isFit : MethodName := ⟨RX2, "isFit", "(ILBurdenCourt$Statutes;I)Z"⟩
abbrev cX2_fillPlaces : ByteArray := prog_4_method_19_code
def yX2_fillPlaces : MethodName := ⟨RX2, "fillPlaces", "(LBurdenCourt$Statutes;I)I"⟩
abbrev cX2_richestFit : ByteArray := prog_4_method_20_code
def yX2_richestFit : MethodName := ⟨RX2, "richestFit", "(LBurdenCourt$Statutes;I)I"⟩
abbrev cX2_handOver : ByteArray := prog_4_method_21_code
def yX2_handOver : MethodName := ⟨RX2, "handOver", "(III)V"⟩
abbrev cX2_layOn : ByteArray := prog_4_method_22_code
def yX2_layOn : MethodName := ⟨RX2, "layOn", "(II)V"⟩
abbrev cX2_partAt : ByteArray := prog_4_method_23_code
def yX2_partAt : MethodName := ⟨RX2, "partAt", "(LBurdenCourt$Statutes;I)I"⟩
abbrev cX2_settle : ByteArray := prog_4_method_24_code
def yX2_settle : MethodName := ⟨RX2, "settle", "(LBurdenCourt$Statutes;I)I"⟩
abbrev cX2_layDownAll : ByteArray := prog_4_method_25_code
def yX2_layDownAll : MethodName := ⟨RX2, "layDownAll", "()V"⟩
abbrev cX2_isPlace : ByteArray := prog_4_method_26_code
def yX2_isPlace : MethodName := ⟨RX2, "isPlace", "(I)Z"⟩
def RX3 : String := "BurdenCourt$Statutes"
def TX3 : u_T := fun k => match k with
  | 0 => ("BurdenCourt$Statutes", "cost", "[I", true)
  | 1 => ("BurdenCourt$Statutes", "share", "[I", true)
  | 2 => ("BurdenCourt$Statutes", "setting", "[I", true)
  | 3 => ("BurdenCourt$Statutes", "burdenAt", "[I", true)
  | _ => ("BurdenCourt$Statutes", "places", "I", false)
def tyX3 : Nat → FieldType := fun k => match k with
  | 0 => .array .int
  | 1 => .array .int
  | 2 => .array .int
  | 3 => .array .int
  | _ => .int
abbrev wsX30 : List Cond := u_ws RX3 TX3 5
theorem nmX3 : ∀ a, a < 5 → ∀ b, b < 5 → a ≠ b → (TX3 a).2.1 ≠ (TX3 b).2.1 := by decide +kernel
theorem tyX3_ok : ∀ k, k < 5 → parseFieldDescriptor (TX3 k).2.2.1 = some (tyX3 k) := by decide +kernel
abbrev cX3_init : ByteArray := prog_5_method_1_code
def yX3_init : MethodName := ⟨RX3, "<init>", "()V"⟩
abbrev cX3_clear : ByteArray := prog_5_method_2_code
def yX3_clear : MethodName := ⟨RX3, "clear", "()V"⟩
abbrev cX3_hasBurden : ByteArray := prog_5_method_3_code
def yX3_hasBurden : MethodName := ⟨RX3, "hasBurden", "(I)Z"⟩
abbrev cX3_tellBurden : ByteArray := prog_5_method_4_code
def yX3_tellBurden : MethodName := ⟨RX3, "tellBurden", "(III)V"⟩
abbrev cX3_tellSetting : ByteArray := prog_5_method_5_code
def yX3_tellSetting : MethodName := ⟨RX3, "tellSetting", "(II)V"⟩
abbrev cX3_numberPlaces : ByteArray := prog_5_method_6_code
def yX3_numberPlaces : MethodName := ⟨RX3, "numberPlaces", "()V"⟩
abbrev cX3_setting : ByteArray := prog_5_method_7_code
def yX3_setting : MethodName := ⟨RX3, "setting", "(I)I"⟩
abbrev cX3_places : ByteArray := prog_5_method_8_code
def yX3_places : MethodName := ⟨RX3, "places", "()I"⟩
abbrev cX3_hasPlace : ByteArray := prog_5_method_9_code
def yX3_hasPlace : MethodName := ⟨RX3, "hasPlace", "(I)Z"⟩
abbrev cX3_burdenAt : ByteArray := prog_5_method_10_code
def yX3_burdenAt : MethodName := ⟨RX3, "burdenAt", "(I)I"⟩
abbrev cX3_partBehind : ByteArray := prog_5_method_11_code
def yX3_partBehind : MethodName := ⟨RX3, "partBehind", "(II)I"⟩
abbrev cX3_shareOf : ByteArray := prog_5_method_12_code
def yX3_shareOf : MethodName := ⟨RX3, "shareOf", "(I)I"⟩
def RX4 : String := "BurdenCourt$Tape"
def TX4 : u_T := fun k => match k with
  | 0 => ("BurdenCourt$Tape", "bytes", "[B", true)
  | _ => ("BurdenCourt$Tape", "length", "I", false)
def tyX4 : Nat → FieldType := fun k => match k with
  | 0 => .array .byte
  | _ => .int
abbrev wsX40 : List Cond := u_ws RX4 TX4 2
theorem nmX4 : ∀ a, a < 2 → ∀ b, b < 2 → a ≠ b → (TX4 a).2.1 ≠ (TX4 b).2.1 := by decide +kernel
theorem tyX4_ok : ∀ k, k < 2 → parseFieldDescriptor (TX4 k).2.2.1 = some (tyX4 k) := by decide +kernel
abbrev cX4_init : ByteArray := prog_6_method_1_code
def yX4_init : MethodName := ⟨RX4, "<init>", "()V"⟩
abbrev cX4_length : ByteArray := prog_6_method_2_code
def yX4_length : MethodName := ⟨RX4, "length", "()I"⟩
abbrev cX4_hasRoom : ByteArray := prog_6_method_3_code
def yX4_hasRoom : MethodName := ⟨RX4, "hasRoom", "(I)Z"⟩
abbrev cX4_append : ByteArray := prog_6_method_4_code
def yX4_append : MethodName := ⟨RX4, "append", "(I)V"⟩
abbrev cX4_at : ByteArray := prog_6_method_5_code
def yX4_at : MethodName := ⟨RX4, "at", "(I)I"⟩
abbrev cX4_clear : ByteArray := prog_6_method_6_code
def yX4_clear : MethodName := ⟨RX4, "clear", "()V"⟩
def RX5 : String := "BurdenCourt"
def TX5 : u_T := fun k => match k with
  | 0 => ("BurdenCourt", "tape", "LBurdenCourt$Tape;", true)
  | 1 => ("BurdenCourt", "reader", "LBurdenCourt$Reader;", true)
  | 2 => ("BurdenCourt", "roll", "LBurdenCourt$Roll;", true)
  | 3 => ("BurdenCourt", "foreseen", "LBurdenCourt$Roll;", true)
  | 4 => ("BurdenCourt", "docket", "LBurdenCourt$Docket;", true)
  | 5 => ("BurdenCourt", "law", "LBurdenCourt$Statutes;", false)
  | 6 => ("BurdenCourt", "draft", "LBurdenCourt$Statutes;", false)
  | 7 => ("BurdenCourt", "yearOn", "Z", false)
  | 8 => ("BurdenCourt", "yearsBegun", "I", false)
  | 9 => ("BurdenCourt", "day", "I", false)
  | _ => ("BurdenCourt", "coinsPaid", "I", false)
def tyX5 : Nat → FieldType := fun k => match k with
  | 0 => .object "BurdenCourt$Tape"
  | 1 => .object "BurdenCourt$Reader"
  | 2 => .object "BurdenCourt$Roll"
  | 3 => .object "BurdenCourt$Roll"
  | 4 => .object "BurdenCourt$Docket"
  | 5 => .object "BurdenCourt$Statutes"
  | 6 => .object "BurdenCourt$Statutes"
  | 7 => .boolean
  | 8 => .int
  | 9 => .int
  | _ => .int
abbrev wsX50 : List Cond := u_ws RX5 TX5 11
theorem nmX5 : ∀ a, a < 11 → ∀ b, b < 11 → a ≠ b → (TX5 a).2.1 ≠ (TX5 b).2.1 := by decide +kernel
theorem tyX5_ok : ∀ k, k < 11 → parseFieldDescriptor (TX5 k).2.2.1 = some (tyX5 k) := by decide +kernel
abbrev cX5_init : ByteArray := prog_1_method_1_code
def yX5_init : MethodName := ⟨RX5, "<init>", "()V"⟩
abbrev cX5_feed : ByteArray := prog_1_method_2_code
def yX5_feed : MethodName := ⟨RX5, "feed", "(IIIII)I"⟩
abbrev cX5_statutes : ByteArray := prog_1_method_3_code
def yX5_statutes : MethodName := ⟨RX5, "statutes", "(I)I"⟩
abbrev cX5_fault : ByteArray := prog_1_method_4_code
def yX5_fault : MethodName := ⟨RX5, "fault", "(I)I"⟩
abbrev cX5_man : ByteArray := prog_1_method_5_code
def yX5_man : MethodName := ⟨RX5, "man", "(II)I"⟩
abbrev cX5_found : ByteArray := prog_1_method_6_code
def yX5_found : MethodName := ⟨RX5, "found", "(II)Z"⟩
abbrev cX5_look : ByteArray := prog_1_method_7_code
def yX5_look : MethodName := ⟨RX5, "look", "(II)I"⟩
abbrev cX5_richest : ByteArray := prog_1_method_8_code
def yX5_richest : MethodName := ⟨RX5, "richest", "(I)I"⟩
abbrev cX5_place : ByteArray := prog_1_method_9_code
def yX5_place : MethodName := ⟨RX5, "place", "(II)I"⟩
abbrev cX5_begin : ByteArray := prog_1_method_10_code
def yX5_begin : MethodName := ⟨RX5, "begin", "()I"⟩
abbrev cX5_pass : ByteArray := prog_1_method_11_code
def yX5_pass : MethodName := ⟨RX5, "pass", "(I)I"⟩
abbrev cX5_challenge : ByteArray := prog_1_method_12_code
def yX5_challenge : MethodName := ⟨RX5, "challenge", "(II)I"⟩
abbrev cX5_answer : ByteArray := prog_1_method_13_code
def yX5_answer : MethodName := ⟨RX5, "answer", "(IZ)Z"⟩
abbrev cX5_swear : ByteArray := prog_1_method_14_code
def yX5_swear : MethodName := ⟨RX5, "swear", "(IZ)Z"⟩
abbrev cX5_told : ByteArray := prog_1_method_15_code
def yX5_told : MethodName := ⟨RX5, "told", "(II)I"⟩
abbrev cX5_end : ByteArray := prog_1_method_16_code
def yX5_end : MethodName := ⟨RX5, "end", "()I"⟩
abbrev cX5_part : ByteArray := prog_1_method_17_code
def yX5_part : MethodName := ⟨RX5, "part", "(I)I"⟩
abbrev cX5_gain : ByteArray := prog_1_method_18_code
def yX5_gain : MethodName := ⟨RX5, "gain", "(II)I"⟩
abbrev cX5_ahead : ByteArray := prog_1_method_19_code
def yX5_ahead : MethodName := ⟨RX5, "ahead", "(I)I"⟩
abbrev cX5_count : ByteArray := prog_1_method_20_code
def yX5_count : MethodName := ⟨RX5, "count", "(I)I"⟩
abbrev cX5_areCoins : ByteArray := prog_1_method_21_code
def yX5_areCoins : MethodName := ⟨RX5, "areCoins", "(I)Z"⟩
abbrev cX5_isFitNow : ByteArray := prog_1_method_22_code
def yX5_isFitNow : MethodName := ⟨RX5, "isFitNow", "(I)Z"⟩
def RX6 : String := "BurdenCourtModel"
def TX6 : u_T := fun k => match k with
  | 0 => ("BurdenCourtModel", "tape", "[I", true)
  | 1 => ("BurdenCourtModel", "tapeSize", "I", false)
  | 2 => ("BurdenCourtModel", "thrown", "I", false)
  | 3 => ("BurdenCourtModel", "cost", "[I", true)
  | 4 => ("BurdenCourtModel", "share", "[I", true)
  | 5 => ("BurdenCourtModel", "rule", "[I", true)
  | 6 => ("BurdenCourtModel", "places", "I", false)
  | 7 => ("BurdenCourtModel", "burden", "[I", true)
  | 8 => ("BurdenCourtModel", "fault", "I", false)
  | 9 => ("BurdenCourtModel", "faultPlace", "I", false)
  | 10 => ("BurdenCourtModel", "men", "I", false)
  | 11 => ("BurdenCourtModel", "declared", "[I", true)
  | 12 => ("BurdenCourtModel", "hidden", "[I", true)
  | 13 => ("BurdenCourtModel", "freeTill", "[I", true)
  | 14 => ("BurdenCourtModel", "years", "[I", true)
  | 15 => ("BurdenCourtModel", "begun", "I", false)
  | 16 => ("BurdenCourtModel", "isOn", "Z", false)
  | 17 => ("BurdenCourtModel", "day", "I", false)
  | 18 => ("BurdenCourtModel", "bearer", "[I", true)
  | 19 => ("BurdenCourtModel", "bore", "[Z", true)
  | 20 => ("BurdenCourtModel", "allPaid", "I", false)
  | 21 => ("BurdenCourtModel", "many", "I", false)
  | 22 => ("BurdenCourtModel", "cX", "[I", true)
  | 23 => ("BurdenCourtModel", "cY", "[I", true)
  | 24 => ("BurdenCourtModel", "cPlace", "[I", true)
  | 25 => ("BurdenCourtModel", "cDay", "[I", true)
  | 26 => ("BurdenCourtModel", "cState", "[I", true)
  | 27 => ("BurdenCourtModel", "cTerm", "[I", true)
  | 28 => ("BurdenCourtModel", "cByX", "[Z", true)
  | 29 => ("BurdenCourtModel", "cByY", "[Z", true)
  | 30 => ("BurdenCourtModel", "words", "[I", true)
  | 31 => ("BurdenCourtModel", "size", "I", false)
  | 32 => ("BurdenCourtModel", "next", "I", false)
  | 33 => ("BurdenCourtModel", "kind", "I", false)
  | 34 => ("BurdenCourtModel", "which", "I", false)
  | 35 => ("BurdenCourtModel", "place", "I", false)
  | _ => ("BurdenCourtModel", "read", "I", false)
def tyX6 : Nat → FieldType := fun k => match k with
  | 0 => .array .int
  | 1 => .int
  | 2 => .int
  | 3 => .array .int
  | 4 => .array .int
  | 5 => .array .int
  | 6 => .int
  | 7 => .array .int
  | 8 => .int
  | 9 => .int
  | 10 => .int
  | 11 => .array .int
  | 12 => .array .int
  | 13 => .array .int
  | 14 => .array .int
  | 15 => .int
  | 16 => .boolean
  | 17 => .int
  | 18 => .array .int
  | 19 => .array .boolean
  | 20 => .int
  | 21 => .int
  | 22 => .array .int
  | 23 => .array .int
  | 24 => .array .int
  | 25 => .array .int
  | 26 => .array .int
  | 27 => .array .int
  | 28 => .array .boolean
  | 29 => .array .boolean
  | 30 => .array .int
  | 31 => .int
  | 32 => .int
  | 33 => .int
  | 34 => .int
  | 35 => .int
  | _ => .int
abbrev wsX60 : List Cond := u_ws RX6 TX6 37
theorem nmX6 : ∀ a, a < 37 → ∀ b, b < 37 → a ≠ b → (TX6 a).2.1 ≠ (TX6 b).2.1 := by decide +kernel
theorem tyX6_ok : ∀ k, k < 37 → parseFieldDescriptor (TX6 k).2.2.1 = some (tyX6 k) := by decide +kernel
abbrev cX6_init : ByteArray := prog_8_method_1_code
def yX6_init : MethodName := ⟨RX6, "<init>", "()V"⟩
abbrev cX6_thrown : ByteArray := prog_8_method_2_code
def yX6_thrown : MethodName := ⟨RX6, "thrown", "()I"⟩
abbrev cX6_feed : ByteArray := prog_8_method_3_code
def yX6_feed : MethodName := ⟨RX6, "feed", "(IIIII)I"⟩
abbrev cX6_wrong : ByteArray := prog_8_method_4_code
def yX6_wrong : MethodName := ⟨RX6, "wrong", "(II)Z"⟩
abbrev cX6_wordAt : ByteArray := prog_8_method_5_code
def yX6_wordAt : MethodName := ⟨RX6, "wordAt", "(II)I"⟩
abbrev cX6_isSmall : ByteArray := prog_8_method_6_code
def yX6_isSmall : MethodName := ⟨RX6, "isSmall", "(I)Z"⟩
abbrev cX6_isDigit : ByteArray := prog_8_method_7_code
def yX6_isDigit : MethodName := ⟨RX6, "isDigit", "(I)Z"⟩
abbrev cX6_take : ByteArray := prog_8_method_8_code
def yX6_take : MethodName := ⟨RX6, "take", "()V"⟩
abbrev cX6_word : ByteArray := prog_8_method_9_code
def yX6_word : MethodName := ⟨RX6, "word", "(I)Z"⟩
abbrev cX6_number : ByteArray := prog_8_method_10_code
def yX6_number : MethodName := ⟨RX6, "number", "(II)Z"⟩
abbrev cX6_burdenLine : ByteArray := prog_8_method_11_code
def yX6_burdenLine : MethodName := ⟨RX6, "burdenLine", "()Z"⟩
abbrev cX6_line : ByteArray := prog_8_method_12_code
def yX6_line : MethodName := ⟨RX6, "line", "()Z"⟩
abbrev cX6_statutes : ByteArray := prog_8_method_13_code
def yX6_statutes : MethodName := ⟨RX6, "statutes", "(I)I"⟩
abbrev cX6_fault : ByteArray := prog_8_method_14_code
def yX6_fault : MethodName := ⟨RX6, "fault", "(I)I"⟩
abbrev cX6_man : ByteArray := prog_8_method_15_code
def yX6_man : MethodName := ⟨RX6, "man", "(II)I"⟩
abbrev cX6_isMan : ByteArray := prog_8_method_16_code
def yX6_isMan : MethodName := ⟨RX6, "isMan", "(I)Z"⟩
abbrev cX6_found : ByteArray := prog_8_method_17_code
def yX6_found : MethodName := ⟨RX6, "found", "(II)Z"⟩
abbrev cX6_bears : ByteArray := prog_8_method_18_code
def yX6_bears : MethodName := ⟨RX6, "bears", "(II)I"⟩
abbrev cX6_isFit : ByteArray := prog_8_method_19_code
def yX6_isFit : MethodName := ⟨RX6, "isFit", "(IIII)Z"⟩
abbrev cX6_fails : ByteArray := prog_8_method_20_code
def yX6_fails : MethodName := ⟨RX6, "fails", "(I)I"⟩
abbrev cX6_look : ByteArray := prog_8_method_21_code
def yX6_look : MethodName := ⟨RX6, "look", "(II)I"⟩
abbrev cX6_richest : ByteArray := prog_8_method_22_code
def yX6_richest : MethodName := ⟨RX6, "richest", "(I)I"⟩
abbrev cX6_place : ByteArray := prog_8_method_23_code
def yX6_place : MethodName := ⟨RX6, "place", "(II)I"⟩
abbrev cX6_fill : ByteArray := prog_8_method_24_code
def yX6_fill : MethodName := ⟨RX6, "fill", "(III)I"⟩
abbrev cX6_begin : ByteArray := prog_8_method_25_code
def yX6_begin : MethodName := ⟨RX6, "begin", "()I"⟩
abbrev cX6_pays : ByteArray := prog_8_method_26_code
def yX6_pays : MethodName := ⟨RX6, "pays", "(II)I"⟩
abbrev cX6_ends : ByteArray := prog_8_method_27_code
def yX6_ends : MethodName := ⟨RX6, "ends", "(III)I"⟩
abbrev cX6_isOpen : ByteArray := prog_8_method_28_code
def yX6_isOpen : MethodName := ⟨RX6, "isOpen", "(I)Z"⟩
abbrev cX6_goesOver : ByteArray := prog_8_method_29_code
def yX6_goesOver : MethodName := ⟨RX6, "goesOver", "(I)Z"⟩
abbrev cX6_over : ByteArray := prog_8_method_30_code
def yX6_over : MethodName := ⟨RX6, "over", "(I)V"⟩
abbrev cX6_judge : ByteArray := prog_8_method_31_code
def yX6_judge : MethodName := ⟨RX6, "judge", "(I)V"⟩
abbrev cX6_pass : ByteArray := prog_8_method_32_code
def yX6_pass : MethodName := ⟨RX6, "pass", "(I)I"⟩
abbrev cX6_challenge : ByteArray := prog_8_method_33_code
def yX6_challenge : MethodName := ⟨RX6, "challenge", "(II)I"⟩
abbrev cX6_answer : ByteArray := prog_8_method_34_code
def yX6_answer : MethodName := ⟨RX6, "answer", "(IZ)Z"⟩
abbrev cX6_swear : ByteArray := prog_8_method_35_code
def yX6_swear : MethodName := ⟨RX6, "swear", "(IZ)Z"⟩
abbrev cX6_told : ByteArray := prog_8_method_36_code
def yX6_told : MethodName := ⟨RX6, "told", "(II)I"⟩
abbrev cX6_end : ByteArray := prog_8_method_37_code
def yX6_end : MethodName := ⟨RX6, "end", "()I"⟩
abbrev cX6_part : ByteArray := prog_8_method_38_code
def yX6_part : MethodName := ⟨RX6, "part", "(I)I"⟩
abbrev cX6_gain : ByteArray := prog_8_method_39_code
def yX6_gain : MethodName := ⟨RX6, "gain", "(II)I"⟩
abbrev cX6_ahead : ByteArray := prog_8_method_40_code
def yX6_ahead : MethodName := ⟨RX6, "ahead", "(I)I"⟩
abbrev cX6_count : ByteArray := prog_8_method_41_code
def yX6_count : MethodName := ⟨RX6, "count", "(I)I"⟩
def RJ9 : String := "java/lang/Math"
def TJ9 : u_T := fun k => match k with
  | _ => ("", "", "", false)
def tyJ9 : Nat → FieldType := fun k => match k with
  | _ => .int
abbrev wsJ90 : List Cond := u_ws RJ9 TJ9 0
theorem nmJ9 : ∀ a, a < 0 → ∀ b, b < 0 → a ≠ b → (TJ9 a).2.1 ≠ (TJ9 b).2.1 := by decide +kernel
theorem tyJ9_ok : ∀ k, k < 0 → parseFieldDescriptor (TJ9 k).2.2.1 = some (tyJ9 k) := by decide +kernel
abbrev cJ9_min_7cf53 : ByteArray := prog_11_method_69_code
def yJ9_min_7cf53 : MethodName := ⟨RJ9, "min", "(II)I"⟩
def RJ0 : String := "java/lang/String"
def TJ0 : u_T := fun k => match k with
  | _ => ("", "", "", false)
def tyJ0 : Nat → FieldType := fun k => match k with
  | _ => .int
abbrev wsJ00 : List Cond := u_ws RJ0 TJ0 0
theorem nmJ0 : ∀ a, a < 0 → ∀ b, b < 0 → a ≠ b → (TJ0 a).2.1 ≠ (TJ0 b).2.1 := by decide +kernel
theorem tyJ0_ok : ∀ k, k < 0 → parseFieldDescriptor (TJ0 k).2.2.1 = some (tyJ0 k) := by decide +kernel
abbrev cJ0_length_8abf5 : ByteArray := prog_13_method_54_code
def yJ0_length_8abf5 : MethodName := ⟨RJ0, "length", "()I"⟩
abbrev cJ0_charAt_5068e : ByteArray := prog_13_method_56_code
def yJ0_charAt_5068e : MethodName := ⟨RJ0, "charAt", "(I)C"⟩
abbrev cJ0_coder_7d493 : ByteArray := prog_13_method_152_code
def yJ0_coder_7d493 : MethodName := ⟨RJ0, "coder", "()B"⟩
abbrev cJ0_isLatin1_aae02 : ByteArray := prog_13_method_154_code
def yJ0_isLatin1_aae02 : MethodName := ⟨RJ0, "isLatin1", "()Z"⟩
abbrev cJ0_checkIndex_df160 : ByteArray := prog_13_method_155_code
def yJ0_checkIndex_df160 : MethodName := ⟨RJ0, "checkIndex", "(II)V"⟩
def RJ1 : String := "java/lang/StringLatin1"
def TJ1 : u_T := fun k => match k with
  | _ => ("", "", "", false)
def tyJ1 : Nat → FieldType := fun k => match k with
  | _ => .int
abbrev wsJ10 : List Cond := u_ws RJ1 TJ1 0
theorem nmJ1 : ∀ a, a < 0 → ∀ b, b < 0 → a ≠ b → (TJ1 a).2.1 ≠ (TJ1 b).2.1 := by decide +kernel
theorem tyJ1_ok : ∀ k, k < 0 → parseFieldDescriptor (TJ1 k).2.2.1 = some (tyJ1 k) := by decide +kernel
abbrev cJ1_charAt_3b067 : ByteArray := prog_14_method_2_code
def yJ1_charAt_3b067 : MethodName := ⟨RJ1, "charAt", "([BI)C"⟩
def RJ2 : String := "java/lang/StringUTF16"
def TJ2 : u_T := fun k => match k with
  | _ => ("", "", "", false)
def tyJ2 : Nat → FieldType := fun k => match k with
  | _ => .int
abbrev wsJ20 : List Cond := u_ws RJ2 TJ2 0
theorem nmJ2 : ∀ a, a < 0 → ∀ b, b < 0 → a ≠ b → (TJ2 a).2.1 ≠ (TJ2 b).2.1 := by decide +kernel
theorem tyJ2_ok : ∀ k, k < 0 → parseFieldDescriptor (TJ2 k).2.2.1 = some (tyJ2 k) := by decide +kernel
abbrev cJ2_getChar_3b067 : ByteArray := prog_15_method_5_code
def yJ2_getChar_3b067 : MethodName := ⟨RJ2, "getChar", "([BI)C"⟩
abbrev cJ2_length_9d52b : ByteArray := prog_15_method_6_code
def yJ2_length_9d52b : MethodName := ⟨RJ2, "length", "([B)I"⟩
abbrev cJ2_charAt_3b067 : ByteArray := prog_15_method_83_code
def yJ2_charAt_3b067 : MethodName := ⟨RJ2, "charAt", "([BI)C"⟩
abbrev cJ2_checkIndex_2214a : ByteArray := prog_15_method_91_code
def yJ2_checkIndex_2214a : MethodName := ⟨RJ2, "checkIndex", "(I[B)V"⟩
def RJ3 : String := "jdk/internal/util/Preconditions"
def TJ3 : u_T := fun k => match k with
  | _ => ("", "", "", false)
def tyJ3 : Nat → FieldType := fun k => match k with
  | _ => .int
abbrev wsJ30 : List Cond := u_ws RJ3 TJ3 0
theorem nmJ3 : ∀ a, a < 0 → ∀ b, b < 0 → a ≠ b → (TJ3 a).2.1 ≠ (TJ3 b).2.1 := by decide +kernel
theorem tyJ3_ok : ∀ k, k < 0 → parseFieldDescriptor (TJ3 k).2.2.1 = some (tyJ3 k) := by decide +kernel
abbrev cJ3_checkIndex_8e157 : ByteArray := prog_18_method_11_code
def yJ3_checkIndex_8e157 : MethodName := ⟨RJ3, "checkIndex", "(IILjava/util/function/BiFunction;)I"⟩
def RL : String := "BurdenCourtLaw"
abbrev cL_look : ByteArray := method_3_code
def yL_look : MethodName := ⟨RL, "look", "(LBurdenCourt;II[J)I"⟩
abbrev cL_law : ByteArray := code
def yL_law : MethodName := ⟨RL, "law", "([I)Z"⟩
abbrev vwCl : List vw_C := [(RX0, TX0, 9), (RX1, TX1, 6), (RX2, TX2, 8), (RX3, TX3, 5), (RX4, TX4, 2), (RX5, TX5, 11), (RX6, TX6, 37)]
/-- the words that every method may use: those of the tables that a warm machine keeps -/
def gW : List Cond := lw_tbl.filter goodWord
theorem gW_in {w : Cond} (h : w ∈ lw_tbl) (g : goodWord w = true) : w ∈ gW := List.mem_filter.mpr ⟨h, g⟩
theorem gW_sub {w : Cond} (h : w ∈ gW) : w ∈ lw_tbl := (List.mem_filter.mp h).1
theorem inG0 : ∀ w ∈ wsX00, w ∈ gW := by decide +kernel
theorem inG1 : ∀ w ∈ wsX10, w ∈ gW := by decide +kernel
theorem inG2 : ∀ w ∈ wsX20, w ∈ gW := by decide +kernel
theorem inG3 : ∀ w ∈ wsX30, w ∈ gW := by decide +kernel
theorem inG4 : ∀ w ∈ wsX40, w ∈ gW := by decide +kernel
theorem inG5 : ∀ w ∈ wsX50, w ∈ gW := by decide +kernel
theorem inG6 : ∀ w ∈ wsX60, w ∈ gW := by decide +kernel
end
section
def kls (o : Nat) : Nat := ([5, 4, 1, 2, 2, 0, 3, 3, 6] : List Nat).getD o 6
def nfs : List Nat := [9, 6, 8, 5, 2, 11, 37]
def fkT : List (List Nat) := [[1, 1, 1, 1, 1, 1, 3, 3, 0], [4, 3, 0, 0, 0, 0], [1, 1, 1, 1, 1, 1, 1, 0], [1, 1, 1, 1, 0], [2, 0], [4, 4, 4, 4, 4, 5, 5, 0, 0, 0, 0], [1, 0, 0, 1, 1, 1, 0, 1, 0, 0, 0, 1, 1, 1, 1, 0, 0, 0, 1, 3, 0, 0, 1, 1, 1, 1, 1, 1, 3, 3, 1, 0, 0, 0, 0, 0, 0]]
def flT : List (List Nat) := [[40, 40, 40, 40, 40, 40, 40, 40, 0], [0, 4, 0, 0, 0, 0], [12, 12, 12, 12, 12, 24, 24, 0], [6, 6, 4, 24, 0], [600, 0], [0, 0, 0, 0, 0, 0, 0, 0, 0, 0, 0], [600, 0, 0, 12, 12, 8, 0, 24, 0, 0, 0, 24, 24, 24, 12, 0, 0, 0, 48, 288, 0, 0, 40, 40, 40, 40, 40, 40, 40, 40, 42, 0, 0, 0, 0, 0, 0]]
def fk (ci k : Nat) : Nat := (fkT.getD ci []).getD k 0
def fl (ci k : Nat) : Nat := (flT.getD ci []).getD k 0
def tgT : List (List Nat) := [[1, 2, 3, 4, 5, 0, 0, 0, 0, 0, 0], [0, 0], [1, 0, 0, 0, 0, 0], [0, 0, 0, 0, 0, 0, 0, 0], [0, 0, 0, 0, 0, 0, 0, 0], [0, 0, 0, 0, 0, 0, 0, 0, 0], [0, 0, 0, 0, 0], [0, 0, 0, 0, 0], [0, 0, 0, 0, 0, 0, 0, 0, 0, 0, 0, 0, 0, 0, 0, 0, 0, 0, 0, 0, 0, 0, 0, 0, 0, 0, 0, 0, 0, 0, 0, 0, 0, 0, 0, 0, 0]]
def tgt (o k : Nat) : Nat := (tgT.getD o []).getD k 0
/-! THE ABSTRACT STATE: object o, field k, place i (0 where the field is no array) -/
abbrev rS : Type := Nat → Nat → Int32 → Int32
abbrev rV : Type := Int32 ⊕ (Nat × Nat)
/-- what lies where: class ids and slots, the array classes, the addresses of the cells (object, 0) and (object, field + 1) -/
abbrev rG : Type := va_G × (Nat → ClassId) × (Nat × Nat → Nat)
def cv (g : rG) (v : rV) : Value := match v with
  | .inl x => .int x
  | .inr q => .ref (g.2.2 q)
def up (σ : rS) (o k : Nat) (i v : Int32) : rS := fun o' k' i' => if o' = o ∧ k' = k ∧ i' = i then v else σ o' k' i'
def rf (f : Int32 → Int32) : Nat → Int32 := fun j => if j < 2147483648 then f (nI j) else 0
def isA (x : Nat) : Bool := x == 1 || x == 2 || x == 3
def fvk (g : rG) (kd : Nat) (x : Int32) (o k : Nat) : Value := if isA kd = true then .ref (g.2.2 (o, k + 1)) else if kd = 4 then .ref (g.2.2 (tgt o k, 0)) else if kd = 5 then .ref (g.2.2 (x.toNatClampNeg, 0)) else .int x
def fvl (g : rG) (σ : rS) (o k : Nat) : Value := fvk g (fk (kls o) k) (σ o k 0) o k
def cL : List (Nat × Nat) := (List.range 9).flatMap fun o => (o, 0) :: ((List.range (nfs.getD (kls o) 0)).filter (fun k => isA (fk (kls o) k))).map (fun k => (o, k + 1))
def cont (g : rG) (σ : rS) (q : Nat × Nat) : va_E := match q.2 with
  | 0 => .inr (kls q.1, (List.range (nfs.getD (kls q.1) 0)).map (fvl g σ q.1))
  | k + 1 => .inl (g.2.1 (fk (kls q.1) k), (fl (kls q.1) k, .inl (rf (σ q.1 k))))
def rw_ (g : rG) (σ : rS) : va_W := cL.map fun q => (g.2.2 q, cont g σ q)
def rT (g : rG) : List (ClassId × FieldType) := [(g.2.1 0, .int), (g.2.1 1, .int), (g.2.1 2, .byte), (g.2.1 3, .boolean)]
def isO (o ci : Nat) : Prop := o < 9 ∧ kls o = ci
theorem cL_obj : ∀ o, o < 9 → (o, 0) ∈ cL := by decide +kernel
theorem cL_arr0 : ∀ o, o < 9 → ∀ k, k < 37 → (!isA (fk (kls o) k) || decide ((o, k + 1) ∈ cL)) = true := by decide +kernel
theorem cL_arr (o : Nat) (ho : o < 9) (k : Nat) (hk : k < 37) (h : isA (fk (kls o) k) = true) : (o, k + 1) ∈ cL := by
  have h1 := cL_arr0 o ho k hk
  rw [h] at h1
  exact of_decide_eq_true h1
theorem cL_inv : ∀ q ∈ cL, q.1 < 9 ∧ (q.2 ≠ 0 → isA (fk (kls q.1) (q.2 - 1)) = true) := by decide +kernel
theorem cL_nd : cL.Nodup := by decide +kernel
theorem fk_lt : ∀ c, c < 7 → ∀ k, isA (fk c k) = true → k < 37 := by
  intro c hc k h
  by_cases hk : k < 37
  · exact hk
  · exfalso
    have h2 : ∀ c, c < 7 → (fkT.getD c []).length ≤ 37 := by decide +kernel
    have h3 : (fkT.getD c [])[k]? = none := List.getElem?_eq_none (by have := h2 c hc; omega)
    have h4 : fk c k = 0 := by unfold fk; rw [List.getD_eq_getElem?_getD, h3]; rfl
    rw [h4] at h
    cases h
theorem kls_lt : ∀ o, kls o < 7 := by
  intro o
  by_cases h : o < 9
  · exact (by decide +kernel : ∀ o, o < 9 → kls o < 7) o h
  · have h3 : ([5, 4, 1, 2, 2, 0, 3, 3, 6] : List Nat)[o]? = none := List.getElem?_eq_none (by simp; omega)
    simp [kls, List.getD, h3]
theorem rw_at {g : rG} {σ : rS} {q : Nat × Nat} (h : q ∈ cL) : ∃ p : Nat, cL[p]? = some q ∧ (rw_ g σ)[p]? = some (g.2.2 q, cont g σ q) := by
  obtain ⟨p, hp⟩ := List.getElem?_of_mem h
  exact ⟨p, hp, by unfold rw_; rw [List.getElem?_map, hp]; rfl⟩
theorem rw_set {g : rG} {σ σ' : rS} {q : Nat × Nat} {p : Nat} {e : va_E} (hp : cL[p]? = some q) (he : cont g σ' q = e) (hn : ∀ q' ∈ cL, q' ≠ q → cont g σ' q' = cont g σ q') : (rw_ g σ).set p (g.2.2 q, e) = rw_ g σ' := by
  have hlt := (List.getElem?_eq_some_iff.mp hp).1
  apply List.ext_getElem?
  intro j
  by_cases hj : j = p
  · subst hj
    rw [List.getElem?_set_self (by unfold rw_; rw [List.length_map]; exact hlt)]
    unfold rw_
    rw [List.getElem?_map, hp, Option.map_some, he]
  · rw [List.getElem?_set_ne (Ne.symm hj)]
    unfold rw_
    rw [List.getElem?_map, List.getElem?_map]
    cases hq : cL[j]? with
    | none => rfl
    | some q' =>
      have hne : q' ≠ q := by
        intro h
        subst h
        exact hj ((List.getElem?_inj (List.getElem?_eq_some_iff.mp hq).1 cL_nd).mp (hq.trans hp.symm))
      rw [Option.map_some, Option.map_some, hn q' (List.mem_of_getElem? hq) hne]
theorem rw_D {g : rG} {A : Nat → Prop} {σ : rS} (σ' : rS) (h : va_D A (rw_ g σ)) : va_D A (rw_ g σ') := by
  have key : ∀ (k : Nat) (q : Nat × va_E), (rw_ g σ')[k]? = some q → ∃ q0, (rw_ g σ)[k]? = some q0 ∧ q0.1 = q.1 := by
    intro k q hk
    unfold rw_ at hk ⊢
    rw [List.getElem?_map] at hk ⊢
    cases hq : cL[k]? with
    | none => rw [hq] at hk; cases hk
    | some z => rw [hq] at hk; cases hk; exact ⟨_, rfl, rfl⟩
  refine ⟨fun i j x y hi hj hxy => ?_, fun k q hk => ?_⟩
  · obtain ⟨x0, h1, h2⟩ := key i x hi
    obtain ⟨y0, h3, h4⟩ := key j y hj
    exact h.1 i j x0 y0 h1 h3 (h2.trans (hxy.trans h4.symm))
  · obtain ⟨q0, h1, h2⟩ := key k q hk
    rw [← h2]
    exact h.2 k q0 h1
theorem up_self {σ : rS} {o k : Nat} {i v : Int32} : up σ o k i v o k i = v := by simp [up]
theorem up_o {σ : rS} {o k o' k' : Nat} {i i' v : Int32} (h : o' ≠ o) : up σ o k i v o' k' i' = σ o' k' i' := by simp [up, h]
theorem up_k {σ : rS} {o k o' k' : Nat} {i i' v : Int32} (h : k' ≠ k) : up σ o k i v o' k' i' = σ o' k' i' := by simp [up, h]
theorem up_i {σ : rS} {o k o' k' : Nat} {i i' v : Int32} (h : i' ≠ i) : up σ o k i v o' k' i' = σ o' k' i' := by simp [up, h]
theorem nI_cl {i : Int32} (h : ¬ i < 0) : nI i.toNatClampNeg = i := by
  obtain ⟨j, hj, rfl⟩ := nI_of h
  rw [nI_clamp hj]
theorem cl_lt (i : Int32) : i.toNatClampNeg < 2147483648 := by
  have h1 : i.toInt < 2147483648 := Int32.toInt_lt i
  have h2 : i.toNatClampNeg = i.toInt.toNat := rfl
  rw [h2]
  omega
theorem rf_at {f : Int32 → Int32} {i : Int32} (h : ¬ i < 0) : rf f i.toNatClampNeg = f i := by
  unfold rf
  rw [if_pos (cl_lt i), nI_cl h]
theorem rf_up {σ : rS} {o k : Nat} {i v : Int32} (h : ¬ i < 0) : rf (up σ o k i v o k) = upd (rf (σ o k)) i.toNatClampNeg v := by
  funext j
  obtain ⟨n, hn, rfl⟩ := nI_of h
  rw [nI_clamp hn]
  by_cases hj : j < 2147483648
  · by_cases hjn : j = n
    · subst hjn
      simp [rf, hj, up, upd]
    · have h2 : ¬ nI j = nI n := fun h => hjn ((nI_eq hj hn).mp h)
      simp [rf, hj, up, upd, hjn, h2]
  · have hjn : ¬ j = n := by omega
    simp [rf, hj, upd, hjn]
theorem rf_up_ne {σ : rS} {o k o' k' : Nat} {i v : Int32} (h : ¬ (o' = o ∧ k' = k)) : rf (up σ o k i v o' k') = rf (σ o' k') := by
  funext j
  simp only [rf, up]
  split
  · rw [if_neg (fun z => h ⟨z.1, z.2.1⟩)]
  · rfl
theorem fvl_up_ne {g : rG} {σ : rS} {o k o' k' : Nat} {i v : Int32} (h : ¬ (o' = o ∧ k' = k) ∨ isA (fk (kls o) k) = true) : fvl g (up σ o k i v) o' k' = fvl g σ o' k' := by
  unfold fvl
  by_cases h2 : o' = o ∧ k' = k
  · rcases h with h | h
    · exact absurd h2 h
    · rw [h2.1, h2.2]
      unfold fvk
      rw [if_pos h, if_pos h]
  · have e : up σ o k i v o' k' 0 = σ o' k' 0 := by unfold up; rw [if_neg (fun z => h2 ⟨z.1, z.2.1⟩)]
    rw [e]
/-- a field's write, on the cells -/
theorem cont_field {g : rG} {σ : rS} {o k : Nat} {v : Int32} {w : Value} (hk : k < nfs.getD (kls o) 0) (hf : isA (fk (kls o) k) = false) (hw : fvl g (up σ o k 0 v) o k = w) :
    cont g (up σ o k 0 v) (o, 0) = .inr (kls o, ((List.range (nfs.getD (kls o) 0)).map (fvl g σ o)).set k w) ∧ ∀ q ∈ cL, q ≠ (o, 0) → cont g (up σ o k 0 v) q = cont g σ q := by
  refine ⟨?_, ?_⟩
  · show Sum.inr (kls o, (List.range (nfs.getD (kls o) 0)).map (fvl g (up σ o k 0 v) o)) = _
    congr 2
    apply List.ext_getElem?
    intro j
    by_cases hj : j = k
    · subst hj
      rw [List.getElem?_set_self (by simpa using hk), List.getElem?_map, List.getElem?_range hk, Option.map_some, hw]
    · rw [List.getElem?_set_ne (Ne.symm hj), List.getElem?_map, List.getElem?_map]
      by_cases hjn : j < nfs.getD (kls o) 0
      · rw [List.getElem?_range hjn, Option.map_some, Option.map_some, fvl_up_ne (Or.inl (fun z2 => hj z2.2))]
      · rw [List.getElem?_eq_none (by simpa using hjn)]
        rfl
  · intro q hq hne
    obtain ⟨o', k'⟩ := q
    cases k' with
    | zero =>
      have ho : o' ≠ o := fun h => hne (by rw [h])
      show Sum.inr (kls o', (List.range (nfs.getD (kls o') 0)).map (fvl g (up σ o k 0 v) o')) = Sum.inr (kls o', (List.range (nfs.getD (kls o') 0)).map (fvl g σ o'))
      congr 2
      exact List.map_congr_left (fun a _ => fvl_up_ne (Or.inl (fun z => ho z.1)))
    | succ k' =>
      have h2 := (cL_inv _ hq).2 (Nat.succ_ne_zero _)
      have h3 : isA (fk (kls o') k') = true := h2
      show Sum.inl (g.2.1 (fk (kls o') k'), (fl (kls o') k', Sum.inl (rf (up σ o k 0 v o' k')))) = Sum.inl (g.2.1 (fk (kls o') k'), (fl (kls o') k', Sum.inl (rf (σ o' k'))))
      rw [rf_up_ne]
      rintro ⟨rfl, rfl⟩
      rw [hf] at h3
      cases h3
/-- an array's write, on the cells -/
theorem cont_arr {g : rG} {σ : rS} {o k : Nat} {i v : Int32} (hi : ¬ i < 0) (hf : isA (fk (kls o) k) = true) :
    cont g (up σ o k i v) (o, k + 1) = .inl (g.2.1 (fk (kls o) k), (fl (kls o) k, .inl (upd (rf (σ o k)) i.toNatClampNeg v))) ∧ ∀ q ∈ cL, q ≠ (o, k + 1) → cont g (up σ o k i v) q = cont g σ q := by
  refine ⟨?_, ?_⟩
  · show Sum.inl (g.2.1 (fk (kls o) k), (fl (kls o) k, Sum.inl (rf (up σ o k i v o k)))) = _
    rw [rf_up hi]
  · intro q hq hne
    obtain ⟨o', k'⟩ := q
    cases k' with
    | zero =>
      show Sum.inr (kls o', (List.range (nfs.getD (kls o') 0)).map (fvl g (up σ o k i v) o')) = Sum.inr (kls o', (List.range (nfs.getD (kls o') 0)).map (fvl g σ o'))
      congr 2
      exact List.map_congr_left (fun a _ => fvl_up_ne (Or.inr hf))
    | succ k' =>
      show Sum.inl (g.2.1 (fk (kls o') k'), (fl (kls o') k', Sum.inl (rf (up σ o k i v o' k')))) = Sum.inl (g.2.1 (fk (kls o') k'), (fl (kls o') k', Sum.inl (rf (σ o' k'))))
      rw [rf_up_ne]
      rintro ⟨rfl, rfl⟩
      exact hne rfl
end
section
/-! A METHOD: its class, name, code, locals, answer's type, and its room (frames, words of locals) -/
abbrev rM : Type := String × MethodName × ByteArray × Nat × Option FieldType × Nat × Nat
abbrev mO (M : rM) : String := M.1
abbrev mY (M : rM) : MethodName := M.2.1
abbrev mC (M : rM) : ByteArray := M.2.2.1
abbrev mN (M : rM) : Nat := M.2.2.2.1
abbrev mR (M : rM) : Option FieldType := M.2.2.2.2.1
abbrev mF (M : rM) : Nat := M.2.2.2.2.2.1
abbrev mL (M : rM) : Nat := M.2.2.2.2.2.2
def rRm (M : rM) : Room := { frames := mF M, cells := 0, slots := 0, locals := mL M }
def rWd (M : rM) : List Cond := .code (mY M) (mC M) (mN M) (mR M) :: gW
/-- the literals: their classes, entries, texts, lengths, bytes -/
def sOw : List String := ["BurdenCourt$Reader", "BurdenCourt$Reader", "BurdenCourt$Reader", "BurdenCourt$Reader", "BurdenCourt$Reader", "BurdenCourt$Reader", "BurdenCourt$Reader", "BurdenCourt", "BurdenCourt"]
def sIx : List Nat := [135, 137, 139, 141, 76, 86, 88, 114, 136]
def sTx : List String := ["free", "floor", "answer", "swear", "burden", "cost", "share", "no such man", "no such what"]
def sLn : List Nat := [4, 5, 6, 5, 6, 4, 5, 11, 12]
def sBy : List (List Int32) := [[102, 114, 101, 101], [102, 108, 111, 111, 114], [97, 110, 115, 119, 101, 114], [115, 119, 101, 97, 114], [98, 117, 114, 100, 101, 110], [99, 111, 115, 116], [115, 104, 97, 114, 101], [110, 111, 32, 115, 117, 99, 104, 32, 109, 97, 110], [110, 111, 32, 115, 117, 99, 104, 32, 119, 104, 97, 116]]
def rK (g : rG) (A : Nat → Prop) (U : State) (H : Heap) : Prop := va_K g.1 vwCl (rT g) U ∧ vk_S 9 sLn sBy (fun i => g.2.2 (100 + i, 0)) (fun i => g.2.2 (100 + i, 1)) A U H ∧ (∀ i : Nat, i < 9 → vk_R (sOw.getD i "") (sIx.getD i 0) (sTx.getD i "") (g.2.2 (100 + i, 0)) U) ∧ va_Z "java/lang/String" "COMPACT_STRINGS" "Z" (.int 1) A U H ∧ va_Zq "jdk/internal/util/Preconditions" "SIOOBE_FORMATTER" "Ljava/util/function/BiFunction;" A U H ∧ va_Zq "java/lang/Throwable" "UNASSIGNED_STACK" "[Ljava/lang/StackTraceElement;" A U H ∧ va_Zq "java/lang/Throwable" "SUPPRESSED_SENTINEL" "Ljava/util/List;" A U H
theorem rK.to {g : rG} {A : Nat → Prop} {s U : State} {H0 H : Heap} {locs : List Loc} (h : rK g A s H0) (hS : va_S A H0 H locs) (hW : s.WarmedH U.vm) : rK g A U H :=
  ⟨va_K.moved hW.alike h.1, (h.2.1.kept (fun a h1 h2 => hS.2.1 a h1 h2)).moved hW.alike, fun i hi => (h.2.2.1 i hi).warm hW, (h.2.2.2.1.kept (fun a h1 h2 => hS.2.1 a h1 h2)).moved hW.alike, (h.2.2.2.2.1.kept (fun a h1 h2 => hS.2.1 a h1 h2)).moved hW.alike, (h.2.2.2.2.2.1.kept (fun a h1 h2 => hS.2.1 a h1 h2)).moved hW.alike, (h.2.2.2.2.2.2.kept (fun a h1 h2 => hS.2.1 a h1 h2)).moved hW.alike⟩
theorem rK.same {g : rG} {A : Nat → Prop} {s U : State} {H : Heap} (h : rK g A s H) (hv : U.vm = s.vm) : rK g A U H := by
  have ha : s.vm.Alike U.vm := by rw [hv]; exact Vm.Alike.refl _
  exact ⟨va_K.moved ha h.1, h.2.1.moved ha, fun i hi => (h.2.2.1 i hi).same hv, h.2.2.2.1.moved ha, h.2.2.2.2.1.moved ha, h.2.2.2.2.2.1.moved ha, h.2.2.2.2.2.2.moved ha⟩
/-- what a method's body stands on -/
def rX (g : rG) (M : rM) (A : Nat → Prop) (p : Program) (s : State) (m : MethodId) (args : Array Value) (meth : Method) (c : Code) : Prop :=
  p.tables.exec = Jvm.exec ∧ c.code = mC M ∧ c.maxLocals = mN M ∧ s.vm.findClass (mO M) = some m.cls ∧ (∀ w ∈ gW, w.before args s = true) ∧ meth.sig.returnType = mR M ∧ meth.locks = false ∧ rK g A s s.heap
def rPc (g : rG) (A : Nat → Prop) (as : List rV) (σ : rS) : Array Value → State → Prop := va_Pc (as.map (cv g)) (fun U => va_P g.1 vwCl (rw_ g σ) U.heap ∧ va_D A (rw_ g σ) ∧ rK g A U U.heap)
def rQc (g : rG) (A : Nat → Prop) (r : Option rV) (σ' : rS) : Array Value → State → Outcome → State → Prop := fun _ st oc t => oc = .returned (r.map (cv g)) ∧ va_P g.1 vwCl (rw_ g σ') t.heap ∧ va_F A st t
/-- THE CONTRACT: called with as in the state σ, the method returns r and leaves σ' -/
def Ct (M : rM) (as : List rV) (σ : rS) (r : Option rV) (σ' : rS) : Prop :=
  ∀ (l : Launch) (g : rG) (A : Nat → Prop), Met l (mY M) (rWd M) (rRm M) (rPc g A as σ) (rQc g A r σ') 0 0 A
/-- the locals: the first ones, as listed -/
def Lh (g : rG) (lsC : Array Slot) (n : Nat) (ls : List rV) : Prop := lsC.size = n ∧ lv_wf lsC ∧ ∀ (i : Nat) (v : rV), ls[i]? = some v → lsC[i]? = some (.val (cv g v))
/-- THE JUDGEMENT: from here the body returns r and leaves σ' -/
def E (M : rM) (pc : Nat) (ls st : List rV) (σ : rS) (r : Option rV) (σ' : rS) : Prop :=
  ∀ (p : Program) (l : Launch) (e : Env) (s : State) (m : MethodId) (args : Array Value) (below : List Frame) (meth : Method) (c : Code) (g : rG) (A : Nat → Prop) (H : Heap) (locs : List Loc) (lsC : Array Slot),
    rX g M A p s m args meth c → va_P g.1 vwCl (rw_ g σ) H → va_D A (rw_ g σ) → va_S A s.heap H locs → Lh g lsC (mN M) ls →
    W p l e (rRm M) s m args below meth c H locs 0 0 (MQ below (rQc g A r σ') args s 0 0 A) (F0 m pc lsC (st.map (cv g)))
theorem cv_cat (g : rG) (v : rV) : (cv g v).category = 1 := by cases v <;> rfl
theorem Lh.entry (g : rG) (as : List rV) {n : Nat} (h : as.length ≤ n) : Lh g ((lg_sl (as.map (cv g)) ++ List.replicate (n - (lg_sl (as.map (cv g))).length) Slot.unset).toArray) n as := by
  have e : ∀ as : List rV, lg_sl (as.map (cv g)) = as.map (fun v => Slot.val (cv g v)) := by
    intro as
    induction as with
    | nil => rfl
    | cons a t ih =>
      have h9 : lg_sl ((a :: t).map (cv g)) = [Slot.val (cv g a)] ++ lg_sl (t.map (cv g)) := by
        unfold lg_sl
        rw [List.map_cons, List.flatMap_cons, cv_cat]
        rfl
      rw [h9, ih]
      rfl
  have hl := lv_entry (as.map (cv g)) (n := n) (by rw [e, List.length_map]; exact h)
  refine ⟨hl.1, hl.2.1, fun i v hi => ?_⟩
  rw [e]
  have hlt : i < as.length := (List.getElem?_eq_some_iff.mp hi).1
  simp only [List.getElem?_toArray]
  rw [List.getElem?_append_left (by rw [List.length_map]; exact hlt), List.getElem?_map, hi]
  rfl
theorem C_of_E {M : rM} {as : List rV} {σ σ' : rS} {r : Option rV} (hy : plainName (mO M) = true) (hc : (mY M).cls = mO M) (hn : as.length ≤ mN M) (h : E M 0 as [] σ r σ') : Ct M as σ r σ' := by
  intro l g A
  refine Met.ofW (cc := mC M) (maxL := mN M) (ret := mR M) (by rw [hc]; exact hy) rfl ?_
  intro p e s m args below meth c s₁ B hml hv
  obtain ⟨rfl, hP, hD, hK⟩ := hv
  have hts := atoms_spec (ws := rWd M) B.pre
  have hown : s.vm.findClass (mY M).cls = some m.cls := findClass_of_methodNamed B.named
  rw [hc] at hown
  rw [lg_entry_eq]
  exact h p l e s m _ below meth c g A s.heap [] _ ⟨B.exec, B.bytes, hml, hown, fun w hw => hts w (List.mem_cons_of_mem _ hw), B.returns, B.notSynchronized, hK⟩ hP hD va_S.rf (Lh.entry g as hn)
/-! THE RULES -/
section RR
variable {M : rM} {pc : Nat} {ls st : List rV} {σ σ' : rS} {r : Option rV}
theorem e_iconst {n : Int} {v : Int32} (hd : decode (mC M) pc = .ok (.iconst n, 1)) (hv : Int32.ofInt n = v) (k : E M (pc + 1) ls (.inl v :: st) σ r σ') : E M pc ls st σ r σ' :=
  fun p l e s m args below meth c g A H locs lsC X hP hD hS hL => lv_iconst X.1 X.2.1 hd hv (k p l e s m args below meth c g A H locs lsC X hP hD hS hL)
theorem e_bipush {n : Int} {v : Int32} (hd : decode (mC M) pc = .ok (.bipush n, 2)) (hv : (Int8.ofInt n).toInt32 = v) (k : E M (pc + 2) ls (.inl v :: st) σ r σ') : E M pc ls st σ r σ' :=
  fun p l e s m args below meth c g A H locs lsC X hP hD hS hL => lv_bipush X.1 X.2.1 hd hv (k p l e s m args below meth c g A H locs lsC X hP hD hS hL)
theorem e_sipush {n : Int} {v : Int32} (hd : decode (mC M) pc = .ok (.sipush n, 3)) (hv : (Int16.ofInt n).toInt32 = v) (k : E M (pc + 3) ls (.inl v :: st) σ r σ') : E M pc ls st σ r σ' :=
  fun p l e s m args below meth c g A H locs lsC X hP hD hS hL => lv_sipush X.1 X.2.1 hd hv (k p l e s m args below meth c g A H locs lsC X hP hD hS hL)
theorem e_ldc {index : Nat} {v : Int32} (hd : decode (mC M) pc = .ok (.ldc index, 2)) (hw : Cond.constant (mO M) index v ∈ gW) (k : E M (pc + 2) ls (.inl v :: st) σ r σ') : E M pc ls st σ r σ' :=
  fun p l e s m args below meth c g A H locs lsC X hP hD hS hL => lv_ldc X.1 X.2.1 X.2.2.2.1 (X.2.2.2.2.1 _ hw) hd (k p l e s m args below meth c g A H locs lsC X hP hD hS hL)
theorem e_ldcS {index : Nat} (i : Nat) (hi : i < 9) (ho : sOw.getD i "" = mO M) (hx : sIx.getD i 0 = index) (hd : decode (mC M) pc = .ok (.ldc index, 2)) (k : E M (pc + 2) ls (.inr (100 + i, 0) :: st) σ r σ') : E M pc ls st σ r σ' := by
  intro p l e s m args below meth c g A H locs lsC X hP hD hS hL
  have h := X.2.2.2.2.2.2.2.2.2.1 i hi
  rw [ho, hx] at h
  exact va_ldcS X.1 X.2.1 X.2.2.2.1 h hd (k p l e s m args below meth c g A H locs lsC X hP hD hS hL)
theorem e_iload_n {n : Fin 4} {x : Int32} (hd : decode (mC M) pc = .ok (.iload_n n, 1)) (hl : ls[n.val]? = some (.inl x)) (k : E M (pc + 1) ls (.inl x :: st) σ r σ') : E M pc ls st σ r σ' :=
  fun p l e s m args below meth c g A H locs lsC X hP hD hS hL => lv_iload_n X.1 X.2.1 hd rfl (hL.2.2 _ _ hl) (k p l e s m args below meth c g A H locs lsC X hP hD hS hL)
theorem e_iload {n : Nat} {x : Int32} (hd : decode (mC M) pc = .ok (.iload n, 2)) (hl : ls[n]? = some (.inl x)) (k : E M (pc + 2) ls (.inl x :: st) σ r σ') : E M pc ls st σ r σ' :=
  fun p l e s m args below meth c g A H locs lsC X hP hD hS hL => lv_iload X.1 X.2.1 hd (hL.2.2 _ _ hl) (k p l e s m args below meth c g A H locs lsC X hP hD hS hL)
theorem e_aload_n {n : Fin 4} {q : Nat × Nat} (hd : decode (mC M) pc = .ok (.aload_n n, 1)) (hl : ls[n.val]? = some (.inr q)) (k : E M (pc + 1) ls (.inr q :: st) σ r σ') : E M pc ls st σ r σ' :=
  fun p l e s m args below meth c g A H locs lsC X hP hD hS hL => lv_aload_n X.1 X.2.1 hd rfl (hL.2.2 _ _ hl) (k p l e s m args below meth c g A H locs lsC X hP hD hS hL)
theorem e_aload {n : Nat} {q : Nat × Nat} (hd : decode (mC M) pc = .ok (.aload n, 2)) (hl : ls[n]? = some (.inr q)) (k : E M (pc + 2) ls (.inr q :: st) σ r σ') : E M pc ls st σ r σ' :=
  fun p l e s m args below meth c g A H locs lsC X hP hD hS hL => lv_aload X.1 X.2.1 hd (hL.2.2 _ _ hl) (k p l e s m args below meth c g A H locs lsC X hP hD hS hL)
/-- the locals behind a store -/
def lset : List rV → Nat → rV → List rV
  | [], _, v => [v]
  | _ :: t, 0, v => v :: t
  | a :: t, n + 1, v => a :: lset t n v
theorem lset_at : ∀ (ls : List rV) (i : Nat) (v : rV), i ≤ ls.length → ∀ j : Nat, (lset ls i v)[j]? = if j = i then some v else ls[j]?
  | [], i, v, h, j => by
    have hi : i = 0 := by simpa using h
    subst hi
    cases j with
    | zero => rfl
    | succ j => rfl
  | a :: t, 0, v, h, j => by
    cases j with
    | zero => rfl
    | succ j => rfl
  | a :: t, n + 1, v, h, j => by
    cases j with
    | zero => rfl
    | succ j =>
      show (lset t n v)[j]? = _
      rw [lset_at t n v (by simpa using h) j]
      by_cases hj : j = n
      · subst hj
        rw [if_pos rfl, if_pos rfl]
      · rw [if_neg hj, if_neg (by omega)]
        rfl
theorem Lh.store {g : rG} {lsC : Array Slot} {n i : Nat} {v : rV} (h : Lh g lsC n ls) (hi : i < n) (hl : i ≤ ls.length) : ∃ ls', storeLocals lsC i (cv g v) = some ls' ∧ Lh g ls' n (lset ls i v) := by
  have h1 : lv_has lsC n ((List.range ls.length).filterMap (fun j => ls[j]?.map (fun w => (j, cv g w)))) := by
    refine ⟨h.1, h.2.1, fun q hq => ?_⟩
    obtain ⟨j, -, hj⟩ := List.mem_filterMap.mp hq
    cases hw : ls[j]? with
    | none => rw [hw] at hj; cases hj
    | some w => rw [hw] at hj; cases hj; exact h.2.2 j w hw
  obtain ⟨ls', e, h2⟩ := lv_store1 h1 hi (cv_cat g v)
  refine ⟨ls', e, h2.1, h2.2.1, fun j w hj => ?_⟩
  rw [lset_at ls i v hl j] at hj
  by_cases hji : j = i
  · rw [if_pos hji] at hj
    cases hj
    subst hji
    exact h2.2.2 (j, cv g v) List.mem_cons_self
  · rw [if_neg hji] at hj
    refine h2.2.2 (j, cv g w) (List.mem_cons_of_mem _ (List.mem_filter.mpr ⟨List.mem_filterMap.mpr ⟨j, List.mem_range.mpr (List.getElem?_eq_some_iff.mp hj).1, by rw [hj]; rfl⟩, ?_⟩))
    have h3 : (j == i) = false := by simpa using hji
    have h4 : ((cv g w).category == 2) = false := by rw [cv_cat]; rfl
    simp [hji, h4]
theorem e_istore_n {n : Fin 4} {x : Int32} (hd : decode (mC M) pc = .ok (.istore_n n, 1)) (hn : (n : Nat) < mN M) (hl : (n : Nat) ≤ ls.length) (k : E M (pc + 1) (lset ls n (.inl x)) st σ r σ') : E M pc ls (.inl x :: st) σ r σ' := by
  intro p l e s m args below meth c g A H locs lsC X hP hD hS hL
  obtain ⟨ls', e', h'⟩ := hL.store (v := .inl x) hn hl
  obtain ⟨hx, hb, -⟩ := id X
  have kk := k p l e s m args below meth c g A H locs ls' X hP hD hS h'
  intro T hT X9
  obtain ⟨t, a, b⟩ := kk T hT X9
  refine ⟨t, ?_, b⟩
  have e2 : storeLocals lsC n (.int x) = some ls' := e'
  jvm_step X9.here [X9.here.top, ↓top_set X9.here.top, hx, hb, hd, e2, List.map, cv]
  exact a
theorem e_istore {n : Nat} {x : Int32} (hd : decode (mC M) pc = .ok (.istore n, 2)) (hn : n < mN M) (hl : n ≤ ls.length) (k : E M (pc + 2) (lset ls n (.inl x)) st σ r σ') : E M pc ls (.inl x :: st) σ r σ' := by
  intro p l e s m args below meth c g A H locs lsC X hP hD hS hL
  obtain ⟨ls', e', h'⟩ := hL.store (v := .inl x) hn hl
  obtain ⟨hx, hb, -⟩ := id X
  have kk := k p l e s m args below meth c g A H locs ls' X hP hD hS h'
  intro T hT X9
  obtain ⟨t, a, b⟩ := kk T hT X9
  refine ⟨t, ?_, b⟩
  have e2 : storeLocals lsC n (.int x) = some ls' := e'
  jvm_step X9.here [X9.here.top, ↓top_set X9.here.top, hx, hb, hd, e2, List.map, cv]
  exact a
theorem e_astore_n {n : Fin 4} {q : Nat × Nat} (hd : decode (mC M) pc = .ok (.astore_n n, 1)) (hn : (n : Nat) < mN M) (hl : (n : Nat) ≤ ls.length) (k : E M (pc + 1) (lset ls n (.inr q)) st σ r σ') : E M pc ls (.inr q :: st) σ r σ' := by
  intro p l e s m args below meth c g A H locs lsC X hP hD hS hL
  obtain ⟨ls', e', h'⟩ := hL.store (v := .inr q) hn hl
  obtain ⟨hx, hb, -⟩ := id X
  have kk := k p l e s m args below meth c g A H locs ls' X hP hD hS h'
  intro T hT X9
  obtain ⟨t, a, b⟩ := kk T hT X9
  refine ⟨t, ?_, b⟩
  have e2 : storeLocals lsC n (.ref (g.2.2 q)) = some ls' := e'
  jvm_step X9.here [X9.here.top, ↓top_set X9.here.top, hx, hb, hd, e2, List.map, cv]
  exact ⟨rfl, a⟩
theorem e_iinc {n : Nat} {d : Int} {x : Int32} (hd : decode (mC M) pc = .ok (.iinc n d, 3)) (hx0 : ls[n]? = some (.inl x)) (hn : n < mN M) (hl : n ≤ ls.length) (k : E M (pc + 3) (lset ls n (.inl (x + Int32.ofInt d))) st σ r σ') : E M pc ls st σ r σ' := by
  intro p l e s m args below meth c g A H locs lsC X hP hD hS hL
  obtain ⟨ls', e', h'⟩ := hL.store (v := .inl (x + Int32.ofInt d)) hn hl
  obtain ⟨hx, hb, -⟩ := id X
  have kk := k p l e s m args below meth c g A H locs ls' X hP hD hS h'
  have hg : lsC[n]? = some (.val (.int x)) := hL.2.2 _ _ hx0
  intro T hT X9
  obtain ⟨t, a, b⟩ := kk T hT X9
  refine ⟨t, ?_, b⟩
  have e2 : storeLocals lsC n (.int (x + Int32.ofInt d)) = some ls' := e'
  jvm_step X9.here [X9.here.top, ↓top_set X9.here.top, hx, hb, hd, hg, e2]
  exact a
/-- fewer locals -/
theorem e_drop (n : Nat) (k : E M pc (ls.take n) st σ r σ') : E M pc ls st σ r σ' := by
  intro p l e s m args below meth c g A H locs lsC X hP hD hS hL
  refine k p l e s m args below meth c g A H locs lsC X hP hD hS ⟨hL.1, hL.2.1, fun i v hi => hL.2.2 i v ?_⟩
  rw [List.getElem?_take] at hi
  split at hi
  · exact hi
  · cases hi
theorem e_iadd {x y : Int32} (hd : decode (mC M) pc = .ok (.iadd, 1)) (k : E M (pc + 1) ls (.inl (x + y) :: st) σ r σ') : E M pc ls (.inl y :: .inl x :: st) σ r σ' :=
  fun p l e s m args below meth c g A H locs lsC X hP hD hS hL => lv_iadd X.1 X.2.1 hd (k p l e s m args below meth c g A H locs lsC X hP hD hS hL)
theorem e_isub {x y : Int32} (hd : decode (mC M) pc = .ok (.isub, 1)) (k : E M (pc + 1) ls (.inl (x - y) :: st) σ r σ') : E M pc ls (.inl y :: .inl x :: st) σ r σ' :=
  fun p l e s m args below meth c g A H locs lsC X hP hD hS hL => lv_isub X.1 X.2.1 hd (k p l e s m args below meth c g A H locs lsC X hP hD hS hL)
theorem e_imul {x y : Int32} (hd : decode (mC M) pc = .ok (.imul, 1)) (k : E M (pc + 1) ls (.inl (x * y) :: st) σ r σ') : E M pc ls (.inl y :: .inl x :: st) σ r σ' :=
  fun p l e s m args below meth c g A H locs lsC X hP hD hS hL => lv_imul X.1 X.2.1 hd (k p l e s m args below meth c g A H locs lsC X hP hD hS hL)
theorem e_iand {x y : Int32} (hd : decode (mC M) pc = .ok (.iand, 1)) (k : E M (pc + 1) ls (.inl (x &&& y) :: st) σ r σ') : E M pc ls (.inl y :: .inl x :: st) σ r σ' :=
  fun p l e s m args below meth c g A H locs lsC X hP hD hS hL => lv_iand X.1 X.2.1 hd (k p l e s m args below meth c g A H locs lsC X hP hD hS hL)
theorem e_ior {x y : Int32} (hd : decode (mC M) pc = .ok (.ior, 1)) (k : E M (pc + 1) ls (.inl (x ||| y) :: st) σ r σ') : E M pc ls (.inl y :: .inl x :: st) σ r σ' :=
  fun p l e s m args below meth c g A H locs lsC X hP hD hS hL => lv_ior X.1 X.2.1 hd (k p l e s m args below meth c g A H locs lsC X hP hD hS hL)
theorem e_ishl {x y : Int32} (hd : decode (mC M) pc = .ok (.ishl, 1)) (k : E M (pc + 1) ls (.inl (x <<< (y &&& 31)) :: st) σ r σ') : E M pc ls (.inl y :: .inl x :: st) σ r σ' :=
  fun p l e s m args below meth c g A H locs lsC X hP hD hS hL => lv_ishl X.1 X.2.1 hd (k p l e s m args below meth c g A H locs lsC X hP hD hS hL)
theorem e_ishr {x y : Int32} (hd : decode (mC M) pc = .ok (.ishr, 1)) (k : E M (pc + 1) ls (.inl (x >>> (y &&& 31)) :: st) σ r σ') : E M pc ls (.inl y :: .inl x :: st) σ r σ' :=
  fun p l e s m args below meth c g A H locs lsC X hP hD hS hL => lv_ishr X.1 X.2.1 hd (k p l e s m args below meth c g A H locs lsC X hP hD hS hL)
theorem e_idiv {x y : Int32} (hd : decode (mC M) pc = .ok (.idiv, 1)) (hy : ¬ y = 0) (k : E M (pc + 1) ls (.inl (x / y) :: st) σ r σ') : E M pc ls (.inl y :: .inl x :: st) σ r σ' :=
  fun p l e s m args below meth c g A H locs lsC X hP hD hS hL => lv_idiv X.1 X.2.1 hd hy (k p l e s m args below meth c g A H locs lsC X hP hD hS hL)
theorem e_irem {x y : Int32} (hd : decode (mC M) pc = .ok (.irem, 1)) (hy : ¬ y = 0) (k : E M (pc + 1) ls (.inl (x - x / y * y) :: st) σ r σ') : E M pc ls (.inl y :: .inl x :: st) σ r σ' :=
  fun p l e s m args below meth c g A H locs lsC X hP hD hS hL => lv_irem X.1 X.2.1 hd hy (k p l e s m args below meth c g A H locs lsC X hP hD hS hL)
theorem e_i2b {x : Int32} (hd : decode (mC M) pc = .ok (.i2b, 1)) (k : E M (pc + 1) ls (.inl x.toInt8.toInt32 :: st) σ r σ') : E M pc ls (.inl x :: st) σ r σ' :=
  fun p l e s m args below meth c g A H locs lsC X hP hD hS hL => lv_i2b X.1 X.2.1 hd rfl (k p l e s m args below meth c g A H locs lsC X hP hD hS hL)
theorem e_i2c {x : Int32} (hd : decode (mC M) pc = .ok (.i2c, 1)) {v : Int32} (hv : (x.toUInt32 % 65536).toInt32 = v) (k : E M (pc + 1) ls (.inl v :: st) σ r σ') : E M pc ls (.inl x :: st) σ r σ' :=
  fun p l e s m args below meth c g A H locs lsC X hP hD hS hL => lv_i2c X.1 X.2.1 hd hv (k p l e s m args below meth c g A H locs lsC X hP hD hS hL)
theorem e_dup {v : rV} (hd : decode (mC M) pc = .ok (.dup, 1)) (k : E M (pc + 1) ls (v :: v :: st) σ r σ') : E M pc ls (v :: st) σ r σ' :=
  fun p l e s m args below meth c g A H locs lsC X hP hD hS hL => lv_dup X.1 X.2.1 hd (cv_cat g v) (k p l e s m args below meth c g A H locs lsC X hP hD hS hL)
theorem e_pop {v : rV} (hd : decode (mC M) pc = .ok (.pop, 1)) (k : E M (pc + 1) ls st σ r σ') : E M pc ls (v :: st) σ r σ' :=
  fun p l e s m args below meth c g A H locs lsC X hP hD hS hL => lv_pop X.1 X.2.1 hd (cv_cat g v) (k p l e s m args below meth c g A H locs lsC X hP hD hS hL)
theorem e_dup2 {v w : rV} (hd : decode (mC M) pc = .ok (.dup2, 1)) (k : E M (pc + 1) ls (v :: w :: v :: w :: st) σ r σ') : E M pc ls (v :: w :: st) σ r σ' :=
  fun p l e s m args below meth c g A H locs lsC X hP hD hS hL => lv_dup2_11 X.1 X.2.1 hd (cv_cat g v) (cv_cat g w) (k p l e s m args below meth c g A H locs lsC X hP hD hS hL)
theorem e_goto {off : Int} {tgt : Nat} (hd : decode (mC M) pc = .ok (.goto off, 3)) (ht : (pc : Int) + off = (tgt : Int)) (k : E M tgt ls st σ r σ') : E M pc ls st σ r σ' :=
  fun p l e s m args below meth c g A H locs lsC X hP hD hS hL => lv_goto X.1 X.2.1 hd ht (k p l e s m args below meth c g A H locs lsC X hP hD hS hL)
theorem e_if_eq {x : Int32} {off : Int} {tgt : Nat} (hd : decode (mC M) pc = .ok (.ifCond .eq off, 3)) (ht : (pc : Int) + off = (tgt : Int)) (kt : x = 0 → E M tgt ls st σ r σ') (kf : ¬ x = 0 → E M (pc + 3) ls st σ r σ') : E M pc ls (.inl x :: st) σ r σ' :=
  fun p l e s m args below meth c g A H locs lsC X hP hD hS hL => lv_if_eq X.1 X.2.1 hd ht (fun h => kt h p l e s m args below meth c g A H locs lsC X hP hD hS hL) (fun h => kf h p l e s m args below meth c g A H locs lsC X hP hD hS hL)
theorem e_icmp_eq {x y : Int32} {off : Int} {tgt : Nat} (hd : decode (mC M) pc = .ok (.if_icmp .eq off, 3)) (ht : (pc : Int) + off = (tgt : Int)) (kt : x = y → E M tgt ls st σ r σ') (kf : ¬ x = y → E M (pc + 3) ls st σ r σ') : E M pc ls (.inl y :: .inl x :: st) σ r σ' :=
  fun p l e s m args below meth c g A H locs lsC X hP hD hS hL => lv_icmp_eq X.1 X.2.1 hd ht (fun h => kt h p l e s m args below meth c g A H locs lsC X hP hD hS hL) (fun h => kf h p l e s m args below meth c g A H locs lsC X hP hD hS hL)
theorem e_if_ne {x : Int32} {off : Int} {tgt : Nat} (hd : decode (mC M) pc = .ok (.ifCond .ne off, 3)) (ht : (pc : Int) + off = (tgt : Int)) (kt : ¬ x = 0 → E M tgt ls st σ r σ') (kf : x = 0 → E M (pc + 3) ls st σ r σ') : E M pc ls (.inl x :: st) σ r σ' :=
  fun p l e s m args below meth c g A H locs lsC X hP hD hS hL => lv_if_ne X.1 X.2.1 hd ht (fun h => kt h p l e s m args below meth c g A H locs lsC X hP hD hS hL) (fun h => kf h p l e s m args below meth c g A H locs lsC X hP hD hS hL)
theorem e_icmp_ne {x y : Int32} {off : Int} {tgt : Nat} (hd : decode (mC M) pc = .ok (.if_icmp .ne off, 3)) (ht : (pc : Int) + off = (tgt : Int)) (kt : ¬ x = y → E M tgt ls st σ r σ') (kf : x = y → E M (pc + 3) ls st σ r σ') : E M pc ls (.inl y :: .inl x :: st) σ r σ' :=
  fun p l e s m args below meth c g A H locs lsC X hP hD hS hL => lv_icmp_ne X.1 X.2.1 hd ht (fun h => kt h p l e s m args below meth c g A H locs lsC X hP hD hS hL) (fun h => kf h p l e s m args below meth c g A H locs lsC X hP hD hS hL)
theorem e_if_lt {x : Int32} {off : Int} {tgt : Nat} (hd : decode (mC M) pc = .ok (.ifCond .lt off, 3)) (ht : (pc : Int) + off = (tgt : Int)) (kt : x < 0 → E M tgt ls st σ r σ') (kf : ¬ x < 0 → E M (pc + 3) ls st σ r σ') : E M pc ls (.inl x :: st) σ r σ' :=
  fun p l e s m args below meth c g A H locs lsC X hP hD hS hL => lv_if_lt X.1 X.2.1 hd ht (fun h => kt h p l e s m args below meth c g A H locs lsC X hP hD hS hL) (fun h => kf h p l e s m args below meth c g A H locs lsC X hP hD hS hL)
theorem e_icmp_lt {x y : Int32} {off : Int} {tgt : Nat} (hd : decode (mC M) pc = .ok (.if_icmp .lt off, 3)) (ht : (pc : Int) + off = (tgt : Int)) (kt : x < y → E M tgt ls st σ r σ') (kf : ¬ x < y → E M (pc + 3) ls st σ r σ') : E M pc ls (.inl y :: .inl x :: st) σ r σ' :=
  fun p l e s m args below meth c g A H locs lsC X hP hD hS hL => lv_icmp_lt X.1 X.2.1 hd ht (fun h => kt h p l e s m args below meth c g A H locs lsC X hP hD hS hL) (fun h => kf h p l e s m args below meth c g A H locs lsC X hP hD hS hL)
theorem e_if_ge {x : Int32} {off : Int} {tgt : Nat} (hd : decode (mC M) pc = .ok (.ifCond .ge off, 3)) (ht : (pc : Int) + off = (tgt : Int)) (kt : 0 ≤ x → E M tgt ls st σ r σ') (kf : ¬ 0 ≤ x → E M (pc + 3) ls st σ r σ') : E M pc ls (.inl x :: st) σ r σ' :=
  fun p l e s m args below meth c g A H locs lsC X hP hD hS hL => lv_if_ge X.1 X.2.1 hd ht (fun h => kt h p l e s m args below meth c g A H locs lsC X hP hD hS hL) (fun h => kf h p l e s m args below meth c g A H locs lsC X hP hD hS hL)
theorem e_icmp_ge {x y : Int32} {off : Int} {tgt : Nat} (hd : decode (mC M) pc = .ok (.if_icmp .ge off, 3)) (ht : (pc : Int) + off = (tgt : Int)) (kt : y ≤ x → E M tgt ls st σ r σ') (kf : ¬ y ≤ x → E M (pc + 3) ls st σ r σ') : E M pc ls (.inl y :: .inl x :: st) σ r σ' :=
  fun p l e s m args below meth c g A H locs lsC X hP hD hS hL => lv_icmp_ge X.1 X.2.1 hd ht (fun h => kt h p l e s m args below meth c g A H locs lsC X hP hD hS hL) (fun h => kf h p l e s m args below meth c g A H locs lsC X hP hD hS hL)
theorem e_if_gt {x : Int32} {off : Int} {tgt : Nat} (hd : decode (mC M) pc = .ok (.ifCond .gt off, 3)) (ht : (pc : Int) + off = (tgt : Int)) (kt : 0 < x → E M tgt ls st σ r σ') (kf : ¬ 0 < x → E M (pc + 3) ls st σ r σ') : E M pc ls (.inl x :: st) σ r σ' :=
  fun p l e s m args below meth c g A H locs lsC X hP hD hS hL => lv_if_gt X.1 X.2.1 hd ht (fun h => kt h p l e s m args below meth c g A H locs lsC X hP hD hS hL) (fun h => kf h p l e s m args below meth c g A H locs lsC X hP hD hS hL)
theorem e_icmp_gt {x y : Int32} {off : Int} {tgt : Nat} (hd : decode (mC M) pc = .ok (.if_icmp .gt off, 3)) (ht : (pc : Int) + off = (tgt : Int)) (kt : y < x → E M tgt ls st σ r σ') (kf : ¬ y < x → E M (pc + 3) ls st σ r σ') : E M pc ls (.inl y :: .inl x :: st) σ r σ' :=
  fun p l e s m args below meth c g A H locs lsC X hP hD hS hL => lv_icmp_gt X.1 X.2.1 hd ht (fun h => kt h p l e s m args below meth c g A H locs lsC X hP hD hS hL) (fun h => kf h p l e s m args below meth c g A H locs lsC X hP hD hS hL)
theorem e_if_le {x : Int32} {off : Int} {tgt : Nat} (hd : decode (mC M) pc = .ok (.ifCond .le off, 3)) (ht : (pc : Int) + off = (tgt : Int)) (kt : x ≤ 0 → E M tgt ls st σ r σ') (kf : ¬ x ≤ 0 → E M (pc + 3) ls st σ r σ') : E M pc ls (.inl x :: st) σ r σ' :=
  fun p l e s m args below meth c g A H locs lsC X hP hD hS hL => lv_if_le X.1 X.2.1 hd ht (fun h => kt h p l e s m args below meth c g A H locs lsC X hP hD hS hL) (fun h => kf h p l e s m args below meth c g A H locs lsC X hP hD hS hL)
theorem e_icmp_le {x y : Int32} {off : Int} {tgt : Nat} (hd : decode (mC M) pc = .ok (.if_icmp .le off, 3)) (ht : (pc : Int) + off = (tgt : Int)) (kt : x ≤ y → E M tgt ls st σ r σ') (kf : ¬ x ≤ y → E M (pc + 3) ls st σ r σ') : E M pc ls (.inl y :: .inl x :: st) σ r σ' :=
  fun p l e s m args below meth c g A H locs lsC X hP hD hS hL => lv_icmp_le X.1 X.2.1 hd ht (fun h => kt h p l e s m args below meth c g A H locs lsC X hP hD hS hL) (fun h => kf h p l e s m args below meth c g A H locs lsC X hP hD hS hL)
end RR
end
section
/-! A CLASS: its number, name, fields, how many, their types -/
def rCl (ci : Nat) (C : String) (T : u_T) (N : Nat) (ty : Nat → FieldType) : Prop :=
  vwCl[ci]? = some (C, T, N) ∧ nfs.getD ci 0 = N ∧ (∀ w ∈ u_ws C T N, w ∈ gW) ∧ (∀ k, k < N → parseFieldDescriptor (T k).2.2.1 = some (ty k)) ∧ (∀ a, a < N → ∀ b, b < N → a ≠ b → (T a).2.1 ≠ (T b).2.1)
theorem kX0 : rCl 0 RX0 TX0 9 tyX0 := ⟨rfl, rfl, inG0, tyX0_ok, nmX0⟩
theorem kX1 : rCl 1 RX1 TX1 6 tyX1 := ⟨rfl, rfl, inG1, tyX1_ok, nmX1⟩
theorem kX2 : rCl 2 RX2 TX2 8 tyX2 := ⟨rfl, rfl, inG2, tyX2_ok, nmX2⟩
theorem kX3 : rCl 3 RX3 TX3 5 tyX3 := ⟨rfl, rfl, inG3, tyX3_ok, nmX3⟩
theorem kX4 : rCl 4 RX4 TX4 2 tyX4 := ⟨rfl, rfl, inG4, tyX4_ok, nmX4⟩
theorem kX5 : rCl 5 RX5 TX5 11 tyX5 := ⟨rfl, rfl, inG5, tyX5_ok, nmX5⟩
theorem kX6 : rCl 6 RX6 TX6 37 tyX6 := ⟨rfl, rfl, inG6, tyX6_ok, nmX6⟩
section RH
variable {M : rM} {pc : Nat} {ls st : List rV} {σ σ' : rS} {r : Option rV} {ci N : Nat} {C : String} {T : u_T} {ty : Nat → FieldType}
/-- a field is read: its value as the picture has it -/
theorem e_get {o k idx : Nat} {v : rV} (hc : rCl ci C T N ty) (ho : isO o ci) (hk : k < N) (hf : Cond.fieldLink (mO M) idx (T k).1 (T k).2.1 (T k).2.2.1 ∈ gW) (hd : decode (mC M) pc = .ok (.getfield idx, 3)) (hv : ∀ g : rG, fvl g σ o k = cv g v) (kk : E M (pc + 3) ls (v :: st) σ r σ') : E M pc ls (.inr (o, 0) :: st) σ r σ' := by
  intro p l e s m args below meth c g A H locs lsC X hP hD hS hL
  obtain ⟨h1, h2, h3, h4, h5⟩ := hc
  obtain ⟨q0, -, hq⟩ := rw_at (g := g) (σ := σ) (cL_obj o ho.1)
  have he : (rw_ g σ)[q0]? = some (g.2.2 (o, 0), .inr (ci, (List.range N).map (fvl g σ o))) := by
    rw [hq]
    show some (g.2.2 (o, 0), Sum.inr (kls o, (List.range (nfs.getD (kls o) 0)).map (fvl g σ o))) = _
    rw [ho.2, h2]
  exact va_get (D := g.1) (T := T) (N := N) (ci := ci) X.1 X.2.1 X.2.2.2.2.1 h3 X.2.2.2.1 X.2.2.2.2.2.2.2.1 hP q0 he h1 k hk (X.2.2.2.2.1 _ hf) (fun _ h9 => h9) (v := cv g v) (by rw [List.getElem?_map, List.getElem?_range hk, Option.map_some, hv]) hd (kk p l e s m args below meth c g A H locs lsC X hP hD hS hL)
theorem fv_i {g : rG} {o k : Nat} (ho : isO o ci) (h : fk ci k = 0) : fvl g σ o k = cv g (.inl (σ o k 0)) := by
  unfold fvl
  rw [ho.2, h]
  rfl
theorem fv_a {g : rG} {o k : Nat} (ho : isO o ci) (h : isA (fk ci k) = true) : fvl g σ o k = cv g (.inr (o, k + 1)) := by
  unfold fvl fvk
  rw [ho.2, if_pos h]
  rfl
theorem fv_o {g : rG} {o k t : Nat} (ho : isO o ci) (h : fk ci k = 4) (ht : tgt o k = t) : fvl g σ o k = cv g (.inr (t, 0)) := by
  unfold fvl
  rw [ho.2, h, ← ht]
  rfl
theorem fv_d {g : rG} {o k t : Nat} (ho : isO o ci) (h : fk ci k = 5) (ht : (σ o k 0).toNatClampNeg = t) : fvl g σ o k = cv g (.inr (t, 0)) := by
  unfold fvl
  rw [ho.2, h, ← ht]
  rfl
/-- getfield of a number -/
theorem e_getI {o k idx : Nat} (hc : rCl ci C T N ty) (ho : isO o ci) (hk : k < N) (hf : Cond.fieldLink (mO M) idx (T k).1 (T k).2.1 (T k).2.2.1 ∈ gW) (h0 : fk ci k = 0) (hd : decode (mC M) pc = .ok (.getfield idx, 3)) (kk : E M (pc + 3) ls (.inl (σ o k 0) :: st) σ r σ') : E M pc ls (.inr (o, 0) :: st) σ r σ' :=
  e_get hc ho hk hf hd (fun _ => fv_i ho h0) kk
/-- getfield of an array -/
theorem e_getA {o k idx : Nat} (hc : rCl ci C T N ty) (ho : isO o ci) (hk : k < N) (hf : Cond.fieldLink (mO M) idx (T k).1 (T k).2.1 (T k).2.2.1 ∈ gW) (h0 : isA (fk ci k) = true) (hd : decode (mC M) pc = .ok (.getfield idx, 3)) (kk : E M (pc + 3) ls (.inr (o, k + 1) :: st) σ r σ') : E M pc ls (.inr (o, 0) :: st) σ r σ' :=
  e_get hc ho hk hf hd (fun _ => fv_a ho h0) kk
/-- getfield of an object that stays -/
theorem e_getO {o k idx : Nat} (t : Nat) (hc : rCl ci C T N ty) (ho : isO o ci) (hk : k < N) (hf : Cond.fieldLink (mO M) idx (T k).1 (T k).2.1 (T k).2.2.1 ∈ gW) (h0 : fk ci k = 4) (ht : tgt o k = t) (hd : decode (mC M) pc = .ok (.getfield idx, 3)) (kk : E M (pc + 3) ls (.inr (t, 0) :: st) σ r σ') : E M pc ls (.inr (o, 0) :: st) σ r σ' :=
  e_get hc ho hk hf hd (fun _ => fv_o ho h0 ht) kk
/-- getfield of an object that changes -/
theorem e_getD {o k idx : Nat} (t : Nat) (hc : rCl ci C T N ty) (ho : isO o ci) (hk : k < N) (hf : Cond.fieldLink (mO M) idx (T k).1 (T k).2.1 (T k).2.2.1 ∈ gW) (h0 : fk ci k = 5) (ht : (σ o k 0).toNatClampNeg = t) (hd : decode (mC M) pc = .ok (.getfield idx, 3)) (kk : E M (pc + 3) ls (.inr (t, 0) :: st) σ r σ') : E M pc ls (.inr (o, 0) :: st) σ r σ' :=
  e_get hc ho hk hf hd (fun _ => fv_d ho h0 ht) kk
/-- a field is written -/
theorem e_put {o k idx : Nat} {v : rV} {x : Int32} (hc : rCl ci C T N ty) (ho : isO o ci) (hk : k < N) (hf : Cond.fieldLink (mO M) idx (T k).1 (T k).2.1 (T k).2.2.1 ∈ gW) (hfin : (T k).2.2.2 = false) (h0 : isA (fk ci k) = false) (hv : ∀ g : rG, fvl g (up σ o k 0 x) o k = cv g v) (hn : ∀ g : rG, narrow (ty k) (cv g v) = cv g v ∧ fits (ty k) (cv g v) = true) (hd : decode (mC M) pc = .ok (.putfield idx, 3)) (kk : E M (pc + 3) ls st (up σ o k 0 x) r σ') : E M pc ls (v :: .inr (o, 0) :: st) σ r σ' := by
  intro p l e s m args below meth c g A H locs lsC X hP hD hS hL
  obtain ⟨h1, h2, h3, h4, h5⟩ := hc
  obtain ⟨q0, hq0, hq⟩ := rw_at (g := g) (σ := σ) (cL_obj o ho.1)
  have he : (rw_ g σ)[q0]? = some (g.2.2 (o, 0), .inr (ci, (List.range N).map (fvl g σ o))) := by
    rw [hq]
    show some (g.2.2 (o, 0), Sum.inr (kls o, (List.range (nfs.getD (kls o) 0)).map (fvl g σ o))) = _
    rw [ho.2, h2]
  have hcf := cont_field (g := g) (σ := σ) (o := o) (k := k) (v := x) (w := cv g v) (by rw [ho.2, h2]; exact hk) (by rw [ho.2]; exact h0) (hv g)
  rw [ho.2, h2] at hcf
  have hset := rw_set hq0 hcf.1 hcf.2
  refine va_put (D := g.1) (T := T) (N := N) (ci := ci) X.1 X.2.1 X.2.2.2.2.1 h3 ty h4 h5 X.2.2.2.1 X.2.2.2.2.2.2.2.1 hP hD hS q0 he h1 k hk (X.2.2.2.2.1 _ hf) (fun _ h9 => h9) hfin (h4 k hk) (hn g).1 (hn g).2 (by simpa using hk) hd (fun H1 locs1 hP1 hD1 hS1 => ?_)
  rw [hset] at hP1 hD1
  exact kk p l e s m args below meth c g A H1 locs1 lsC X hP1 hD1 hS1 hL
/-- putfield of an int -/
theorem e_putI {o k idx : Nat} {x : Int32} (hc : rCl ci C T N ty) (ho : isO o ci) (hk : k < N) (hf : Cond.fieldLink (mO M) idx (T k).1 (T k).2.1 (T k).2.2.1 ∈ gW) (hfin : (T k).2.2.2 = false) (h0 : fk ci k = 0) (hty : ty k = .int) (hd : decode (mC M) pc = .ok (.putfield idx, 3)) (kk : E M (pc + 3) ls st (up σ o k 0 x) r σ') : E M pc ls (.inl x :: .inr (o, 0) :: st) σ r σ' :=
  e_put hc ho hk hf hfin (by rw [h0]; rfl) (fun g => by rw [fv_i ho h0, up_self]) (fun g => by rw [hty]; exact ⟨rfl, rfl⟩) hd kk
/-- putfield of a boolean -/
theorem e_putZ {o k idx : Nat} {x : Int32} (hc : rCl ci C T N ty) (ho : isO o ci) (hk : k < N) (hf : Cond.fieldLink (mO M) idx (T k).1 (T k).2.1 (T k).2.2.1 ∈ gW) (hfin : (T k).2.2.2 = false) (h0 : fk ci k = 0) (hty : ty k = .boolean) (hx : x = 0 ∨ x = 1) (hd : decode (mC M) pc = .ok (.putfield idx, 3)) (kk : E M (pc + 3) ls st (up σ o k 0 x) r σ') : E M pc ls (.inl x :: .inr (o, 0) :: st) σ r σ' :=
  e_put hc ho hk hf hfin (by rw [h0]; rfl) (fun g => by rw [fv_i ho h0, up_self]) (fun g => by rw [hty]; rcases hx with rfl | rfl <;> exact ⟨rfl, rfl⟩) hd kk
/-- putfield of an object that changes -/
theorem e_putD {o k idx t : Nat} {nm : String} (hc : rCl ci C T N ty) (ho : isO o ci) (hk : k < N) (hf : Cond.fieldLink (mO M) idx (T k).1 (T k).2.1 (T k).2.2.1 ∈ gW) (hfin : (T k).2.2.2 = false) (h0 : fk ci k = 5) (hty : ty k = .object nm) (ht : t < 2 ^ 31) (hd : decode (mC M) pc = .ok (.putfield idx, 3)) (kk : E M (pc + 3) ls st (up σ o k 0 (nI t)) r σ') : E M pc ls (.inr (t, 0) :: .inr (o, 0) :: st) σ r σ' :=
  e_put hc ho hk hf hfin (by rw [h0]; rfl) (fun g => by rw [fv_d (t := t) ho h0 (by rw [up_self, nI_clamp ht])]) (fun g => by rw [hty]; exact ⟨rfl, rfl⟩) hd kk
theorem arr_at {g : rG} {o k : Nat} (ho : isO o ci) (h0 : isA (fk ci k) = true) : ∃ p : Nat, cL[p]? = some (o, k + 1) ∧ (rw_ g σ)[p]? = some (g.2.2 (o, k + 1), .inl (g.2.1 (fk ci k), (fl ci k, .inl (rf (σ o k))))) := by
  have h1 : isA (fk (kls o) k) = true := by rw [ho.2]; exact h0
  obtain ⟨p, hp, h⟩ := rw_at (g := g) (σ := σ) (cL_arr o ho.1 k (fk_lt _ (kls_lt o) k h1) h1)
  refine ⟨p, hp, ?_⟩
  rw [h]
  show some (g.2.2 (o, k + 1), Sum.inl (g.2.1 (fk (kls o) k), (fl (kls o) k, Sum.inl (rf (σ o k))))) = _
  rw [ho.2]
theorem e_alen {o k : Nat} {n : Int32} (ho : isO o ci) (h0 : isA (fk ci k) = true) (hn : nI (fl ci k) = n) (hd : decode (mC M) pc = .ok (.arraylength, 1)) (kk : E M (pc + 1) ls (.inl n :: st) σ r σ') : E M pc ls (.inr (o, k + 1) :: st) σ r σ' := by
  intro p l e s m args below meth c g A H locs lsC X hP hD hS hL
  obtain ⟨q0, -, hq⟩ := arr_at (g := g) (σ := σ) ho h0
  have kk2 := kk p l e s m args below meth c g A H locs lsC X hP hD hS hL
  have ht : ∃ t : FieldType, (rT g)[fk ci k]? = some (g.2.1 (fk ci k), t) := by
    generalize fk ci k = x at h0 ⊢
    match x, h0 with
    | 1, _ => exact ⟨_, rfl⟩
    | 2, _ => exact ⟨_, rfl⟩
    | 3, _ => exact ⟨_, rfl⟩
  obtain ⟨t, ht⟩ := ht
  exact va_alen (D := g.1) X.1 X.2.1 X.2.2.2.2.2.2.2.1 hP q0 _ hq ht hn hd kk2
theorem vin_nn {i : Int32} {n : Nat} (h : vp_in i n) : ¬ i < 0 := fun z => h (Or.inl z)
theorem e_iald {o k : Nat} {i : Int32} (ho : isO o ci) (h0 : fk ci k = 1) (hi : vp_in i (fl ci k)) (hd : decode (mC M) pc = .ok (.iaload, 1)) (kk : E M (pc + 1) ls (.inl (σ o k i) :: st) σ r σ') : E M pc ls (.inl i :: .inr (o, k + 1) :: st) σ r σ' := by
  intro p l e s m args below meth c g A H locs lsC X hP hD hS hL
  obtain ⟨q0, -, hq⟩ := arr_at (g := g) (σ := σ) ho (by rw [h0]; rfl)
  have kk2 := kk p l e s m args below meth c g A H locs lsC X hP hD hS hL
  refine va_iald (D := g.1) (tys := rT g) X.1 X.2.1 X.2.2.2.2.2.2.2.1 hP q0 1 hq (by rw [h0]; rfl) hi hd ?_
  rw [rf_at (vin_nn hi)]
  exact kk2
theorem e_bald {o k : Nat} {i : Int32} (ho : isO o ci) (h0 : fk ci k = 2) (hi : vp_in i (fl ci k)) (hd : decode (mC M) pc = .ok (.baload, 1)) (kk : E M (pc + 1) ls (.inl (σ o k i) :: st) σ r σ') : E M pc ls (.inl i :: .inr (o, k + 1) :: st) σ r σ' := by
  intro p l e s m args below meth c g A H locs lsC X hP hD hS hL
  obtain ⟨q0, -, hq⟩ := arr_at (g := g) (σ := σ) ho (by rw [h0]; rfl)
  have kk2 := kk p l e s m args below meth c g A H locs lsC X hP hD hS hL
  refine va_bald (D := g.1) (tys := rT g) X.1 X.2.1 X.2.2.2.2.2.2.2.1 hP q0 2 hq (by rw [h0]; rfl) hi hd ?_
  rw [rf_at (vin_nn hi)]
  exact kk2
theorem e_zald {o k : Nat} {i : Int32} (ho : isO o ci) (h0 : fk ci k = 3) (hi : vp_in i (fl ci k)) (hd : decode (mC M) pc = .ok (.baload, 1)) (kk : E M (pc + 1) ls (.inl (σ o k i) :: st) σ r σ') : E M pc ls (.inl i :: .inr (o, k + 1) :: st) σ r σ' := by
  intro p l e s m args below meth c g A H locs lsC X hP hD hS hL
  obtain ⟨q0, -, hq⟩ := arr_at (g := g) (σ := σ) ho (by rw [h0]; rfl)
  have kk2 := kk p l e s m args below meth c g A H locs lsC X hP hD hS hL
  refine va_zald (D := g.1) (tys := rT g) X.1 X.2.1 X.2.2.2.2.2.2.2.1 hP q0 3 hq (by rw [h0]; rfl) hi hd ?_
  rw [rf_at (vin_nn hi)]
  exact kk2
theorem e_iast {o k : Nat} {i x : Int32} (ho : isO o ci) (h0 : fk ci k = 1) (hi : vp_in i (fl ci k)) (hd : decode (mC M) pc = .ok (.iastore, 1)) (kk : E M (pc + 1) ls st (up σ o k i x) r σ') : E M pc ls (.inl x :: .inl i :: .inr (o, k + 1) :: st) σ r σ' := by
  intro p l e s m args below meth c g A H locs lsC X hP hD hS hL
  obtain ⟨q0, hq0, hq⟩ := arr_at (g := g) (σ := σ) ho (by rw [h0]; rfl)
  have hcf := cont_arr (g := g) (σ := σ) (o := o) (k := k) (i := i) (v := x) (vin_nn hi) (by rw [ho.2, h0]; rfl)
  rw [ho.2] at hcf
  have hset := rw_set hq0 hcf.1 hcf.2
  refine va_iast (D := g.1) (tys := rT g) X.1 X.2.1 X.2.2.2.2.2.2.2.1 hP hD hS q0 1 hq (by rw [h0]; rfl) hi hd (fun H1 locs1 hP1 hD1 hS1 => ?_)
  rw [hset] at hP1 hD1
  exact kk p l e s m args below meth c g A H1 locs1 lsC X hP1 hD1 hS1 hL
theorem e_bast {o k : Nat} {i x : Int32} (ho : isO o ci) (h0 : fk ci k = 2) (hi : vp_in i (fl ci k)) (hd : decode (mC M) pc = .ok (.bastore, 1)) (kk : E M (pc + 1) ls st (up σ o k i x.toInt8.toInt32) r σ') : E M pc ls (.inl x :: .inl i :: .inr (o, k + 1) :: st) σ r σ' := by
  intro p l e s m args below meth c g A H locs lsC X hP hD hS hL
  obtain ⟨q0, hq0, hq⟩ := arr_at (g := g) (σ := σ) ho (by rw [h0]; rfl)
  have hcf := cont_arr (g := g) (σ := σ) (o := o) (k := k) (i := i) (v := x.toInt8.toInt32) (vin_nn hi) (by rw [ho.2, h0]; rfl)
  rw [ho.2] at hcf
  have hset := rw_set hq0 hcf.1 hcf.2
  refine va_bast (D := g.1) (tys := rT g) X.1 X.2.1 X.2.2.2.2.2.2.2.1 hP hD hS q0 2 hq (by rw [h0]; rfl) hi hd (fun H1 locs1 hP1 hD1 hS1 => ?_)
  rw [vp_nar_byte, hset] at hP1 hD1
  exact kk p l e s m args below meth c g A H1 locs1 lsC X hP1 hD1 hS1 hL
theorem e_zast {o k : Nat} {i x : Int32} (ho : isO o ci) (h0 : fk ci k = 3) (hi : vp_in i (fl ci k)) (hx : x = 0 ∨ x = 1) (hd : decode (mC M) pc = .ok (.bastore, 1)) (kk : E M (pc + 1) ls st (up σ o k i x) r σ') : E M pc ls (.inl x :: .inl i :: .inr (o, k + 1) :: st) σ r σ' := by
  intro p l e s m args below meth c g A H locs lsC X hP hD hS hL
  obtain ⟨q0, hq0, hq⟩ := arr_at (g := g) (σ := σ) ho (by rw [h0]; rfl)
  have hcf := cont_arr (g := g) (σ := σ) (o := o) (k := k) (i := i) (v := x) (vin_nn hi) (by rw [ho.2, h0]; rfl)
  rw [ho.2] at hcf
  have hset := rw_set hq0 hcf.1 hcf.2
  have hx2 : vp_nar .boolean x = x := by rcases hx with rfl | rfl <;> rfl
  refine va_zast (D := g.1) (tys := rT g) X.1 X.2.1 X.2.2.2.2.2.2.2.1 hP hD hS q0 3 hq (by rw [h0]; rfl) hi hd (fun H1 locs1 hP1 hD1 hS1 => ?_)
  rw [hx2, hset] at hP1 hD1
  exact kk p l e s m args below meth c g A H1 locs1 lsC X hP1 hD1 hS1 hL
/-! answers -/
theorem e_iret {x : Int32} {t : FieldType} (hr : mR M = some t) (hn : narrow t (.int x) = .int x) (hd : decode (mC M) pc = .ok (.ireturn, 1)) : E M pc ls [.inl x] σ (some (.inl x)) σ := by
  intro p l e s m args below meth c g A H locs lsC X hP hD hS hL
  exact W.zret X.1 X.2.1 (X.2.2.2.2.2.1.trans hr) hn (fun t ht hW => ⟨rfl, by rw [ht]; exact hP, hS.F ht⟩) hS.2.2 hd X.2.2.2.2.2.2.1
theorem e_vret (hr : mR M = none) (hd : decode (mC M) pc = .ok (.return_, 1)) : E M pc ls [] σ none σ := by
  intro p l e s m args below meth c g A H locs lsC X hP hD hS hL
  exact W.vret X.1 X.2.1 (X.2.2.2.2.2.1.trans hr) (fun t ht hW => ⟨rfl, by rw [ht]; exact hP, hS.F ht⟩) hS.2.2 hd X.2.2.2.2.2.2.1
theorem e_aret {q : Nat × Nat} {nm : String} (hr : mR M = some (.object nm)) (hd : decode (mC M) pc = .ok (.areturn, 1)) : E M pc ls [.inr q] σ (some (.inr q)) σ := by
  intro p l e s m args below meth c g A H locs lsC X hP hD hS hL
  exact W.aret X.1 X.2.1 (X.2.2.2.2.2.1.trans hr) (Or.inl ⟨_, rfl⟩) (Or.inr ⟨_, rfl⟩) (fun t ht hW => ⟨rfl, by rw [ht]; exact hP, hS.F ht⟩) hS.2.2 hd X.2.2.2.2.2.2.1
/-- an answer by its value -/
theorem e_ireq {x y : Int32} {σ2 : rS} {t : FieldType} (hr : mR M = some t) (hn : narrow t (.int x) = .int x) (hd : decode (mC M) pc = .ok (.ireturn, 1)) (hxy : x = y) (hs : σ = σ2) : E M pc ls [.inl x] σ (some (.inl y)) σ2 := by
  subst hxy; subst hs
  exact e_iret hr hn hd
/-! calls -/
/-- what a method's name, code and class need, for a call of it -/
def okM (N : rM) (n : Nat) : Prop := Cond.code (mY N) (mC N) (mN N) (mR N) ∈ gW ∧ Cond.initialized (mY N).cls ∈ gW ∧ ((mY N).cls ≠ "java/lang/invoke/MethodHandle" ∧ (mY N).cls ≠ "java/lang/invoke/VarHandle") ∧ (parseMethodDescriptor (mY N).desc).map (fun d => d.parameters.length) = some n
theorem rWd_good {Mc N : rM} {n : Nat} (h : okM N n) {args : Array Value} {s : State} (ht : ∀ w ∈ gW, w.before args s = true) : ∀ w ∈ rWd N, ∀ (a' : Array Value) (U : State), s.WarmedH U.vm → w.before a' U = true := by
  intro w hw a' U hW
  have hg : w ∈ gW := by
    rcases List.mem_cons.mp hw with rfl | h1
    · exact h.1
    · exact h1
  exact word_at hW (good_of_word (List.mem_filter.mp hg).2) (ht w hg)
theorem rPc_blind (g : rG) (A : Nat → Prop) (as : List rV) (σ : rS) : FrameBlind (rPc g A as σ) := by
  intro a U f mk q
  obtain ⟨q0, qP, qD, qK⟩ := q
  exact ⟨q0, qP, qD, qK.same rfl⟩
theorem callB_ok {N : rM} {n idx : Nat} (h : okM N n) {args : Array Value} {s : State} (ht : ∀ w ∈ gW, w.before args s = true) (hl : Cond.methodLink (mO M) idx (mY N) ∈ gW) (hR : mF N + 1 ≤ mF M ∧ 8 + (mN N + 11) + mL N ≤ mL M) : CallB (rRm M) s args (mO M) idx (mY N) (mC N) (mN N) (mR N) (rWd N) (rRm N) 0 0 n := by
  refine ⟨rfl, rfl, hR.1, hR.2, rWd_good (Mc := M) h ht, List.mem_cons_self, ht _ h.1, ht _ h.2.1, h.2.2.1, fun sig hs => ?_, ht _ hl⟩
  have h2 := h.2.2.2
  rw [hs] at h2
  exact (Option.some.inj h2).symm
theorem cats_sum (g : rG) : ∀ st : List rV, ((st.map (cv g)).map fun v => v.category).sum = st.length
  | [] => rfl
  | a :: t => by rw [List.map_cons, List.map_cons, List.sum_cons, cats_sum g t, cv_cat, List.length_cons]; omega
/-- behind a call -/
theorem e_back {N : rM} {as : List rV} {v : Option rV} {σ1 : rS} {stk : List rV} (kk : E M (pc + 3) ls (v.toList ++ st) σ1 r σ')
    {p : Program} {l : Launch} {e : Env} {s : State} {m : MethodId} {args : Array Value} {below : List Frame} {meth : Method} {c : Code} {g : rG} {A : Nat → Prop} {H : Heap} {locs : List Loc} {lsC : Array Slot}
    (X : rX g M A p s m args meth c) (hD : va_D A (rw_ g σ)) (hS : va_S A s.heap H locs) (hL : Lh g lsC (mN M) ls) {a : Array Value}
    (hr : va_Run p l e (rRm M) s m args below meth c H locs 0 0 0 0 (F0 m pc lsC (stk.map (cv g))) (st.map (cv g)) (rQc g A v σ1 a) A) :
    W p l e (rRm M) s m args below meth c H locs 0 0 (MQ below (rQc g A r σ') args s 0 0 A) (F0 m pc lsC (stk.map (cv g))) := by
  intro T hT X9
  obtain ⟨v9, st₀, t, T', L, h0, X', hL9, e1, e2, ⟨hv, hP1, hz, hk⟩, stp⟩ := hr T hT X9
  have hv9 : v9 = v.map (cv g) := by cases hv; rfl
  subst hv9
  rw [h0] at hz hk
  have hS1 : va_S A s.heap T'.heap (locs ++ L) := by
    refine ⟨Nat.le_trans hS.1 (by rw [e1]; exact hz), fun q h1 h2 => ?_, fun q hq => ?_⟩
    · rw [e1, hk q (Nat.lt_of_lt_of_le h1 hS.1) h2]
      exact hS.2.1 q h1 h2
    · rcases List.mem_append.mp hq with h | h
      · exact hS.2.2 q h
      · exact hL9 q h
  have k2 := kk p l e s m args below meth c g A T'.heap (locs ++ L) lsC X (by rw [e1]; exact hP1) (rw_D σ1 hD) hS1 hL
  have e9 : (v.toList ++ st).map (cv g) = (v.map (cv g)).toList ++ st.map (cv g) := by
    rw [List.map_append]
    cases v <;> rfl
  rw [e9] at k2
  obtain ⟨t2, a1, b1⟩ := k2 T' rfl X'
  exact ⟨t2, stp t2 a1, b1⟩
/-- what a call of an object's method needs beside -/
def okV (N : rM) (n ci : Nat) : Prop := okM N n ∧ Cond.instanceMethod (mY N) ∈ gW ∧ Cond.selects (mY N).cls (mY N) (mY N) ∈ gW ∧ ∃ q : vw_C, vwCl[ci]? = some q ∧ q.1 = (mY N).cls
theorem e_callV {N : rM} {n idx o : Nat} {as : List rV} {v : Option rV} {σ1 : rS} (hC : Ct N (.inr (o, 0) :: as) σ v σ1) (hN : okV N n ci) (hl : Cond.methodLink (mO M) idx (mY N) ∈ gW) (ho : isO o ci) (hn : as.length = n) (hst : st.length ≤ 8) (hR : mF N + 1 ≤ mF M ∧ 8 + (mN N + 11) + mL N ≤ mL M) (hd : decode (mC M) pc = .ok (.invokevirtual idx, 3)) (kk : E M (pc + 3) ls (v.toList ++ st) σ1 r σ') : E M pc ls (as.reverse ++ .inr (o, 0) :: st) σ r σ' := by
  intro p l e s m args below meth c g A H locs lsC X hP hD hS hL
  obtain ⟨hok, hin, hse, q, hq, hqc⟩ := hN
  have ht := X.2.2.2.2.1
  obtain ⟨q0, -, hq0⟩ := rw_at (g := g) (σ := σ) (cL_obj o ho.1)
  have hrecv := va_recv (ci := kls o) X.2.2.2.2.2.2.2.1 hP (by rw [ho.2]; exact hq) hq0
  rw [hqc] at hrecv
  refine e_back (N := N) (as := .inr (o, 0) :: as) (st := st) kk X hD hS hL (a := ((Sum.inr (o, 0) :: as : List rV).map (cv g)).toArray) ?_
  have hstk : (as.reverse ++ .inr (o, 0) :: st).map (cv g) = (as.map (cv g)).reverse ++ .ref (g.2.2 (o, 0)) :: st.map (cv g) := by
    rw [List.map_append, List.map_reverse]
    rfl
  refine va_runV (As := as.map (cv g)) (rest := st.map (cv g)) (C := (mY N).cls) ⟨X.1, X.2.1, X.2.2.1, X.2.2.2.1, ht⟩ (hC l g A) ⟨callB_ok hok ht hl hR, ht _ hin, ht _ hse⟩ ⟨rPc_blind g A _ σ, hrecv, fun U hU hW => ?_⟩ rfl (by rw [List.length_map]; exact hn) hL.1 hstk (by show 2 * 0 + _ ≤ 8; rw [cats_sum]; omega) hd ⟨Nat.le_refl _, Nat.le_refl _⟩
  exact ⟨rfl, by rw [hU]; exact hP, hD, by rw [hU]; exact X.2.2.2.2.2.2.2.to hS hW⟩
theorem e_callS {N : rM} {n idx : Nat} {as : List rV} {v : Option rV} {σ1 : rS} (hC : Ct N as σ v σ1) (hN : okM N n) (hs : Cond.static (mY N) ∈ gW) (hl : Cond.methodLink (mO M) idx (mY N) ∈ gW) (hn : as.length = n) (hst : st.length ≤ 8) (hR : mF N + 1 ≤ mF M ∧ 8 + (mN N + 11) + mL N ≤ mL M) (hd : decode (mC M) pc = .ok (.invokestatic idx, 3)) (kk : E M (pc + 3) ls (v.toList ++ st) σ1 r σ') : E M pc ls (as.reverse ++ st) σ r σ' := by
  intro p l e s m args below meth c g A H locs lsC X hP hD hS hL
  have ht := X.2.2.2.2.1
  refine e_back (N := N) (as := as) (st := st) kk X hD hS hL (a := (as.map (cv g)).toArray) ?_
  have hstk : (as.reverse ++ st).map (cv g) = (as.map (cv g)).reverse ++ st.map (cv g) := by
    rw [List.map_append, List.map_reverse]
  refine va_runS (As := as.map (cv g)) (rest := st.map (cv g)) ⟨X.1, X.2.1, X.2.2.1, X.2.2.2.1, ht⟩ (hC l g A) ⟨callB_ok hN ht hl hR, ht _ hs⟩ ⟨rPc_blind g A _ σ, fun U hU hW => ?_⟩ rfl (by rw [List.length_map]; exact hn) hL.1 hstk (by show 2 * 0 + _ ≤ 8; rw [cats_sum]; omega) hd ⟨Nat.le_refl _, Nat.le_refl _⟩
  exact ⟨rfl, by rw [hU]; exact hP, hD, by rw [hU]; exact X.2.2.2.2.2.2.2.to hS hW⟩
end RH
end
section
abbrev mX0_size : rM := (RX0, yX0_size, cX0_size, 1, (some .int), 0, 0)
set_option maxRecDepth 100000 in
theorem oX0_size : okV mX0_size 0 0 := ⟨⟨gW_in (List.mem_of_getElem? (i := 700) (by rfl)) rfl, gW_in (List.mem_of_getElem? (i := 48) (by decide +kernel)) rfl, by decide +kernel, by decide +kernel⟩, gW_in (List.mem_of_getElem? (i := 698) (by decide +kernel)) rfl, gW_in (List.mem_of_getElem? (i := 699) (by decide +kernel)) rfl, _, rfl, rfl⟩
abbrev mX0_clear : rM := (RX0, yX0_clear, cX0_clear, 1, none, 0, 0)
set_option maxRecDepth 100000 in
theorem oX0_clear : okV mX0_clear 0 0 := ⟨⟨gW_in (List.mem_of_getElem? (i := 494) (by rfl)) rfl, gW_in (List.mem_of_getElem? (i := 48) (by decide +kernel)) rfl, by decide +kernel, by decide +kernel⟩, gW_in (List.mem_of_getElem? (i := 492) (by decide +kernel)) rfl, gW_in (List.mem_of_getElem? (i := 493) (by decide +kernel)) rfl, _, rfl, rfl⟩
abbrev mX0_hasRoom : rM := (RX0, yX0_hasRoom, cX0_hasRoom, 1, (some .boolean), 0, 0)
set_option maxRecDepth 100000 in
theorem oX0_hasRoom : okV mX0_hasRoom 0 0 := ⟨⟨gW_in (List.mem_of_getElem? (i := 560) (by rfl)) rfl, gW_in (List.mem_of_getElem? (i := 48) (by decide +kernel)) rfl, by decide +kernel, by decide +kernel⟩, gW_in (List.mem_of_getElem? (i := 558) (by decide +kernel)) rfl, gW_in (List.mem_of_getElem? (i := 559) (by decide +kernel)) rfl, _, rfl, rfl⟩
abbrev mX0_enter : rM := (RX0, yX0_enter, cX0_enter, 7, (some .int), 0, 0)
set_option maxRecDepth 100000 in
theorem oX0_enter : okV mX0_enter 5 0 := ⟨⟨gW_in (List.mem_of_getElem? (i := 582) (by rfl)) rfl, gW_in (List.mem_of_getElem? (i := 48) (by decide +kernel)) rfl, by decide +kernel, by decide +kernel⟩, gW_in (List.mem_of_getElem? (i := 580) (by decide +kernel)) rfl, gW_in (List.mem_of_getElem? (i := 581) (by decide +kernel)) rfl, _, rfl, rfl⟩
abbrev mX0_sayerOf : rM := (RX0, yX0_sayerOf, cX0_sayerOf, 2, (some .int), 1, 21)
set_option maxRecDepth 100000 in
theorem oX0_sayerOf : okV mX0_sayerOf 1 0 := ⟨⟨gW_in (List.mem_of_getElem? (i := 619) (by rfl)) rfl, gW_in (List.mem_of_getElem? (i := 48) (by decide +kernel)) rfl, by decide +kernel, by decide +kernel⟩, gW_in (List.mem_of_getElem? (i := 617) (by decide +kernel)) rfl, gW_in (List.mem_of_getElem? (i := 618) (by decide +kernel)) rfl, _, rfl, rfl⟩
abbrev mX0_hearerOf : rM := (RX0, yX0_hearerOf, cX0_hearerOf, 2, (some .int), 1, 21)
set_option maxRecDepth 100000 in
theorem oX0_hearerOf : okV mX0_hearerOf 1 0 := ⟨⟨gW_in (List.mem_of_getElem? (i := 623) (by rfl)) rfl, gW_in (List.mem_of_getElem? (i := 48) (by decide +kernel)) rfl, by decide +kernel, by decide +kernel⟩, gW_in (List.mem_of_getElem? (i := 621) (by decide +kernel)) rfl, gW_in (List.mem_of_getElem? (i := 622) (by decide +kernel)) rfl, _, rfl, rfl⟩
abbrev mX0_placeIn : rM := (RX0, yX0_placeIn, cX0_placeIn, 2, (some .int), 1, 21)
set_option maxRecDepth 100000 in
theorem oX0_placeIn : okV mX0_placeIn 1 0 := ⟨⟨gW_in (List.mem_of_getElem? (i := 627) (by rfl)) rfl, gW_in (List.mem_of_getElem? (i := 48) (by decide +kernel)) rfl, by decide +kernel, by decide +kernel⟩, gW_in (List.mem_of_getElem? (i := 625) (by decide +kernel)) rfl, gW_in (List.mem_of_getElem? (i := 626) (by decide +kernel)) rfl, _, rfl, rfl⟩
abbrev mX0_dayOf : rM := (RX0, yX0_dayOf, cX0_dayOf, 2, (some .int), 1, 21)
set_option maxRecDepth 100000 in
theorem oX0_dayOf : okV mX0_dayOf 1 0 := ⟨⟨gW_in (List.mem_of_getElem? (i := 631) (by rfl)) rfl, gW_in (List.mem_of_getElem? (i := 48) (by decide +kernel)) rfl, by decide +kernel, by decide +kernel⟩, gW_in (List.mem_of_getElem? (i := 629) (by decide +kernel)) rfl, gW_in (List.mem_of_getElem? (i := 630) (by decide +kernel)) rfl, _, rfl, rfl⟩
abbrev mX0_standingOf : rM := (RX0, yX0_standingOf, cX0_standingOf, 2, (some .int), 1, 21)
set_option maxRecDepth 100000 in
theorem oX0_standingOf : okV mX0_standingOf 1 0 := ⟨⟨gW_in (List.mem_of_getElem? (i := 531) (by rfl)) rfl, gW_in (List.mem_of_getElem? (i := 48) (by decide +kernel)) rfl, by decide +kernel, by decide +kernel⟩, gW_in (List.mem_of_getElem? (i := 529) (by decide +kernel)) rfl, gW_in (List.mem_of_getElem? (i := 530) (by decide +kernel)) rfl, _, rfl, rfl⟩
abbrev mX0_lastDayOf : rM := (RX0, yX0_lastDayOf, cX0_lastDayOf, 2, (some .int), 3, 64)
set_option maxRecDepth 100000 in
theorem oX0_lastDayOf : okV mX0_lastDayOf 1 0 := ⟨⟨gW_in (List.mem_of_getElem? (i := 635) (by rfl)) rfl, gW_in (List.mem_of_getElem? (i := 48) (by decide +kernel)) rfl, by decide +kernel, by decide +kernel⟩, gW_in (List.mem_of_getElem? (i := 633) (by decide +kernel)) rfl, gW_in (List.mem_of_getElem? (i := 634) (by decide +kernel)) rfl, _, rfl, rfl⟩
abbrev mX0_engages : rM := (RX0, yX0_engages, cX0_engages, 3, (some .boolean), 3, 64)
set_option maxRecDepth 100000 in
theorem oX0_engages : okV mX0_engages 1 0 := ⟨⟨gW_in (List.mem_of_getElem? (i := 573) (by rfl)) rfl, gW_in (List.mem_of_getElem? (i := 48) (by decide +kernel)) rfl, by decide +kernel, by decide +kernel⟩, gW_in (List.mem_of_getElem? (i := 571) (by decide +kernel)) rfl, gW_in (List.mem_of_getElem? (i := 572) (by decide +kernel)) rfl, _, rfl, rfl⟩
abbrev mX0_take : rM := (RX0, yX0_take, cX0_take, 3, none, 3, 66)
set_option maxRecDepth 100000 in
theorem oX0_take : okV mX0_take 2 0 := ⟨⟨gW_in (List.mem_of_getElem? (i := 591) (by rfl)) rfl, gW_in (List.mem_of_getElem? (i := 48) (by decide +kernel)) rfl, by decide +kernel, by decide +kernel⟩, gW_in (List.mem_of_getElem? (i := 589) (by decide +kernel)) rfl, gW_in (List.mem_of_getElem? (i := 590) (by decide +kernel)) rfl, _, rfl, rfl⟩
abbrev mX0_change : rM := (RX0, yX0_change, cX0_change, 3, none, 1, 21)
set_option maxRecDepth 100000 in
theorem oX0_change : okV mX0_change 2 0 := ⟨⟨gW_in (List.mem_of_getElem? (i := 595) (by rfl)) rfl, gW_in (List.mem_of_getElem? (i := 48) (by decide +kernel)) rfl, by decide +kernel, by decide +kernel⟩, gW_in (List.mem_of_getElem? (i := 593) (by decide +kernel)) rfl, gW_in (List.mem_of_getElem? (i := 594) (by decide +kernel)) rfl, _, rfl, rfl⟩
abbrev mX0_hasSworn : rM := (RX0, yX0_hasSworn, cX0_hasSworn, 3, (some .boolean), 1, 21)
set_option maxRecDepth 100000 in
theorem oX0_hasSworn : okV mX0_hasSworn 2 0 := ⟨⟨gW_in (List.mem_of_getElem? (i := 603) (by rfl)) rfl, gW_in (List.mem_of_getElem? (i := 48) (by decide +kernel)) rfl, by decide +kernel, by decide +kernel⟩, gW_in (List.mem_of_getElem? (i := 601) (by decide +kernel)) rfl, gW_in (List.mem_of_getElem? (i := 602) (by decide +kernel)) rfl, _, rfl, rfl⟩
abbrev mX0_hearOath : rM := (RX0, yX0_hearOath, cX0_hearOath, 4, none, 2, 45)
set_option maxRecDepth 100000 in
theorem oX0_hearOath : okV mX0_hearOath 3 0 := ⟨⟨gW_in (List.mem_of_getElem? (i := 607) (by rfl)) rfl, gW_in (List.mem_of_getElem? (i := 48) (by decide +kernel)) rfl, by decide +kernel, by decide +kernel⟩, gW_in (List.mem_of_getElem? (i := 605) (by decide +kernel)) rfl, gW_in (List.mem_of_getElem? (i := 606) (by decide +kernel)) rfl, _, rfl, rfl⟩
abbrev mX0_judgeBeyond : rM := (RX0, yX0_judgeBeyond, cX0_judgeBeyond, 4, none, 5, 111)
set_option maxRecDepth 100000 in
theorem oX0_judgeBeyond : okV mX0_judgeBeyond 2 0 := ⟨⟨gW_in (List.mem_of_getElem? (i := 523) (by rfl)) rfl, gW_in (List.mem_of_getElem? (i := 48) (by decide +kernel)) rfl, by decide +kernel, by decide +kernel⟩, gW_in (List.mem_of_getElem? (i := 521) (by decide +kernel)) rfl, gW_in (List.mem_of_getElem? (i := 522) (by decide +kernel)) rfl, _, rfl, rfl⟩
abbrev mX0_judgeAll : rM := (RX0, yX0_judgeAll, cX0_judgeAll, 3, none, 5, 111)
set_option maxRecDepth 100000 in
theorem oX0_judgeAll : okV mX0_judgeAll 1 0 := ⟨⟨gW_in (List.mem_of_getElem? (i := 643) (by rfl)) rfl, gW_in (List.mem_of_getElem? (i := 48) (by decide +kernel)) rfl, by decide +kernel, by decide +kernel⟩, gW_in (List.mem_of_getElem? (i := 641) (by decide +kernel)) rfl, gW_in (List.mem_of_getElem? (i := 642) (by decide +kernel)) rfl, _, rfl, rfl⟩
abbrev mX0_foreseeVerdicts : rM := (RX0, yX0_foreseeVerdicts, cX0_foreseeVerdicts, 3, none, 4, 89)
set_option maxRecDepth 100000 in
theorem oX0_foreseeVerdicts : okV mX0_foreseeVerdicts 1 0 := ⟨⟨gW_in (List.mem_of_getElem? (i := 688) (by rfl)) rfl, gW_in (List.mem_of_getElem? (i := 48) (by decide +kernel)) rfl, by decide +kernel, by decide +kernel⟩, gW_in (List.mem_of_getElem? (i := 686) (by decide +kernel)) rfl, gW_in (List.mem_of_getElem? (i := 687) (by decide +kernel)) rfl, _, rfl, rfl⟩
abbrev mX0_judge : rM := (RX0, yX0_judge, cX0_judge, 3, none, 4, 89)
set_option maxRecDepth 100000 in
theorem oX0_judge : okV mX0_judge 2 0 := ⟨⟨gW_in (List.mem_of_getElem? (i := 539) (by rfl)) rfl, gW_in (List.mem_of_getElem? (i := 48) (by decide +kernel)) rfl, by decide +kernel, by decide +kernel⟩, gW_in (List.mem_of_getElem? (i := 538) (by decide +kernel)) rfl, gW_in (List.mem_of_getElem? (i := 17) (by decide +kernel)) rfl, _, rfl, rfl⟩
abbrev mX0_verdictOn : rM := (RX0, yX0_verdictOn, cX0_verdictOn, 4, (some .int), 2, 42)
set_option maxRecDepth 100000 in
theorem oX0_verdictOn : okV mX0_verdictOn 2 0 := ⟨⟨gW_in (List.mem_of_getElem? (i := 543) (by rfl)) rfl, gW_in (List.mem_of_getElem? (i := 48) (by decide +kernel)) rfl, by decide +kernel, by decide +kernel⟩, gW_in (List.mem_of_getElem? (i := 542) (by decide +kernel)) rfl, gW_in (List.mem_of_getElem? (i := 18) (by decide +kernel)) rfl, _, rfl, rfl⟩
abbrev mX0_carryOut : rM := (RX0, yX0_carryOut, cX0_carryOut, 4, none, 3, 66)
set_option maxRecDepth 100000 in
theorem oX0_carryOut : okV mX0_carryOut 3 0 := ⟨⟨gW_in (List.mem_of_getElem? (i := 548) (by rfl)) rfl, gW_in (List.mem_of_getElem? (i := 48) (by decide +kernel)) rfl, by decide +kernel, by decide +kernel⟩, gW_in (List.mem_of_getElem? (i := 547) (by decide +kernel)) rfl, gW_in (List.mem_of_getElem? (i := 19) (by decide +kernel)) rfl, _, rfl, rfl⟩
abbrev mX0_isRunning : rM := (RX0, yX0_isRunning, cX0_isRunning, 3, (some .boolean), 2, 42)
set_option maxRecDepth 100000 in
theorem oX0_isRunning : okV mX0_isRunning 1 0 := ⟨⟨gW_in (List.mem_of_getElem? (i := 527) (by rfl)) rfl, gW_in (List.mem_of_getElem? (i := 48) (by decide +kernel)) rfl, by decide +kernel, by decide +kernel⟩, gW_in (List.mem_of_getElem? (i := 526) (by decide +kernel)) rfl, gW_in (List.mem_of_getElem? (i := 15) (by decide +kernel)) rfl, _, rfl, rfl⟩
abbrev mX0_has : rM := (RX0, yX0_has, cX0_has, 2, (some .boolean), 0, 0)
set_option maxRecDepth 100000 in
theorem oX0_has : okV mX0_has 1 0 := ⟨⟨gW_in (List.mem_of_getElem? (i := 535) (by rfl)) rfl, gW_in (List.mem_of_getElem? (i := 48) (by decide +kernel)) rfl, by decide +kernel, by decide +kernel⟩, gW_in (List.mem_of_getElem? (i := 534) (by decide +kernel)) rfl, gW_in (List.mem_of_getElem? (i := 16) (by decide +kernel)) rfl, _, rfl, rfl⟩
abbrev mX1_faultKind : rM := (RX1, yX1_faultKind, cX1_faultKind, 1, (some .int), 0, 0)
set_option maxRecDepth 100000 in
theorem oX1_faultKind : okV mX1_faultKind 0 1 := ⟨⟨gW_in (List.mem_of_getElem? (i := 417) (by rfl)) rfl, gW_in (List.mem_of_getElem? (i := 46) (by decide +kernel)) rfl, by decide +kernel, by decide +kernel⟩, gW_in (List.mem_of_getElem? (i := 415) (by decide +kernel)) rfl, gW_in (List.mem_of_getElem? (i := 416) (by decide +kernel)) rfl, _, rfl, rfl⟩
abbrev mX1_faultPlace : rM := (RX1, yX1_faultPlace, cX1_faultPlace, 1, (some .int), 0, 0)
set_option maxRecDepth 100000 in
theorem oX1_faultPlace : okV mX1_faultPlace 0 1 := ⟨⟨gW_in (List.mem_of_getElem? (i := 421) (by rfl)) rfl, gW_in (List.mem_of_getElem? (i := 46) (by decide +kernel)) rfl, by decide +kernel, by decide +kernel⟩, gW_in (List.mem_of_getElem? (i := 419) (by decide +kernel)) rfl, gW_in (List.mem_of_getElem? (i := 420) (by decide +kernel)) rfl, _, rfl, rfl⟩
abbrev mX1_read : rM := (RX1, yX1_read, cX1_read, 4, (some .boolean), 8, 176)
set_option maxRecDepth 100000 in
theorem oX1_read : okV mX1_read 2 1 := ⟨⟨gW_in (List.mem_of_getElem? (i := 254) (by rfl)) rfl, gW_in (List.mem_of_getElem? (i := 46) (by decide +kernel)) rfl, by decide +kernel, by decide +kernel⟩, gW_in (List.mem_of_getElem? (i := 252) (by decide +kernel)) rfl, gW_in (List.mem_of_getElem? (i := 253) (by decide +kernel)) rfl, _, rfl, rfl⟩
abbrev mX1_isSound : rM := (RX1, yX1_isSound, cX1_isSound, 1, (some .boolean), 0, 0)
set_option maxRecDepth 100000 in
theorem oX1_isSound : okV mX1_isSound 0 1 := ⟨⟨gW_in (List.mem_of_getElem? (i := 262) (by rfl)) rfl, gW_in (List.mem_of_getElem? (i := 46) (by decide +kernel)) rfl, by decide +kernel, by decide +kernel⟩, gW_in (List.mem_of_getElem? (i := 261) (by decide +kernel)) rfl, gW_in (List.mem_of_getElem? (i := 0) (by decide +kernel)) rfl, _, rfl, rfl⟩
abbrev mX1_blame : rM := (RX1, yX1_blame, cX1_blame, 3, none, 0, 0)
set_option maxRecDepth 100000 in
theorem oX1_blame : okV mX1_blame 2 1 := ⟨⟨gW_in (List.mem_of_getElem? (i := 356) (by rfl)) rfl, gW_in (List.mem_of_getElem? (i := 46) (by decide +kernel)) rfl, by decide +kernel, by decide +kernel⟩, gW_in (List.mem_of_getElem? (i := 355) (by decide +kernel)) rfl, gW_in (List.mem_of_getElem? (i := 7) (by decide +kernel)) rfl, _, rfl, rfl⟩
abbrev mX1_readLine : rM := (RX1, yX1_readLine, cX1_readLine, 4, none, 7, 153)
set_option maxRecDepth 100000 in
theorem oX1_readLine : okV mX1_readLine 1 1 := ⟨⟨gW_in (List.mem_of_getElem? (i := 277) (by rfl)) rfl, gW_in (List.mem_of_getElem? (i := 46) (by decide +kernel)) rfl, by decide +kernel, by decide +kernel⟩, gW_in (List.mem_of_getElem? (i := 276) (by decide +kernel)) rfl, gW_in (List.mem_of_getElem? (i := 2) (by decide +kernel)) rfl, _, rfl, rfl⟩
abbrev mX1_readBurden : rM := (RX1, yX1_readBurden, cX1_readBurden, 5, none, 6, 129)
set_option maxRecDepth 100000 in
theorem oX1_readBurden : okV mX1_readBurden 1 1 := ⟨⟨gW_in (List.mem_of_getElem? (i := 347) (by rfl)) rfl, gW_in (List.mem_of_getElem? (i := 46) (by decide +kernel)) rfl, by decide +kernel, by decide +kernel⟩, gW_in (List.mem_of_getElem? (i := 346) (by decide +kernel)) rfl, gW_in (List.mem_of_getElem? (i := 5) (by decide +kernel)) rfl, _, rfl, rfl⟩
abbrev mX1_passSettingWord : rM := (RX1, yX1_passSettingWord, cX1_passSettingWord, 2, (some .int), 5, 108)
set_option maxRecDepth 100000 in
theorem oX1_passSettingWord : okV mX1_passSettingWord 0 1 := ⟨⟨gW_in (List.mem_of_getElem? (i := 281) (by rfl)) rfl, gW_in (List.mem_of_getElem? (i := 46) (by decide +kernel)) rfl, by decide +kernel, by decide +kernel⟩, gW_in (List.mem_of_getElem? (i := 280) (by decide +kernel)) rfl, gW_in (List.mem_of_getElem? (i := 3) (by decide +kernel)) rfl, _, rfl, rfl⟩
abbrev mX1_expectWord : rM := (RX1, yX1_expectWord, cX1_expectWord, 2, none, 5, 108)
set_option maxRecDepth 100000 in
theorem oX1_expectWord : okV mX1_expectWord 1 1 := ⟨⟨gW_in (List.mem_of_getElem? (i := 352) (by rfl)) rfl, gW_in (List.mem_of_getElem? (i := 46) (by decide +kernel)) rfl, by decide +kernel, by decide +kernel⟩, gW_in (List.mem_of_getElem? (i := 351) (by decide +kernel)) rfl, gW_in (List.mem_of_getElem? (i := 6) (by decide +kernel)) rfl, _, rfl, rfl⟩
abbrev mX1_expectNewName : rM := (RX1, yX1_expectNewName, cX1_expectNewName, 3, (some .int), 2, 42)
set_option maxRecDepth 100000 in
theorem oX1_expectNewName : okV mX1_expectNewName 1 1 := ⟨⟨gW_in (List.mem_of_getElem? (i := 360) (by rfl)) rfl, gW_in (List.mem_of_getElem? (i := 46) (by decide +kernel)) rfl, by decide +kernel, by decide +kernel⟩, gW_in (List.mem_of_getElem? (i := 359) (by decide +kernel)) rfl, gW_in (List.mem_of_getElem? (i := 8) (by decide +kernel)) rfl, _, rfl, rfl⟩
abbrev mX1_expectNumber : rM := (RX1, yX1_expectNumber, cX1_expectNumber, 5, (some .int), 2, 41)
set_option maxRecDepth 100000 in
theorem oX1_expectNumber : okV mX1_expectNumber 2 1 := ⟨⟨gW_in (List.mem_of_getElem? (i := 373) (by rfl)) rfl, gW_in (List.mem_of_getElem? (i := 46) (by decide +kernel)) rfl, by decide +kernel, by decide +kernel⟩, gW_in (List.mem_of_getElem? (i := 372) (by decide +kernel)) rfl, gW_in (List.mem_of_getElem? (i := 10) (by decide +kernel)) rfl, _, rfl, rfl⟩
abbrev mX1_expectSemicolon : rM := (RX1, yX1_expectSemicolon, cX1_expectSemicolon, 1, none, 2, 41)
set_option maxRecDepth 100000 in
theorem oX1_expectSemicolon : okV mX1_expectSemicolon 0 1 := ⟨⟨gW_in (List.mem_of_getElem? (i := 397) (by rfl)) rfl, gW_in (List.mem_of_getElem? (i := 46) (by decide +kernel)) rfl, by decide +kernel, by decide +kernel⟩, gW_in (List.mem_of_getElem? (i := 396) (by decide +kernel)) rfl, gW_in (List.mem_of_getElem? (i := 11) (by decide +kernel)) rfl, _, rfl, rfl⟩
abbrev mX1_nextSign : rM := (RX1, yX1_nextSign, cX1_nextSign, 1, (some .int), 1, 21)
set_option maxRecDepth 100000 in
theorem oX1_nextSign : okV mX1_nextSign 0 1 := ⟨⟨gW_in (List.mem_of_getElem? (i := 266) (by rfl)) rfl, gW_in (List.mem_of_getElem? (i := 46) (by decide +kernel)) rfl, by decide +kernel, by decide +kernel⟩, gW_in (List.mem_of_getElem? (i := 265) (by decide +kernel)) rfl, gW_in (List.mem_of_getElem? (i := 1) (by decide +kernel)) rfl, _, rfl, rfl⟩
abbrev mX1_passWord : rM := (RX1, yX1_passWord, cX1_passWord, 4, (some .boolean), 4, 85)
set_option maxRecDepth 100000 in
theorem oX1_passWord : okV mX1_passWord 1 1 := ⟨⟨gW_in (List.mem_of_getElem? (i := 292) (by rfl)) rfl, gW_in (List.mem_of_getElem? (i := 46) (by decide +kernel)) rfl, by decide +kernel, by decide +kernel⟩, gW_in (List.mem_of_getElem? (i := 291) (by decide +kernel)) rfl, gW_in (List.mem_of_getElem? (i := 4) (by decide +kernel)) rfl, _, rfl, rfl⟩
abbrev mX1_wordOf : rM := (RX1, yX1_wordOf, cX1_wordOf, 1, (some (.object "java/lang/String")), 0, 0)
set_option maxRecDepth 100000 in
theorem oX1_wordOf : okM mX1_wordOf 1 := ⟨gW_in (List.mem_of_getElem? (i := 284) (by rfl)) rfl, gW_in (List.mem_of_getElem? (i := 46) (by decide +kernel)) rfl, by decide +kernel, by decide +kernel⟩
theorem sX1_wordOf : Cond.static (mY mX1_wordOf) ∈ gW := gW_in (List.mem_of_getElem? (i := 283) (by decide +kernel)) rfl
abbrev mX1_mostOf : rM := (RX1, yX1_mostOf, cX1_mostOf, 1, (some .int), 0, 0)
set_option maxRecDepth 100000 in
theorem oX1_mostOf : okM mX1_mostOf 1 := ⟨gW_in (List.mem_of_getElem? (i := 388) (by rfl)) rfl, gW_in (List.mem_of_getElem? (i := 46) (by decide +kernel)) rfl, by decide +kernel, by decide +kernel⟩
theorem sX1_mostOf : Cond.static (mY mX1_mostOf) ∈ gW := gW_in (List.mem_of_getElem? (i := 387) (by decide +kernel)) rfl
abbrev mX1_isBlank : rM := (RX1, yX1_isBlank, cX1_isBlank, 1, (some .boolean), 0, 0)
set_option maxRecDepth 100000 in
theorem oX1_isBlank : okM mX1_isBlank 1 := ⟨gW_in (List.mem_of_getElem? (i := 273) (by rfl)) rfl, gW_in (List.mem_of_getElem? (i := 46) (by decide +kernel)) rfl, by decide +kernel, by decide +kernel⟩
theorem sX1_isBlank : Cond.static (mY mX1_isBlank) ∈ gW := gW_in (List.mem_of_getElem? (i := 272) (by decide +kernel)) rfl
abbrev mX1_isDigit : rM := (RX1, yX1_isDigit, cX1_isDigit, 1, (some .boolean), 0, 0)
set_option maxRecDepth 100000 in
theorem oX1_isDigit : okM mX1_isDigit 1 := ⟨gW_in (List.mem_of_getElem? (i := 376) (by rfl)) rfl, gW_in (List.mem_of_getElem? (i := 46) (by decide +kernel)) rfl, by decide +kernel, by decide +kernel⟩
theorem sX1_isDigit : Cond.static (mY mX1_isDigit) ∈ gW := gW_in (List.mem_of_getElem? (i := 375) (by decide +kernel)) rfl
abbrev mX1_isSmallLetter : rM := (RX1, yX1_isSmallLetter, cX1_isSmallLetter, 1, (some .boolean), 0, 0)
set_option maxRecDepth 100000 in
theorem oX1_isSmallLetter : okM mX1_isSmallLetter 1 := ⟨gW_in (List.mem_of_getElem? (i := 295) (by rfl)) rfl, gW_in (List.mem_of_getElem? (i := 46) (by decide +kernel)) rfl, by decide +kernel, by decide +kernel⟩
theorem sX1_isSmallLetter : Cond.static (mY mX1_isSmallLetter) ∈ gW := gW_in (List.mem_of_getElem? (i := 294) (by decide +kernel)) rfl
abbrev mX2_copyFrom : rM := (RX2, yX2_copyFrom, cX2_copyFrom, 3, none, 0, 0)
set_option maxRecDepth 100000 in
theorem oX2_copyFrom : okV mX2_copyFrom 1 2 := ⟨⟨gW_in (List.mem_of_getElem? (i := 684) (by rfl)) rfl, gW_in (List.mem_of_getElem? (i := 47) (by decide +kernel)) rfl, by decide +kernel, by decide +kernel⟩, gW_in (List.mem_of_getElem? (i := 682) (by decide +kernel)) rfl, gW_in (List.mem_of_getElem? (i := 683) (by decide +kernel)) rfl, _, rfl, rfl⟩
abbrev mX2_size : rM := (RX2, yX2_size, cX2_size, 1, (some .int), 0, 0)
set_option maxRecDepth 100000 in
theorem oX2_size : okV mX2_size 0 2 := ⟨⟨gW_in (List.mem_of_getElem? (i := 696) (by rfl)) rfl, gW_in (List.mem_of_getElem? (i := 47) (by decide +kernel)) rfl, by decide +kernel, by decide +kernel⟩, gW_in (List.mem_of_getElem? (i := 694) (by decide +kernel)) rfl, gW_in (List.mem_of_getElem? (i := 695) (by decide +kernel)) rfl, _, rfl, rfl⟩
abbrev mX2_has : rM := (RX2, yX2_has, cX2_has, 2, (some .boolean), 0, 0)
set_option maxRecDepth 100000 in
theorem oX2_has : okV mX2_has 1 2 := ⟨⟨gW_in (List.mem_of_getElem? (i := 441) (by rfl)) rfl, gW_in (List.mem_of_getElem? (i := 47) (by decide +kernel)) rfl, by decide +kernel, by decide +kernel⟩, gW_in (List.mem_of_getElem? (i := 439) (by decide +kernel)) rfl, gW_in (List.mem_of_getElem? (i := 440) (by decide +kernel)) rfl, _, rfl, rfl⟩
abbrev mX2_enter : rM := (RX2, yX2_enter, cX2_enter, 4, (some .int), 0, 0)
set_option maxRecDepth 100000 in
theorem oX2_enter : okV mX2_enter 2 2 := ⟨⟨gW_in (List.mem_of_getElem? (i := 433) (by rfl)) rfl, gW_in (List.mem_of_getElem? (i := 47) (by decide +kernel)) rfl, by decide +kernel, by decide +kernel⟩, gW_in (List.mem_of_getElem? (i := 431) (by decide +kernel)) rfl, gW_in (List.mem_of_getElem? (i := 432) (by decide +kernel)) rfl, _, rfl, rfl⟩
abbrev mX2_declaredOf : rM := (RX2, yX2_declaredOf, cX2_declaredOf, 2, (some .int), 1, 21)
set_option maxRecDepth 100000 in
theorem oX2_declaredOf : okV mX2_declaredOf 1 2 := ⟨⟨gW_in (List.mem_of_getElem? (i := 466) (by rfl)) rfl, gW_in (List.mem_of_getElem? (i := 47) (by decide +kernel)) rfl, by decide +kernel, by decide +kernel⟩, gW_in (List.mem_of_getElem? (i := 464) (by decide +kernel)) rfl, gW_in (List.mem_of_getElem? (i := 465) (by decide +kernel)) rfl, _, rfl, rfl⟩
abbrev mX2_hiddenOf : rM := (RX2, yX2_hiddenOf, cX2_hiddenOf, 2, (some .int), 1, 21)
set_option maxRecDepth 100000 in
theorem oX2_hiddenOf : okV mX2_hiddenOf 1 2 := ⟨⟨gW_in (List.mem_of_getElem? (i := 445) (by rfl)) rfl, gW_in (List.mem_of_getElem? (i := 47) (by decide +kernel)) rfl, by decide +kernel, by decide +kernel⟩, gW_in (List.mem_of_getElem? (i := 443) (by decide +kernel)) rfl, gW_in (List.mem_of_getElem? (i := 444) (by decide +kernel)) rfl, _, rfl, rfl⟩
abbrev mX2_worthOf : rM := (RX2, yX2_worthOf, cX2_worthOf, 2, (some .int), 2, 42)
set_option maxRecDepth 100000 in
theorem oX2_worthOf : okV mX2_worthOf 1 2 := ⟨⟨gW_in (List.mem_of_getElem? (i := 675) (by rfl)) rfl, gW_in (List.mem_of_getElem? (i := 47) (by decide +kernel)) rfl, by decide +kernel, by decide +kernel⟩, gW_in (List.mem_of_getElem? (i := 673) (by decide +kernel)) rfl, gW_in (List.mem_of_getElem? (i := 674) (by decide +kernel)) rfl, _, rfl, rfl⟩
abbrev mX2_placeOf : rM := (RX2, yX2_placeOf, cX2_placeOf, 2, (some .int), 1, 21)
set_option maxRecDepth 100000 in
theorem oX2_placeOf : okV mX2_placeOf 1 2 := ⟨⟨gW_in (List.mem_of_getElem? (i := 564) (by rfl)) rfl, gW_in (List.mem_of_getElem? (i := 47) (by decide +kernel)) rfl, by decide +kernel, by decide +kernel⟩, gW_in (List.mem_of_getElem? (i := 562) (by decide +kernel)) rfl, gW_in (List.mem_of_getElem? (i := 563) (by decide +kernel)) rfl, _, rfl, rfl⟩
abbrev mX2_freeFromOf : rM := (RX2, yX2_freeFromOf, cX2_freeFromOf, 2, (some .int), 1, 21)
set_option maxRecDepth 100000 in
theorem oX2_freeFromOf : okV mX2_freeFromOf 1 2 := ⟨⟨gW_in (List.mem_of_getElem? (i := 780) (by rfl)) rfl, gW_in (List.mem_of_getElem? (i := 47) (by decide +kernel)) rfl, by decide +kernel, by decide +kernel⟩, gW_in (List.mem_of_getElem? (i := 778) (by decide +kernel)) rfl, gW_in (List.mem_of_getElem? (i := 779) (by decide +kernel)) rfl, _, rfl, rfl⟩
abbrev mX2_yearsBorneOf : rM := (RX2, yX2_yearsBorneOf, cX2_yearsBorneOf, 2, (some .int), 1, 21)
set_option maxRecDepth 100000 in
theorem oX2_yearsBorneOf : okV mX2_yearsBorneOf 1 2 := ⟨⟨gW_in (List.mem_of_getElem? (i := 784) (by rfl)) rfl, gW_in (List.mem_of_getElem? (i := 47) (by decide +kernel)) rfl, by decide +kernel, by decide +kernel⟩, gW_in (List.mem_of_getElem? (i := 782) (by decide +kernel)) rfl, gW_in (List.mem_of_getElem? (i := 783) (by decide +kernel)) rfl, _, rfl, rfl⟩
abbrev mX2_bearerAt : rM := (RX2, yX2_bearerAt, cX2_bearerAt, 2, (some .int), 1, 20)
set_option maxRecDepth 100000 in
theorem oX2_bearerAt : okV mX2_bearerAt 1 2 := ⟨⟨gW_in (List.mem_of_getElem? (i := 483) (by rfl)) rfl, gW_in (List.mem_of_getElem? (i := 47) (by decide +kernel)) rfl, by decide +kernel, by decide +kernel⟩, gW_in (List.mem_of_getElem? (i := 481) (by decide +kernel)) rfl, gW_in (List.mem_of_getElem? (i := 482) (by decide +kernel)) rfl, _, rfl, rfl⟩
abbrev mX2_hasBorne : rM := (RX2, yX2_hasBorne, cX2_hasBorne, 3, (some .boolean), 1, 21)
set_option maxRecDepth 100000 in
theorem oX2_hasBorne : okV mX2_hasBorne 2 2 := ⟨⟨gW_in (List.mem_of_getElem? (i := 577) (by rfl)) rfl, gW_in (List.mem_of_getElem? (i := 47) (by decide +kernel)) rfl, by decide +kernel, by decide +kernel⟩, gW_in (List.mem_of_getElem? (i := 575) (by decide +kernel)) rfl, gW_in (List.mem_of_getElem? (i := 576) (by decide +kernel)) rfl, _, rfl, rfl⟩
abbrev mX2_uncover : rM := (RX2, yX2_uncover, cX2_uncover, 3, none, 1, 21)
set_option maxRecDepth 100000 in
theorem oX2_uncover : okV mX2_uncover 2 2 := ⟨⟨gW_in (List.mem_of_getElem? (i := 450) (by rfl)) rfl, gW_in (List.mem_of_getElem? (i := 47) (by decide +kernel)) rfl, by decide +kernel, by decide +kernel⟩, gW_in (List.mem_of_getElem? (i := 448) (by decide +kernel)) rfl, gW_in (List.mem_of_getElem? (i := 449) (by decide +kernel)) rfl, _, rfl, rfl⟩
abbrev mX2_exchangeEstates : rM := (RX2, yX2_exchangeEstates, cX2_exchangeEstates, 5, none, 1, 21)
set_option maxRecDepth 100000 in
theorem oX2_exchangeEstates : okV mX2_exchangeEstates 2 2 := ⟨⟨gW_in (List.mem_of_getElem? (i := 611) (by rfl)) rfl, gW_in (List.mem_of_getElem? (i := 47) (by decide +kernel)) rfl, by decide +kernel, by decide +kernel⟩, gW_in (List.mem_of_getElem? (i := 609) (by decide +kernel)) rfl, gW_in (List.mem_of_getElem? (i := 610) (by decide +kernel)) rfl, _, rfl, rfl⟩
abbrev mX2_manOfRank : rM := (RX2, yX2_manOfRank, cX2_manOfRank, 3, (some .int), 3, 66)
set_option maxRecDepth 100000 in
theorem oX2_manOfRank : okV mX2_manOfRank 1 2 := ⟨⟨gW_in (List.mem_of_getElem? (i := 458) (by rfl)) rfl, gW_in (List.mem_of_getElem? (i := 47) (by decide +kernel)) rfl, by decide +kernel, by decide +kernel⟩, gW_in (List.mem_of_getElem? (i := 456) (by decide +kernel)) rfl, gW_in (List.mem_of_getElem? (i := 457) (by decide +kernel)) rfl, _, rfl, rfl⟩
abbrev mX2_rankOf : rM := (RX2, yX2_rankOf, cX2_rankOf, 5, (some .int), 2, 42)
set_option maxRecDepth 100000 in
theorem oX2_rankOf : okV mX2_rankOf 1 2 := ⟨⟨gW_in (List.mem_of_getElem? (i := 462) (by rfl)) rfl, gW_in (List.mem_of_getElem? (i := 47) (by decide +kernel)) rfl, by decide +kernel, by decide +kernel⟩, gW_in (List.mem_of_getElem? (i := 461) (by decide +kernel)) rfl, gW_in (List.mem_of_getElem? (i := 12) (by decide +kernel)) rfl, _, rfl, rfl⟩
abbrev mX2_isFit : rM := (RX2, yX2_isFit, cX2_isFit, 4, (some .boolean), 1, 21)
set_option maxRecDepth 100000 in
theorem oX2_isFit : okV mX2_isFit 3 2 := ⟨⟨gW_in (List.mem_of_getElem? (i := 507) (by rfl)) rfl, gW_in (List.mem_of_getElem? (i := 47) (by decide +kernel)) rfl, by decide +kernel, by decide +kernel⟩, gW_in (List.mem_of_getElem? (i := 505) (by decide +kernel)) rfl, gW_in (List.mem_of_getElem? (i := 506) (by decide +kernel)) rfl, _, rfl, rfl⟩
abbrev mX2_fillPlaces : rM := (RX2, yX2_fillPlaces, cX2_fillPlaces, 6, (some .int), 3, 68)
set_option maxRecDepth 100000 in
theorem oX2_fillPlaces : okV mX2_fillPlaces 2 2 := ⟨⟨gW_in (List.mem_of_getElem? (i := 498) (by rfl)) rfl, gW_in (List.mem_of_getElem? (i := 47) (by decide +kernel)) rfl, by decide +kernel, by decide +kernel⟩, gW_in (List.mem_of_getElem? (i := 496) (by decide +kernel)) rfl, gW_in (List.mem_of_getElem? (i := 497) (by decide +kernel)) rfl, _, rfl, rfl⟩
abbrev mX2_richestFit : rM := (RX2, yX2_richestFit, cX2_richestFit, 5, (some .int), 2, 44)
set_option maxRecDepth 100000 in
theorem oX2_richestFit : okV mX2_richestFit 2 2 := ⟨⟨gW_in (List.mem_of_getElem? (i := 503) (by rfl)) rfl, gW_in (List.mem_of_getElem? (i := 47) (by decide +kernel)) rfl, by decide +kernel, by decide +kernel⟩, gW_in (List.mem_of_getElem? (i := 502) (by decide +kernel)) rfl, gW_in (List.mem_of_getElem? (i := 13) (by decide +kernel)) rfl, _, rfl, rfl⟩
abbrev mX2_handOver : rM := (RX2, yX2_handOver, cX2_handOver, 4, none, 2, 43)
set_option maxRecDepth 100000 in
theorem oX2_handOver : okV mX2_handOver 3 2 := ⟨⟨gW_in (List.mem_of_getElem? (i := 552) (by rfl)) rfl, gW_in (List.mem_of_getElem? (i := 47) (by decide +kernel)) rfl, by decide +kernel, by decide +kernel⟩, gW_in (List.mem_of_getElem? (i := 550) (by decide +kernel)) rfl, gW_in (List.mem_of_getElem? (i := 551) (by decide +kernel)) rfl, _, rfl, rfl⟩
abbrev mX2_layOn : rM := (RX2, yX2_layOn, cX2_layOn, 3, none, 1, 21)
set_option maxRecDepth 100000 in
theorem oX2_layOn : okV mX2_layOn 2 2 := ⟨⟨gW_in (List.mem_of_getElem? (i := 515) (by rfl)) rfl, gW_in (List.mem_of_getElem? (i := 47) (by decide +kernel)) rfl, by decide +kernel, by decide +kernel⟩, gW_in (List.mem_of_getElem? (i := 514) (by decide +kernel)) rfl, gW_in (List.mem_of_getElem? (i := 14) (by decide +kernel)) rfl, _, rfl, rfl⟩
abbrev mX2_partAt : rM := (RX2, yX2_partAt, cX2_partAt, 6, (some .int), 2, 45)
set_option maxRecDepth 100000 in
theorem oX2_partAt : okV mX2_partAt 2 2 := ⟨⟨gW_in (List.mem_of_getElem? (i := 652) (by rfl)) rfl, gW_in (List.mem_of_getElem? (i := 47) (by decide +kernel)) rfl, by decide +kernel, by decide +kernel⟩, gW_in (List.mem_of_getElem? (i := 650) (by decide +kernel)) rfl, gW_in (List.mem_of_getElem? (i := 651) (by decide +kernel)) rfl, _, rfl, rfl⟩
abbrev mX2_settle : rM := (RX2, yX2_settle, cX2_settle, 7, (some .int), 3, 70)
set_option maxRecDepth 100000 in
theorem oX2_settle : okV mX2_settle 2 2 := ⟨⟨gW_in (List.mem_of_getElem? (i := 647) (by rfl)) rfl, gW_in (List.mem_of_getElem? (i := 47) (by decide +kernel)) rfl, by decide +kernel, by decide +kernel⟩, gW_in (List.mem_of_getElem? (i := 645) (by decide +kernel)) rfl, gW_in (List.mem_of_getElem? (i := 646) (by decide +kernel)) rfl, _, rfl, rfl⟩
abbrev mX2_layDownAll : rM := (RX2, yX2_layDownAll, cX2_layDownAll, 2, none, 0, 0)
set_option maxRecDepth 100000 in
theorem oX2_layDownAll : okV mX2_layDownAll 0 2 := ⟨⟨gW_in (List.mem_of_getElem? (i := 661) (by rfl)) rfl, gW_in (List.mem_of_getElem? (i := 47) (by decide +kernel)) rfl, by decide +kernel, by decide +kernel⟩, gW_in (List.mem_of_getElem? (i := 660) (by decide +kernel)) rfl, gW_in (List.mem_of_getElem? (i := 21) (by decide +kernel)) rfl, _, rfl, rfl⟩
abbrev mX2_isPlace : rM := (RX2, yX2_isPlace, cX2_isPlace, 1, (some .boolean), 0, 0)
set_option maxRecDepth 100000 in
theorem oX2_isPlace : okM mX2_isPlace 1 := ⟨gW_in (List.mem_of_getElem? (i := 486) (by rfl)) rfl, gW_in (List.mem_of_getElem? (i := 47) (by decide +kernel)) rfl, by decide +kernel, by decide +kernel⟩
theorem sX2_isPlace : Cond.static (mY mX2_isPlace) ∈ gW := gW_in (List.mem_of_getElem? (i := 485) (by decide +kernel)) rfl
abbrev mX3_clear : rM := (RX3, yX3_clear, cX3_clear, 2, none, 0, 0)
set_option maxRecDepth 100000 in
theorem oX3_clear : okV mX3_clear 0 3 := ⟨⟨gW_in (List.mem_of_getElem? (i := 258) (by rfl)) rfl, gW_in (List.mem_of_getElem? (i := 49) (by decide +kernel)) rfl, by decide +kernel, by decide +kernel⟩, gW_in (List.mem_of_getElem? (i := 256) (by decide +kernel)) rfl, gW_in (List.mem_of_getElem? (i := 257) (by decide +kernel)) rfl, _, rfl, rfl⟩
abbrev mX3_hasBurden : rM := (RX3, yX3_hasBurden, cX3_hasBurden, 2, (some .boolean), 1, 21)
set_option maxRecDepth 100000 in
theorem oX3_hasBurden : okV mX3_hasBurden 1 3 := ⟨⟨gW_in (List.mem_of_getElem? (i := 364) (by rfl)) rfl, gW_in (List.mem_of_getElem? (i := 49) (by decide +kernel)) rfl, by decide +kernel, by decide +kernel⟩, gW_in (List.mem_of_getElem? (i := 362) (by decide +kernel)) rfl, gW_in (List.mem_of_getElem? (i := 363) (by decide +kernel)) rfl, _, rfl, rfl⟩
abbrev mX3_tellBurden : rM := (RX3, yX3_tellBurden, cX3_tellBurden, 4, none, 0, 0)
set_option maxRecDepth 100000 in
theorem oX3_tellBurden : okV mX3_tellBurden 3 3 := ⟨⟨gW_in (List.mem_of_getElem? (i := 385) (by rfl)) rfl, gW_in (List.mem_of_getElem? (i := 49) (by decide +kernel)) rfl, by decide +kernel, by decide +kernel⟩, gW_in (List.mem_of_getElem? (i := 383) (by decide +kernel)) rfl, gW_in (List.mem_of_getElem? (i := 384) (by decide +kernel)) rfl, _, rfl, rfl⟩
abbrev mX3_tellSetting : rM := (RX3, yX3_tellSetting, cX3_tellSetting, 3, none, 0, 0)
set_option maxRecDepth 100000 in
theorem oX3_tellSetting : okV mX3_tellSetting 2 3 := ⟨⟨gW_in (List.mem_of_getElem? (i := 393) (by rfl)) rfl, gW_in (List.mem_of_getElem? (i := 49) (by decide +kernel)) rfl, by decide +kernel, by decide +kernel⟩, gW_in (List.mem_of_getElem? (i := 391) (by decide +kernel)) rfl, gW_in (List.mem_of_getElem? (i := 392) (by decide +kernel)) rfl, _, rfl, rfl⟩
abbrev mX3_numberPlaces : rM := (RX3, yX3_numberPlaces, cX3_numberPlaces, 3, none, 0, 0)
set_option maxRecDepth 100000 in
theorem oX3_numberPlaces : okV mX3_numberPlaces 0 3 := ⟨⟨gW_in (List.mem_of_getElem? (i := 401) (by rfl)) rfl, gW_in (List.mem_of_getElem? (i := 49) (by decide +kernel)) rfl, by decide +kernel, by decide +kernel⟩, gW_in (List.mem_of_getElem? (i := 399) (by decide +kernel)) rfl, gW_in (List.mem_of_getElem? (i := 400) (by decide +kernel)) rfl, _, rfl, rfl⟩
abbrev mX3_setting : rM := (RX3, yX3_setting, cX3_setting, 2, (some .int), 0, 0)
set_option maxRecDepth 100000 in
theorem oX3_setting : okV mX3_setting 1 3 := ⟨⟨gW_in (List.mem_of_getElem? (i := 511) (by rfl)) rfl, gW_in (List.mem_of_getElem? (i := 49) (by decide +kernel)) rfl, by decide +kernel, by decide +kernel⟩, gW_in (List.mem_of_getElem? (i := 509) (by decide +kernel)) rfl, gW_in (List.mem_of_getElem? (i := 510) (by decide +kernel)) rfl, _, rfl, rfl⟩
abbrev mX3_places : rM := (RX3, yX3_places, cX3_places, 1, (some .int), 0, 0)
set_option maxRecDepth 100000 in
theorem oX3_places : okV mX3_places 0 3 := ⟨⟨gW_in (List.mem_of_getElem? (i := 409) (by rfl)) rfl, gW_in (List.mem_of_getElem? (i := 49) (by decide +kernel)) rfl, by decide +kernel, by decide +kernel⟩, gW_in (List.mem_of_getElem? (i := 407) (by decide +kernel)) rfl, gW_in (List.mem_of_getElem? (i := 408) (by decide +kernel)) rfl, _, rfl, rfl⟩
abbrev mX3_hasPlace : rM := (RX3, yX3_hasPlace, cX3_hasPlace, 2, (some .boolean), 0, 0)
set_option maxRecDepth 100000 in
theorem oX3_hasPlace : okV mX3_hasPlace 1 3 := ⟨⟨gW_in (List.mem_of_getElem? (i := 474) (by rfl)) rfl, gW_in (List.mem_of_getElem? (i := 49) (by decide +kernel)) rfl, by decide +kernel, by decide +kernel⟩, gW_in (List.mem_of_getElem? (i := 472) (by decide +kernel)) rfl, gW_in (List.mem_of_getElem? (i := 473) (by decide +kernel)) rfl, _, rfl, rfl⟩
abbrev mX3_burdenAt : rM := (RX3, yX3_burdenAt, cX3_burdenAt, 2, (some .int), 1, 21)
set_option maxRecDepth 100000 in
theorem oX3_burdenAt : okV mX3_burdenAt 1 3 := ⟨⟨gW_in (List.mem_of_getElem? (i := 478) (by rfl)) rfl, gW_in (List.mem_of_getElem? (i := 49) (by decide +kernel)) rfl, by decide +kernel, by decide +kernel⟩, gW_in (List.mem_of_getElem? (i := 476) (by decide +kernel)) rfl, gW_in (List.mem_of_getElem? (i := 477) (by decide +kernel)) rfl, _, rfl, rfl⟩
abbrev mX3_partBehind : rM := (RX3, yX3_partBehind, cX3_partBehind, 5, (some .int), 1, 21)
set_option maxRecDepth 100000 in
theorem oX3_partBehind : okV mX3_partBehind 2 3 := ⟨⟨gW_in (List.mem_of_getElem? (i := 657) (by rfl)) rfl, gW_in (List.mem_of_getElem? (i := 49) (by decide +kernel)) rfl, by decide +kernel, by decide +kernel⟩, gW_in (List.mem_of_getElem? (i := 655) (by decide +kernel)) rfl, gW_in (List.mem_of_getElem? (i := 656) (by decide +kernel)) rfl, _, rfl, rfl⟩
abbrev mX3_shareOf : rM := (RX3, yX3_shareOf, cX3_shareOf, 2, (some .int), 0, 0)
set_option maxRecDepth 100000 in
theorem oX3_shareOf : okV mX3_shareOf 1 3 := ⟨⟨gW_in (List.mem_of_getElem? (i := 368) (by rfl)) rfl, gW_in (List.mem_of_getElem? (i := 49) (by decide +kernel)) rfl, by decide +kernel, by decide +kernel⟩, gW_in (List.mem_of_getElem? (i := 367) (by decide +kernel)) rfl, gW_in (List.mem_of_getElem? (i := 9) (by decide +kernel)) rfl, _, rfl, rfl⟩
abbrev mX4_length : rM := (RX4, yX4_length, cX4_length, 1, (some .int), 0, 0)
set_option maxRecDepth 100000 in
theorem oX4_length : okV mX4_length 0 4 := ⟨⟨gW_in (List.mem_of_getElem? (i := 246) (by rfl)) rfl, gW_in (List.mem_of_getElem? (i := 45) (by decide +kernel)) rfl, by decide +kernel, by decide +kernel⟩, gW_in (List.mem_of_getElem? (i := 244) (by decide +kernel)) rfl, gW_in (List.mem_of_getElem? (i := 245) (by decide +kernel)) rfl, _, rfl, rfl⟩
abbrev mX4_hasRoom : rM := (RX4, yX4_hasRoom, cX4_hasRoom, 2, (some .boolean), 0, 0)
set_option maxRecDepth 100000 in
theorem oX4_hasRoom : okV mX4_hasRoom 1 4 := ⟨⟨gW_in (List.mem_of_getElem? (i := 238) (by rfl)) rfl, gW_in (List.mem_of_getElem? (i := 45) (by decide +kernel)) rfl, by decide +kernel, by decide +kernel⟩, gW_in (List.mem_of_getElem? (i := 236) (by decide +kernel)) rfl, gW_in (List.mem_of_getElem? (i := 237) (by decide +kernel)) rfl, _, rfl, rfl⟩
abbrev mX4_append : rM := (RX4, yX4_append, cX4_append, 3, none, 0, 0)
set_option maxRecDepth 100000 in
theorem oX4_append : okV mX4_append 1 4 := ⟨⟨gW_in (List.mem_of_getElem? (i := 242) (by rfl)) rfl, gW_in (List.mem_of_getElem? (i := 45) (by decide +kernel)) rfl, by decide +kernel, by decide +kernel⟩, gW_in (List.mem_of_getElem? (i := 240) (by decide +kernel)) rfl, gW_in (List.mem_of_getElem? (i := 241) (by decide +kernel)) rfl, _, rfl, rfl⟩
abbrev mX4_at : rM := (RX4, yX4_at, cX4_at, 2, (some .int), 0, 0)
set_option maxRecDepth 100000 in
theorem oX4_at : okV mX4_at 1 4 := ⟨⟨gW_in (List.mem_of_getElem? (i := 270) (by rfl)) rfl, gW_in (List.mem_of_getElem? (i := 45) (by decide +kernel)) rfl, by decide +kernel, by decide +kernel⟩, gW_in (List.mem_of_getElem? (i := 268) (by decide +kernel)) rfl, gW_in (List.mem_of_getElem? (i := 269) (by decide +kernel)) rfl, _, rfl, rfl⟩
abbrev mX4_clear : rM := (RX4, yX4_clear, cX4_clear, 1, none, 0, 0)
set_option maxRecDepth 100000 in
theorem oX4_clear : okV mX4_clear 0 4 := ⟨⟨gW_in (List.mem_of_getElem? (i := 405) (by rfl)) rfl, gW_in (List.mem_of_getElem? (i := 45) (by decide +kernel)) rfl, by decide +kernel, by decide +kernel⟩, gW_in (List.mem_of_getElem? (i := 403) (by decide +kernel)) rfl, gW_in (List.mem_of_getElem? (i := 404) (by decide +kernel)) rfl, _, rfl, rfl⟩
abbrev mX5_feed : rM := (RX5, yX5_feed, cX5_feed, 6, (some .int), 1, 22)
set_option maxRecDepth 100000 in
theorem oX5_feed : okV mX5_feed 5 5 := ⟨⟨gW_in (List.mem_of_getElem? (i := 234) (by rfl)) rfl, gW_in (List.mem_of_getElem? (i := 44) (by decide +kernel)) rfl, by decide +kernel, by decide +kernel⟩, gW_in (List.mem_of_getElem? (i := 232) (by decide +kernel)) rfl, gW_in (List.mem_of_getElem? (i := 233) (by decide +kernel)) rfl, _, rfl, rfl⟩
abbrev mX5_statutes : rM := (RX5, yX5_statutes, cX5_statutes, 4, (some .int), 9, 199)
set_option maxRecDepth 100000 in
theorem oX5_statutes : okV mX5_statutes 1 5 := ⟨⟨gW_in (List.mem_of_getElem? (i := 250) (by rfl)) rfl, gW_in (List.mem_of_getElem? (i := 44) (by decide +kernel)) rfl, by decide +kernel, by decide +kernel⟩, gW_in (List.mem_of_getElem? (i := 248) (by decide +kernel)) rfl, gW_in (List.mem_of_getElem? (i := 249) (by decide +kernel)) rfl, _, rfl, rfl⟩
abbrev mX5_fault : rM := (RX5, yX5_fault, cX5_fault, 2, (some .int), 1, 20)
set_option maxRecDepth 100000 in
theorem oX5_fault : okV mX5_fault 1 5 := ⟨⟨gW_in (List.mem_of_getElem? (i := 413) (by rfl)) rfl, gW_in (List.mem_of_getElem? (i := 44) (by decide +kernel)) rfl, by decide +kernel, by decide +kernel⟩, gW_in (List.mem_of_getElem? (i := 411) (by decide +kernel)) rfl, gW_in (List.mem_of_getElem? (i := 412) (by decide +kernel)) rfl, _, rfl, rfl⟩
abbrev mX5_man : rM := (RX5, yX5_man, cX5_man, 3, (some .int), 1, 23)
set_option maxRecDepth 100000 in
theorem oX5_man : okV mX5_man 2 5 := ⟨⟨gW_in (List.mem_of_getElem? (i := 425) (by rfl)) rfl, gW_in (List.mem_of_getElem? (i := 44) (by decide +kernel)) rfl, by decide +kernel, by decide +kernel⟩, gW_in (List.mem_of_getElem? (i := 423) (by decide +kernel)) rfl, gW_in (List.mem_of_getElem? (i := 424) (by decide +kernel)) rfl, _, rfl, rfl⟩
abbrev mX5_found : rM := (RX5, yX5_found, cX5_found, 3, (some .boolean), 2, 43)
set_option maxRecDepth 100000 in
theorem oX5_found : okV mX5_found 2 5 := ⟨⟨gW_in (List.mem_of_getElem? (i := 437) (by rfl)) rfl, gW_in (List.mem_of_getElem? (i := 44) (by decide +kernel)) rfl, by decide +kernel, by decide +kernel⟩, gW_in (List.mem_of_getElem? (i := 435) (by decide +kernel)) rfl, gW_in (List.mem_of_getElem? (i := 436) (by decide +kernel)) rfl, _, rfl, rfl⟩
abbrev mX5_look : rM := (RX5, yX5_look, cX5_look, 3, (some .int), 3, 65)
set_option maxRecDepth 100000 in
theorem oX5_look : okV mX5_look 2 5 := ⟨⟨gW_in (List.mem_of_getElem? (i := 709) (by rfl)) rfl, gW_in (List.mem_of_getElem? (i := 44) (by decide +kernel)) rfl, by decide +kernel, by decide +kernel⟩, gW_in (List.mem_of_getElem? (i := 707) (by decide +kernel)) rfl, gW_in (List.mem_of_getElem? (i := 708) (by decide +kernel)) rfl, _, rfl, rfl⟩
abbrev mX5_richest : rM := (RX5, yX5_richest, cX5_richest, 2, (some .int), 4, 88)
set_option maxRecDepth 100000 in
theorem oX5_richest : okV mX5_richest 1 5 := ⟨⟨gW_in (List.mem_of_getElem? (i := 454) (by rfl)) rfl, gW_in (List.mem_of_getElem? (i := 44) (by decide +kernel)) rfl, by decide +kernel, by decide +kernel⟩, gW_in (List.mem_of_getElem? (i := 452) (by decide +kernel)) rfl, gW_in (List.mem_of_getElem? (i := 453) (by decide +kernel)) rfl, _, rfl, rfl⟩
abbrev mX5_place : rM := (RX5, yX5_place, cX5_place, 3, (some .int), 2, 42)
set_option maxRecDepth 100000 in
theorem oX5_place : okV mX5_place 2 5 := ⟨⟨gW_in (List.mem_of_getElem? (i := 470) (by rfl)) rfl, gW_in (List.mem_of_getElem? (i := 44) (by decide +kernel)) rfl, by decide +kernel, by decide +kernel⟩, gW_in (List.mem_of_getElem? (i := 468) (by decide +kernel)) rfl, gW_in (List.mem_of_getElem? (i := 469) (by decide +kernel)) rfl, _, rfl, rfl⟩
abbrev mX5_begin : rM := (RX5, yX5_begin, cX5_begin, 2, (some .int), 4, 93)
set_option maxRecDepth 100000 in
theorem oX5_begin : okV mX5_begin 0 5 := ⟨⟨gW_in (List.mem_of_getElem? (i := 490) (by rfl)) rfl, gW_in (List.mem_of_getElem? (i := 44) (by decide +kernel)) rfl, by decide +kernel, by decide +kernel⟩, gW_in (List.mem_of_getElem? (i := 488) (by decide +kernel)) rfl, gW_in (List.mem_of_getElem? (i := 489) (by decide +kernel)) rfl, _, rfl, rfl⟩
abbrev mX5_pass : rM := (RX5, yX5_pass, cX5_pass, 2, (some .int), 6, 134)
set_option maxRecDepth 100000 in
theorem oX5_pass : okV mX5_pass 1 5 := ⟨⟨gW_in (List.mem_of_getElem? (i := 519) (by rfl)) rfl, gW_in (List.mem_of_getElem? (i := 44) (by decide +kernel)) rfl, by decide +kernel, by decide +kernel⟩, gW_in (List.mem_of_getElem? (i := 517) (by decide +kernel)) rfl, gW_in (List.mem_of_getElem? (i := 518) (by decide +kernel)) rfl, _, rfl, rfl⟩
abbrev mX5_challenge : rM := (RX5, yX5_challenge, cX5_challenge, 4, (some .int), 4, 86)
set_option maxRecDepth 100000 in
theorem oX5_challenge : okV mX5_challenge 2 5 := ⟨⟨gW_in (List.mem_of_getElem? (i := 556) (by rfl)) rfl, gW_in (List.mem_of_getElem? (i := 44) (by decide +kernel)) rfl, by decide +kernel, by decide +kernel⟩, gW_in (List.mem_of_getElem? (i := 554) (by decide +kernel)) rfl, gW_in (List.mem_of_getElem? (i := 555) (by decide +kernel)) rfl, _, rfl, rfl⟩
abbrev mX5_answer : rM := (RX5, yX5_answer, cX5_answer, 3, (some .boolean), 4, 88)
set_option maxRecDepth 100000 in
theorem oX5_answer : okV mX5_answer 2 5 := ⟨⟨gW_in (List.mem_of_getElem? (i := 586) (by rfl)) rfl, gW_in (List.mem_of_getElem? (i := 44) (by decide +kernel)) rfl, by decide +kernel, by decide +kernel⟩, gW_in (List.mem_of_getElem? (i := 584) (by decide +kernel)) rfl, gW_in (List.mem_of_getElem? (i := 585) (by decide +kernel)) rfl, _, rfl, rfl⟩
abbrev mX5_swear : rM := (RX5, yX5_swear, cX5_swear, 3, (some .boolean), 3, 68)
set_option maxRecDepth 100000 in
theorem oX5_swear : okV mX5_swear 2 5 := ⟨⟨gW_in (List.mem_of_getElem? (i := 599) (by rfl)) rfl, gW_in (List.mem_of_getElem? (i := 44) (by decide +kernel)) rfl, by decide +kernel, by decide +kernel⟩, gW_in (List.mem_of_getElem? (i := 597) (by decide +kernel)) rfl, gW_in (List.mem_of_getElem? (i := 598) (by decide +kernel)) rfl, _, rfl, rfl⟩
abbrev mX5_told : rM := (RX5, yX5_told, cX5_told, 3, (some .int), 4, 85)
set_option maxRecDepth 100000 in
theorem oX5_told : okV mX5_told 2 5 := ⟨⟨gW_in (List.mem_of_getElem? (i := 615) (by rfl)) rfl, gW_in (List.mem_of_getElem? (i := 44) (by decide +kernel)) rfl, by decide +kernel, by decide +kernel⟩, gW_in (List.mem_of_getElem? (i := 613) (by decide +kernel)) rfl, gW_in (List.mem_of_getElem? (i := 614) (by decide +kernel)) rfl, _, rfl, rfl⟩
abbrev mX5_end : rM := (RX5, yX5_end, cX5_end, 2, (some .int), 6, 133)
set_option maxRecDepth 100000 in
theorem oX5_end : okV mX5_end 0 5 := ⟨⟨gW_in (List.mem_of_getElem? (i := 639) (by rfl)) rfl, gW_in (List.mem_of_getElem? (i := 44) (by decide +kernel)) rfl, by decide +kernel, by decide +kernel⟩, gW_in (List.mem_of_getElem? (i := 637) (by decide +kernel)) rfl, gW_in (List.mem_of_getElem? (i := 638) (by decide +kernel)) rfl, _, rfl, rfl⟩
abbrev mX5_part : rM := (RX5, yX5_part, cX5_part, 2, (some .int), 3, 70)
set_option maxRecDepth 100000 in
theorem oX5_part : okV mX5_part 1 5 := ⟨⟨gW_in (List.mem_of_getElem? (i := 665) (by rfl)) rfl, gW_in (List.mem_of_getElem? (i := 44) (by decide +kernel)) rfl, by decide +kernel, by decide +kernel⟩, gW_in (List.mem_of_getElem? (i := 663) (by decide +kernel)) rfl, gW_in (List.mem_of_getElem? (i := 664) (by decide +kernel)) rfl, _, rfl, rfl⟩
abbrev mX5_gain : rM := (RX5, yX5_gain, cX5_gain, 9, (some .int), 3, 70)
set_option maxRecDepth 100000 in
theorem oX5_gain : okV mX5_gain 2 5 := ⟨⟨gW_in (List.mem_of_getElem? (i := 670) (by rfl)) rfl, gW_in (List.mem_of_getElem? (i := 44) (by decide +kernel)) rfl, by decide +kernel, by decide +kernel⟩, gW_in (List.mem_of_getElem? (i := 668) (by decide +kernel)) rfl, gW_in (List.mem_of_getElem? (i := 669) (by decide +kernel)) rfl, _, rfl, rfl⟩
abbrev mX5_ahead : rM := (RX5, yX5_ahead, cX5_ahead, 3, (some .int), 5, 111)
set_option maxRecDepth 100000 in
theorem oX5_ahead : okV mX5_ahead 1 5 := ⟨⟨gW_in (List.mem_of_getElem? (i := 680) (by rfl)) rfl, gW_in (List.mem_of_getElem? (i := 44) (by decide +kernel)) rfl, by decide +kernel, by decide +kernel⟩, gW_in (List.mem_of_getElem? (i := 678) (by decide +kernel)) rfl, gW_in (List.mem_of_getElem? (i := 679) (by decide +kernel)) rfl, _, rfl, rfl⟩
abbrev mX5_count : rM := (RX5, yX5_count, cX5_count, 2, (some .int), 1, 20)
set_option maxRecDepth 100000 in
theorem oX5_count : okV mX5_count 1 5 := ⟨⟨gW_in (List.mem_of_getElem? (i := 692) (by rfl)) rfl, gW_in (List.mem_of_getElem? (i := 44) (by decide +kernel)) rfl, by decide +kernel, by decide +kernel⟩, gW_in (List.mem_of_getElem? (i := 690) (by decide +kernel)) rfl, gW_in (List.mem_of_getElem? (i := 691) (by decide +kernel)) rfl, _, rfl, rfl⟩
abbrev mX5_areCoins : rM := (RX5, yX5_areCoins, cX5_areCoins, 1, (some .boolean), 0, 0)
set_option maxRecDepth 100000 in
theorem oX5_areCoins : okM mX5_areCoins 1 := ⟨gW_in (List.mem_of_getElem? (i := 428) (by rfl)) rfl, gW_in (List.mem_of_getElem? (i := 44) (by decide +kernel)) rfl, by decide +kernel, by decide +kernel⟩
theorem sX5_areCoins : Cond.static (mY mX5_areCoins) ∈ gW := gW_in (List.mem_of_getElem? (i := 427) (by decide +kernel)) rfl
abbrev mX5_isFitNow : rM := (RX5, yX5_isFitNow, cX5_isFitNow, 2, (some .boolean), 2, 44)
set_option maxRecDepth 100000 in
theorem oX5_isFitNow : okV mX5_isFitNow 1 5 := ⟨⟨gW_in (List.mem_of_getElem? (i := 568) (by rfl)) rfl, gW_in (List.mem_of_getElem? (i := 44) (by decide +kernel)) rfl, by decide +kernel, by decide +kernel⟩, gW_in (List.mem_of_getElem? (i := 567) (by decide +kernel)) rfl, gW_in (List.mem_of_getElem? (i := 20) (by decide +kernel)) rfl, _, rfl, rfl⟩
abbrev mX6_thrown : rM := (RX6, yX6_thrown, cX6_thrown, 1, (some .int), 0, 0)
set_option maxRecDepth 100000 in
theorem oX6_thrown : okV mX6_thrown 0 6 := ⟨⟨gW_in (List.mem_of_getElem? (i := 922) (by rfl)) rfl, gW_in (List.mem_of_getElem? (i := 50) (by decide +kernel)) rfl, by decide +kernel, by decide +kernel⟩, gW_in (List.mem_of_getElem? (i := 920) (by decide +kernel)) rfl, gW_in (List.mem_of_getElem? (i := 921) (by decide +kernel)) rfl, _, rfl, rfl⟩
abbrev mX6_feed : rM := (RX6, yX6_feed, cX6_feed, 8, (some .int), 0, 0)
set_option maxRecDepth 100000 in
theorem oX6_feed : okV mX6_feed 5 6 := ⟨⟨gW_in (List.mem_of_getElem? (i := 926) (by rfl)) rfl, gW_in (List.mem_of_getElem? (i := 50) (by decide +kernel)) rfl, by decide +kernel, by decide +kernel⟩, gW_in (List.mem_of_getElem? (i := 924) (by decide +kernel)) rfl, gW_in (List.mem_of_getElem? (i := 925) (by decide +kernel)) rfl, _, rfl, rfl⟩
abbrev mX6_wrong : rM := (RX6, yX6_wrong, cX6_wrong, 3, (some .boolean), 0, 0)
set_option maxRecDepth 100000 in
theorem oX6_wrong : okV mX6_wrong 2 6 := ⟨⟨gW_in (List.mem_of_getElem? (i := 955) (by rfl)) rfl, gW_in (List.mem_of_getElem? (i := 50) (by decide +kernel)) rfl, by decide +kernel, by decide +kernel⟩, gW_in (List.mem_of_getElem? (i := 954) (by decide +kernel)) rfl, gW_in (List.mem_of_getElem? (i := 28) (by decide +kernel)) rfl, _, rfl, rfl⟩
abbrev mX6_wordAt : rM := (RX6, yX6_wordAt, cX6_wordAt, 8, (some .int), 0, 0)
set_option maxRecDepth 100000 in
theorem oX6_wordAt : okV mX6_wordAt 2 6 := ⟨⟨gW_in (List.mem_of_getElem? (i := 942) (by rfl)) rfl, gW_in (List.mem_of_getElem? (i := 50) (by decide +kernel)) rfl, by decide +kernel, by decide +kernel⟩, gW_in (List.mem_of_getElem? (i := 941) (by decide +kernel)) rfl, gW_in (List.mem_of_getElem? (i := 25) (by decide +kernel)) rfl, _, rfl, rfl⟩
abbrev mX6_isSmall : rM := (RX6, yX6_isSmall, cX6_isSmall, 2, (some .boolean), 0, 0)
set_option maxRecDepth 100000 in
theorem oX6_isSmall : okV mX6_isSmall 1 6 := ⟨⟨gW_in (List.mem_of_getElem? (i := 938) (by rfl)) rfl, gW_in (List.mem_of_getElem? (i := 50) (by decide +kernel)) rfl, by decide +kernel, by decide +kernel⟩, gW_in (List.mem_of_getElem? (i := 937) (by decide +kernel)) rfl, gW_in (List.mem_of_getElem? (i := 24) (by decide +kernel)) rfl, _, rfl, rfl⟩
abbrev mX6_isDigit : rM := (RX6, yX6_isDigit, cX6_isDigit, 2, (some .boolean), 0, 0)
set_option maxRecDepth 100000 in
theorem oX6_isDigit : okV mX6_isDigit 1 6 := ⟨⟨gW_in (List.mem_of_getElem? (i := 946) (by rfl)) rfl, gW_in (List.mem_of_getElem? (i := 50) (by decide +kernel)) rfl, by decide +kernel, by decide +kernel⟩, gW_in (List.mem_of_getElem? (i := 945) (by decide +kernel)) rfl, gW_in (List.mem_of_getElem? (i := 26) (by decide +kernel)) rfl, _, rfl, rfl⟩
abbrev mX6_take : rM := (RX6, yX6_take, cX6_take, 1, none, 1, 27)
set_option maxRecDepth 100000 in
theorem oX6_take : okV mX6_take 0 6 := ⟨⟨gW_in (List.mem_of_getElem? (i := 934) (by rfl)) rfl, gW_in (List.mem_of_getElem? (i := 50) (by decide +kernel)) rfl, by decide +kernel, by decide +kernel⟩, gW_in (List.mem_of_getElem? (i := 933) (by decide +kernel)) rfl, gW_in (List.mem_of_getElem? (i := 23) (by decide +kernel)) rfl, _, rfl, rfl⟩
abbrev mX6_word : rM := (RX6, yX6_word, cX6_word, 2, (some .boolean), 2, 47)
set_option maxRecDepth 100000 in
theorem oX6_word : okV mX6_word 1 6 := ⟨⟨gW_in (List.mem_of_getElem? (i := 963) (by rfl)) rfl, gW_in (List.mem_of_getElem? (i := 50) (by decide +kernel)) rfl, by decide +kernel, by decide +kernel⟩, gW_in (List.mem_of_getElem? (i := 962) (by decide +kernel)) rfl, gW_in (List.mem_of_getElem? (i := 30) (by decide +kernel)) rfl, _, rfl, rfl⟩
abbrev mX6_number : rM := (RX6, yX6_number, cX6_number, 3, (some .boolean), 2, 47)
set_option maxRecDepth 100000 in
theorem oX6_number : okV mX6_number 2 6 := ⟨⟨gW_in (List.mem_of_getElem? (i := 967) (by rfl)) rfl, gW_in (List.mem_of_getElem? (i := 50) (by decide +kernel)) rfl, by decide +kernel, by decide +kernel⟩, gW_in (List.mem_of_getElem? (i := 966) (by decide +kernel)) rfl, gW_in (List.mem_of_getElem? (i := 31) (by decide +kernel)) rfl, _, rfl, rfl⟩
abbrev mX6_burdenLine : rM := (RX6, yX6_burdenLine, cX6_burdenLine, 2, (some .boolean), 3, 69)
set_option maxRecDepth 100000 in
theorem oX6_burdenLine : okV mX6_burdenLine 0 6 := ⟨⟨gW_in (List.mem_of_getElem? (i := 959) (by rfl)) rfl, gW_in (List.mem_of_getElem? (i := 50) (by decide +kernel)) rfl, by decide +kernel, by decide +kernel⟩, gW_in (List.mem_of_getElem? (i := 958) (by decide +kernel)) rfl, gW_in (List.mem_of_getElem? (i := 29) (by decide +kernel)) rfl, _, rfl, rfl⟩
abbrev mX6_line : rM := (RX6, yX6_line, cX6_line, 3, (some .boolean), 4, 90)
set_option maxRecDepth 100000 in
theorem oX6_line : okV mX6_line 0 6 := ⟨⟨gW_in (List.mem_of_getElem? (i := 951) (by rfl)) rfl, gW_in (List.mem_of_getElem? (i := 50) (by decide +kernel)) rfl, by decide +kernel, by decide +kernel⟩, gW_in (List.mem_of_getElem? (i := 950) (by decide +kernel)) rfl, gW_in (List.mem_of_getElem? (i := 27) (by decide +kernel)) rfl, _, rfl, rfl⟩
abbrev mX6_statutes : rM := (RX6, yX6_statutes, cX6_statutes, 4, (some .int), 5, 112)
set_option maxRecDepth 100000 in
theorem oX6_statutes : okV mX6_statutes 1 6 := ⟨⟨gW_in (List.mem_of_getElem? (i := 930) (by rfl)) rfl, gW_in (List.mem_of_getElem? (i := 50) (by decide +kernel)) rfl, by decide +kernel, by decide +kernel⟩, gW_in (List.mem_of_getElem? (i := 928) (by decide +kernel)) rfl, gW_in (List.mem_of_getElem? (i := 929) (by decide +kernel)) rfl, _, rfl, rfl⟩
abbrev mX6_fault : rM := (RX6, yX6_fault, cX6_fault, 2, (some .int), 0, 0)
set_option maxRecDepth 100000 in
theorem oX6_fault : okV mX6_fault 1 6 := ⟨⟨gW_in (List.mem_of_getElem? (i := 972) (by rfl)) rfl, gW_in (List.mem_of_getElem? (i := 50) (by decide +kernel)) rfl, by decide +kernel, by decide +kernel⟩, gW_in (List.mem_of_getElem? (i := 970) (by decide +kernel)) rfl, gW_in (List.mem_of_getElem? (i := 971) (by decide +kernel)) rfl, _, rfl, rfl⟩
abbrev mX6_man : rM := (RX6, yX6_man, cX6_man, 3, (some .int), 0, 0)
set_option maxRecDepth 100000 in
theorem oX6_man : okV mX6_man 2 6 := ⟨⟨gW_in (List.mem_of_getElem? (i := 976) (by rfl)) rfl, gW_in (List.mem_of_getElem? (i := 50) (by decide +kernel)) rfl, by decide +kernel, by decide +kernel⟩, gW_in (List.mem_of_getElem? (i := 974) (by decide +kernel)) rfl, gW_in (List.mem_of_getElem? (i := 975) (by decide +kernel)) rfl, _, rfl, rfl⟩
abbrev mX6_isMan : rM := (RX6, yX6_isMan, cX6_isMan, 2, (some .boolean), 0, 0)
set_option maxRecDepth 100000 in
theorem oX6_isMan : okV mX6_isMan 1 6 := ⟨⟨gW_in (List.mem_of_getElem? (i := 984) (by rfl)) rfl, gW_in (List.mem_of_getElem? (i := 50) (by decide +kernel)) rfl, by decide +kernel, by decide +kernel⟩, gW_in (List.mem_of_getElem? (i := 983) (by decide +kernel)) rfl, gW_in (List.mem_of_getElem? (i := 32) (by decide +kernel)) rfl, _, rfl, rfl⟩
abbrev mX6_found : rM := (RX6, yX6_found, cX6_found, 3, (some .boolean), 1, 21)
set_option maxRecDepth 100000 in
theorem oX6_found : okV mX6_found 2 6 := ⟨⟨gW_in (List.mem_of_getElem? (i := 980) (by rfl)) rfl, gW_in (List.mem_of_getElem? (i := 50) (by decide +kernel)) rfl, by decide +kernel, by decide +kernel⟩, gW_in (List.mem_of_getElem? (i := 978) (by decide +kernel)) rfl, gW_in (List.mem_of_getElem? (i := 979) (by decide +kernel)) rfl, _, rfl, rfl⟩
abbrev mX6_bears : rM := (RX6, yX6_bears, cX6_bears, 4, (some .int), 0, 0)
set_option maxRecDepth 100000 in
theorem oX6_bears : okV mX6_bears 2 6 := ⟨⟨gW_in (List.mem_of_getElem? (i := 996) (by rfl)) rfl, gW_in (List.mem_of_getElem? (i := 50) (by decide +kernel)) rfl, by decide +kernel, by decide +kernel⟩, gW_in (List.mem_of_getElem? (i := 995) (by decide +kernel)) rfl, gW_in (List.mem_of_getElem? (i := 34) (by decide +kernel)) rfl, _, rfl, rfl⟩
abbrev mX6_isFit : rM := (RX6, yX6_isFit, cX6_isFit, 5, (some .boolean), 1, 23)
set_option maxRecDepth 100000 in
theorem oX6_isFit : okV mX6_isFit 4 6 := ⟨⟨gW_in (List.mem_of_getElem? (i := 1000) (by rfl)) rfl, gW_in (List.mem_of_getElem? (i := 50) (by decide +kernel)) rfl, by decide +kernel, by decide +kernel⟩, gW_in (List.mem_of_getElem? (i := 999) (by decide +kernel)) rfl, gW_in (List.mem_of_getElem? (i := 35) (by decide +kernel)) rfl, _, rfl, rfl⟩
abbrev mX6_fails : rM := (RX6, yX6_fails, cX6_fails, 2, (some .int), 0, 0)
set_option maxRecDepth 100000 in
theorem oX6_fails : okV mX6_fails 1 6 := ⟨⟨gW_in (List.mem_of_getElem? (i := 992) (by rfl)) rfl, gW_in (List.mem_of_getElem? (i := 50) (by decide +kernel)) rfl, by decide +kernel, by decide +kernel⟩, gW_in (List.mem_of_getElem? (i := 991) (by decide +kernel)) rfl, gW_in (List.mem_of_getElem? (i := 33) (by decide +kernel)) rfl, _, rfl, rfl⟩
abbrev mX6_look : rM := (RX6, yX6_look, cX6_look, 3, (some .int), 2, 47)
set_option maxRecDepth 100000 in
theorem oX6_look : okV mX6_look 2 6 := ⟨⟨gW_in (List.mem_of_getElem? (i := 988) (by rfl)) rfl, gW_in (List.mem_of_getElem? (i := 50) (by decide +kernel)) rfl, by decide +kernel, by decide +kernel⟩, gW_in (List.mem_of_getElem? (i := 986) (by decide +kernel)) rfl, gW_in (List.mem_of_getElem? (i := 987) (by decide +kernel)) rfl, _, rfl, rfl⟩
abbrev mX6_richest : rM := (RX6, yX6_richest, cX6_richest, 5, (some .int), 0, 0)
set_option maxRecDepth 100000 in
theorem oX6_richest : okV mX6_richest 1 6 := ⟨⟨gW_in (List.mem_of_getElem? (i := 1004) (by rfl)) rfl, gW_in (List.mem_of_getElem? (i := 50) (by decide +kernel)) rfl, by decide +kernel, by decide +kernel⟩, gW_in (List.mem_of_getElem? (i := 1002) (by decide +kernel)) rfl, gW_in (List.mem_of_getElem? (i := 1003) (by decide +kernel)) rfl, _, rfl, rfl⟩
abbrev mX6_place : rM := (RX6, yX6_place, cX6_place, 3, (some .int), 0, 0)
set_option maxRecDepth 100000 in
theorem oX6_place : okV mX6_place 2 6 := ⟨⟨gW_in (List.mem_of_getElem? (i := 1008) (by rfl)) rfl, gW_in (List.mem_of_getElem? (i := 50) (by decide +kernel)) rfl, by decide +kernel, by decide +kernel⟩, gW_in (List.mem_of_getElem? (i := 1006) (by decide +kernel)) rfl, gW_in (List.mem_of_getElem? (i := 1007) (by decide +kernel)) rfl, _, rfl, rfl⟩
abbrev mX6_fill : rM := (RX6, yX6_fill, cX6_fill, 8, (some .int), 2, 47)
set_option maxRecDepth 100000 in
theorem oX6_fill : okV mX6_fill 3 6 := ⟨⟨gW_in (List.mem_of_getElem? (i := 1016) (by rfl)) rfl, gW_in (List.mem_of_getElem? (i := 50) (by decide +kernel)) rfl, by decide +kernel, by decide +kernel⟩, gW_in (List.mem_of_getElem? (i := 1015) (by decide +kernel)) rfl, gW_in (List.mem_of_getElem? (i := 36) (by decide +kernel)) rfl, _, rfl, rfl⟩
abbrev mX6_begin : rM := (RX6, yX6_begin, cX6_begin, 3, (some .int), 3, 74)
set_option maxRecDepth 100000 in
theorem oX6_begin : okV mX6_begin 0 6 := ⟨⟨gW_in (List.mem_of_getElem? (i := 1012) (by rfl)) rfl, gW_in (List.mem_of_getElem? (i := 50) (by decide +kernel)) rfl, by decide +kernel, by decide +kernel⟩, gW_in (List.mem_of_getElem? (i := 1010) (by decide +kernel)) rfl, gW_in (List.mem_of_getElem? (i := 1011) (by decide +kernel)) rfl, _, rfl, rfl⟩
abbrev mX6_pays : rM := (RX6, yX6_pays, cX6_pays, 6, (some .int), 0, 0)
set_option maxRecDepth 100000 in
theorem oX6_pays : okV mX6_pays 2 6 := ⟨⟨gW_in (List.mem_of_getElem? (i := 1064) (by rfl)) rfl, gW_in (List.mem_of_getElem? (i := 50) (by decide +kernel)) rfl, by decide +kernel, by decide +kernel⟩, gW_in (List.mem_of_getElem? (i := 1063) (by decide +kernel)) rfl, gW_in (List.mem_of_getElem? (i := 42) (by decide +kernel)) rfl, _, rfl, rfl⟩
abbrev mX6_ends : rM := (RX6, yX6_ends, cX6_ends, 8, (some .int), 1, 25)
set_option maxRecDepth 100000 in
theorem oX6_ends : okV mX6_ends 3 6 := ⟨⟨gW_in (List.mem_of_getElem? (i := 1060) (by rfl)) rfl, gW_in (List.mem_of_getElem? (i := 50) (by decide +kernel)) rfl, by decide +kernel, by decide +kernel⟩, gW_in (List.mem_of_getElem? (i := 1059) (by decide +kernel)) rfl, gW_in (List.mem_of_getElem? (i := 41) (by decide +kernel)) rfl, _, rfl, rfl⟩
abbrev mX6_isOpen : rM := (RX6, yX6_isOpen, cX6_isOpen, 2, (some .boolean), 0, 0)
set_option maxRecDepth 100000 in
theorem oX6_isOpen : okV mX6_isOpen 1 6 := ⟨⟨gW_in (List.mem_of_getElem? (i := 1024) (by rfl)) rfl, gW_in (List.mem_of_getElem? (i := 50) (by decide +kernel)) rfl, by decide +kernel, by decide +kernel⟩, gW_in (List.mem_of_getElem? (i := 1023) (by decide +kernel)) rfl, gW_in (List.mem_of_getElem? (i := 37) (by decide +kernel)) rfl, _, rfl, rfl⟩
abbrev mX6_goesOver : rM := (RX6, yX6_goesOver, cX6_goesOver, 2, (some .boolean), 0, 0)
set_option maxRecDepth 100000 in
theorem oX6_goesOver : okV mX6_goesOver 1 6 := ⟨⟨gW_in (List.mem_of_getElem? (i := 1032) (by rfl)) rfl, gW_in (List.mem_of_getElem? (i := 50) (by decide +kernel)) rfl, by decide +kernel, by decide +kernel⟩, gW_in (List.mem_of_getElem? (i := 1031) (by decide +kernel)) rfl, gW_in (List.mem_of_getElem? (i := 39) (by decide +kernel)) rfl, _, rfl, rfl⟩
abbrev mX6_over : rM := (RX6, yX6_over, cX6_over, 2, none, 0, 0)
set_option maxRecDepth 100000 in
theorem oX6_over : okV mX6_over 1 6 := ⟨⟨gW_in (List.mem_of_getElem? (i := 1036) (by rfl)) rfl, gW_in (List.mem_of_getElem? (i := 50) (by decide +kernel)) rfl, by decide +kernel, by decide +kernel⟩, gW_in (List.mem_of_getElem? (i := 1035) (by decide +kernel)) rfl, gW_in (List.mem_of_getElem? (i := 40) (by decide +kernel)) rfl, _, rfl, rfl⟩
abbrev mX6_judge : rM := (RX6, yX6_judge, cX6_judge, 3, none, 1, 21)
set_option maxRecDepth 100000 in
theorem oX6_judge : okV mX6_judge 1 6 := ⟨⟨gW_in (List.mem_of_getElem? (i := 1028) (by rfl)) rfl, gW_in (List.mem_of_getElem? (i := 50) (by decide +kernel)) rfl, by decide +kernel, by decide +kernel⟩, gW_in (List.mem_of_getElem? (i := 1027) (by decide +kernel)) rfl, gW_in (List.mem_of_getElem? (i := 38) (by decide +kernel)) rfl, _, rfl, rfl⟩
abbrev mX6_pass : rM := (RX6, yX6_pass, cX6_pass, 3, (some .int), 2, 43)
set_option maxRecDepth 100000 in
theorem oX6_pass : okV mX6_pass 1 6 := ⟨⟨gW_in (List.mem_of_getElem? (i := 1020) (by rfl)) rfl, gW_in (List.mem_of_getElem? (i := 50) (by decide +kernel)) rfl, by decide +kernel, by decide +kernel⟩, gW_in (List.mem_of_getElem? (i := 1018) (by decide +kernel)) rfl, gW_in (List.mem_of_getElem? (i := 1019) (by decide +kernel)) rfl, _, rfl, rfl⟩
abbrev mX6_challenge : rM := (RX6, yX6_challenge, cX6_challenge, 5, (some .int), 2, 47)
set_option maxRecDepth 100000 in
theorem oX6_challenge : okV mX6_challenge 2 6 := ⟨⟨gW_in (List.mem_of_getElem? (i := 1040) (by rfl)) rfl, gW_in (List.mem_of_getElem? (i := 50) (by decide +kernel)) rfl, by decide +kernel, by decide +kernel⟩, gW_in (List.mem_of_getElem? (i := 1038) (by decide +kernel)) rfl, gW_in (List.mem_of_getElem? (i := 1039) (by decide +kernel)) rfl, _, rfl, rfl⟩
abbrev mX6_answer : rM := (RX6, yX6_answer, cX6_answer, 3, (some .boolean), 1, 21)
set_option maxRecDepth 100000 in
theorem oX6_answer : okV mX6_answer 2 6 := ⟨⟨gW_in (List.mem_of_getElem? (i := 1044) (by rfl)) rfl, gW_in (List.mem_of_getElem? (i := 50) (by decide +kernel)) rfl, by decide +kernel, by decide +kernel⟩, gW_in (List.mem_of_getElem? (i := 1042) (by decide +kernel)) rfl, gW_in (List.mem_of_getElem? (i := 1043) (by decide +kernel)) rfl, _, rfl, rfl⟩
abbrev mX6_swear : rM := (RX6, yX6_swear, cX6_swear, 7, (some .boolean), 0, 0)
set_option maxRecDepth 100000 in
theorem oX6_swear : okV mX6_swear 2 6 := ⟨⟨gW_in (List.mem_of_getElem? (i := 1048) (by rfl)) rfl, gW_in (List.mem_of_getElem? (i := 50) (by decide +kernel)) rfl, by decide +kernel, by decide +kernel⟩, gW_in (List.mem_of_getElem? (i := 1046) (by decide +kernel)) rfl, gW_in (List.mem_of_getElem? (i := 1047) (by decide +kernel)) rfl, _, rfl, rfl⟩
abbrev mX6_told : rM := (RX6, yX6_told, cX6_told, 3, (some .int), 1, 21)
set_option maxRecDepth 100000 in
theorem oX6_told : okV mX6_told 2 6 := ⟨⟨gW_in (List.mem_of_getElem? (i := 1052) (by rfl)) rfl, gW_in (List.mem_of_getElem? (i := 50) (by decide +kernel)) rfl, by decide +kernel, by decide +kernel⟩, gW_in (List.mem_of_getElem? (i := 1050) (by decide +kernel)) rfl, gW_in (List.mem_of_getElem? (i := 1051) (by decide +kernel)) rfl, _, rfl, rfl⟩
abbrev mX6_end : rM := (RX6, yX6_end, cX6_end, 2, (some .int), 2, 52)
set_option maxRecDepth 100000 in
theorem oX6_end : okV mX6_end 0 6 := ⟨⟨gW_in (List.mem_of_getElem? (i := 1056) (by rfl)) rfl, gW_in (List.mem_of_getElem? (i := 50) (by decide +kernel)) rfl, by decide +kernel, by decide +kernel⟩, gW_in (List.mem_of_getElem? (i := 1054) (by decide +kernel)) rfl, gW_in (List.mem_of_getElem? (i := 1055) (by decide +kernel)) rfl, _, rfl, rfl⟩
abbrev mX6_part : rM := (RX6, yX6_part, cX6_part, 2, (some .int), 1, 25)
set_option maxRecDepth 100000 in
theorem oX6_part : okV mX6_part 1 6 := ⟨⟨gW_in (List.mem_of_getElem? (i := 1068) (by rfl)) rfl, gW_in (List.mem_of_getElem? (i := 50) (by decide +kernel)) rfl, by decide +kernel, by decide +kernel⟩, gW_in (List.mem_of_getElem? (i := 1066) (by decide +kernel)) rfl, gW_in (List.mem_of_getElem? (i := 1067) (by decide +kernel)) rfl, _, rfl, rfl⟩
abbrev mX6_gain : rM := (RX6, yX6_gain, cX6_gain, 7, (some .int), 1, 25)
set_option maxRecDepth 100000 in
theorem oX6_gain : okV mX6_gain 2 6 := ⟨⟨gW_in (List.mem_of_getElem? (i := 1072) (by rfl)) rfl, gW_in (List.mem_of_getElem? (i := 50) (by decide +kernel)) rfl, by decide +kernel, by decide +kernel⟩, gW_in (List.mem_of_getElem? (i := 1070) (by decide +kernel)) rfl, gW_in (List.mem_of_getElem? (i := 1071) (by decide +kernel)) rfl, _, rfl, rfl⟩
abbrev mX6_ahead : rM := (RX6, yX6_ahead, cX6_ahead, 5, (some .int), 3, 74)
set_option maxRecDepth 100000 in
theorem oX6_ahead : okV mX6_ahead 1 6 := ⟨⟨gW_in (List.mem_of_getElem? (i := 1077) (by rfl)) rfl, gW_in (List.mem_of_getElem? (i := 50) (by decide +kernel)) rfl, by decide +kernel, by decide +kernel⟩, gW_in (List.mem_of_getElem? (i := 1075) (by decide +kernel)) rfl, gW_in (List.mem_of_getElem? (i := 1076) (by decide +kernel)) rfl, _, rfl, rfl⟩
abbrev mX6_count : rM := (RX6, yX6_count, cX6_count, 2, (some .int), 0, 0)
set_option maxRecDepth 100000 in
theorem oX6_count : okV mX6_count 1 6 := ⟨⟨gW_in (List.mem_of_getElem? (i := 1081) (by rfl)) rfl, gW_in (List.mem_of_getElem? (i := 50) (by decide +kernel)) rfl, by decide +kernel, by decide +kernel⟩, gW_in (List.mem_of_getElem? (i := 1079) (by decide +kernel)) rfl, gW_in (List.mem_of_getElem? (i := 1080) (by decide +kernel)) rfl, _, rfl, rfl⟩
abbrev mJ9_min_7cf53 : rM := (RJ9, yJ9_min_7cf53, cJ9_min_7cf53, 2, (some .int), 0, 0)
set_option maxRecDepth 100000 in
theorem oJ9_min_7cf53 : okM mJ9_min_7cf53 2 := ⟨gW_in (List.mem_of_getElem? (i := 380) (by rfl)) rfl, gW_in (List.mem_of_getElem? (i := 55) (by decide +kernel)) rfl, by decide +kernel, by decide +kernel⟩
theorem sJ9_min_7cf53 : Cond.static (mY mJ9_min_7cf53) ∈ gW := gW_in (List.mem_of_getElem? (i := 379) (by decide +kernel)) rfl
abbrev mJ0_length_8abf5 : rM := (RJ0, yJ0_length_8abf5, cJ0_length_8abf5, 1, (some .int), 1, 20)
set_option maxRecDepth 100000 in
theorem oJ0_length_8abf5 : okM mJ0_length_8abf5 0 := ⟨gW_in (List.mem_of_getElem? (i := 299) (by rfl)) rfl, gW_in (List.mem_of_getElem? (i := 51) (by decide +kernel)) rfl, by decide +kernel, by decide +kernel⟩
theorem oiJ0_length_8abf5 : Cond.instanceMethod (mY mJ0_length_8abf5) ∈ gW ∧ Cond.selects (mY mJ0_length_8abf5).cls (mY mJ0_length_8abf5) (mY mJ0_length_8abf5) ∈ gW := ⟨gW_in (List.mem_of_getElem? (i := 297) (by decide +kernel)) rfl, gW_in (List.mem_of_getElem? (i := 298) (by decide +kernel)) rfl⟩
abbrev mJ0_charAt_5068e : rM := (RJ0, yJ0_charAt_5068e, cJ0_charAt_5068e, 2, (some .char), 3, 64)
set_option maxRecDepth 100000 in
theorem oJ0_charAt_5068e : okM mJ0_charAt_5068e 1 := ⟨gW_in (List.mem_of_getElem? (i := 309) (by rfl)) rfl, gW_in (List.mem_of_getElem? (i := 51) (by decide +kernel)) rfl, by decide +kernel, by decide +kernel⟩
theorem oiJ0_charAt_5068e : Cond.instanceMethod (mY mJ0_charAt_5068e) ∈ gW ∧ Cond.selects (mY mJ0_charAt_5068e).cls (mY mJ0_charAt_5068e) (mY mJ0_charAt_5068e) ∈ gW := ⟨gW_in (List.mem_of_getElem? (i := 307) (by decide +kernel)) rfl, gW_in (List.mem_of_getElem? (i := 308) (by decide +kernel)) rfl⟩
abbrev mJ0_coder_7d493 : rM := (RJ0, yJ0_coder_7d493, cJ0_coder_7d493, 1, (some .byte), 0, 0)
set_option maxRecDepth 100000 in
theorem oJ0_coder_7d493 : okM mJ0_coder_7d493 0 := ⟨gW_in (List.mem_of_getElem? (i := 303) (by rfl)) rfl, gW_in (List.mem_of_getElem? (i := 51) (by decide +kernel)) rfl, by decide +kernel, by decide +kernel⟩
theorem oiJ0_coder_7d493 : Cond.instanceMethod (mY mJ0_coder_7d493) ∈ gW ∧ Cond.selects (mY mJ0_coder_7d493).cls (mY mJ0_coder_7d493) (mY mJ0_coder_7d493) ∈ gW := ⟨gW_in (List.mem_of_getElem? (i := 301) (by decide +kernel)) rfl, gW_in (List.mem_of_getElem? (i := 302) (by decide +kernel)) rfl⟩
abbrev mJ0_isLatin1_aae02 : rM := (RJ0, yJ0_isLatin1_aae02, cJ0_isLatin1_aae02, 1, (some .boolean), 0, 0)
set_option maxRecDepth 100000 in
theorem oJ0_isLatin1_aae02 : okM mJ0_isLatin1_aae02 0 := ⟨gW_in (List.mem_of_getElem? (i := 313) (by rfl)) rfl, gW_in (List.mem_of_getElem? (i := 51) (by decide +kernel)) rfl, by decide +kernel, by decide +kernel⟩
theorem oiJ0_isLatin1_aae02 : Cond.instanceMethod (mY mJ0_isLatin1_aae02) ∈ gW ∧ Cond.selects (mY mJ0_isLatin1_aae02).cls (mY mJ0_isLatin1_aae02) (mY mJ0_isLatin1_aae02) ∈ gW := ⟨gW_in (List.mem_of_getElem? (i := 311) (by decide +kernel)) rfl, gW_in (List.mem_of_getElem? (i := 312) (by decide +kernel)) rfl⟩
abbrev mJ0_checkIndex_df160 : rM := (RJ0, yJ0_checkIndex_df160, cJ0_checkIndex_df160, 2, none, 1, 22)
set_option maxRecDepth 100000 in
theorem oJ0_checkIndex_df160 : okM mJ0_checkIndex_df160 2 := ⟨gW_in (List.mem_of_getElem? (i := 319) (by rfl)) rfl, gW_in (List.mem_of_getElem? (i := 51) (by decide +kernel)) rfl, by decide +kernel, by decide +kernel⟩
theorem sJ0_checkIndex_df160 : Cond.static (mY mJ0_checkIndex_df160) ∈ gW := gW_in (List.mem_of_getElem? (i := 318) (by decide +kernel)) rfl
abbrev mJ1_charAt_3b067 : rM := (RJ1, yJ1_charAt_3b067, cJ1_charAt_3b067, 2, (some .char), 2, 43)
set_option maxRecDepth 100000 in
theorem oJ1_charAt_3b067 : okM mJ1_charAt_3b067 2 := ⟨gW_in (List.mem_of_getElem? (i := 316) (by rfl)) rfl, gW_in (List.mem_of_getElem? (i := 52) (by decide +kernel)) rfl, by decide +kernel, by decide +kernel⟩
theorem sJ1_charAt_3b067 : Cond.static (mY mJ1_charAt_3b067) ∈ gW := gW_in (List.mem_of_getElem? (i := 315) (by decide +kernel)) rfl
abbrev mJ3_checkIndex_8e157 : rM := (RJ3, yJ3_checkIndex_8e157, cJ3_checkIndex_8e157, 3, (some .int), 0, 0)
set_option maxRecDepth 100000 in
theorem oJ3_checkIndex_8e157 : okM mJ3_checkIndex_8e157 3 := ⟨gW_in (List.mem_of_getElem? (i := 324) (by rfl)) rfl, gW_in (List.mem_of_getElem? (i := 53) (by decide +kernel)) rfl, by decide +kernel, by decide +kernel⟩
theorem sJ3_checkIndex_8e157 : Cond.static (mY mJ3_checkIndex_8e157) ∈ gW := gW_in (List.mem_of_getElem? (i := 323) (by decide +kernel)) rfl
theorem fX0_37 : Cond.fieldLink RX0 37 (TX0 8).1 (TX0 8).2.1 (TX0 8).2.2.1 ∈ gW := gW_in (List.mem_of_getElem? (i := 155) (by decide +kernel)) rfl
theorem fX0_9 : Cond.fieldLink RX0 9 (TX0 0).1 (TX0 0).2.1 (TX0 0).2.2.1 ∈ gW := gW_in (List.mem_of_getElem? (i := 147) (by decide +kernel)) rfl
theorem fX0_15 : Cond.fieldLink RX0 15 (TX0 1).1 (TX0 1).2.1 (TX0 1).2.2.1 ∈ gW := gW_in (List.mem_of_getElem? (i := 148) (by decide +kernel)) rfl
theorem fX0_18 : Cond.fieldLink RX0 18 (TX0 2).1 (TX0 2).2.1 (TX0 2).2.2.1 ∈ gW := gW_in (List.mem_of_getElem? (i := 149) (by decide +kernel)) rfl
theorem fX0_21 : Cond.fieldLink RX0 21 (TX0 3).1 (TX0 3).2.1 (TX0 3).2.2.1 ∈ gW := gW_in (List.mem_of_getElem? (i := 150) (by decide +kernel)) rfl
theorem fX0_24 : Cond.fieldLink RX0 24 (TX0 4).1 (TX0 4).2.1 (TX0 4).2.2.1 ∈ gW := gW_in (List.mem_of_getElem? (i := 151) (by decide +kernel)) rfl
theorem fX0_27 : Cond.fieldLink RX0 27 (TX0 5).1 (TX0 5).2.1 (TX0 5).2.2.1 ∈ gW := gW_in (List.mem_of_getElem? (i := 152) (by decide +kernel)) rfl
theorem fX0_30 : Cond.fieldLink RX0 30 (TX0 6).1 (TX0 6).2.1 (TX0 6).2.2.1 ∈ gW := gW_in (List.mem_of_getElem? (i := 153) (by decide +kernel)) rfl
theorem fX0_34 : Cond.fieldLink RX0 34 (TX0 7).1 (TX0 7).2.1 (TX0 7).2.2.1 ∈ gW := gW_in (List.mem_of_getElem? (i := 154) (by decide +kernel)) rfl
theorem lX0_41 : Cond.methodLink RX0 41 yX0_has ∈ gW := gW_in (List.mem_of_getElem? (i := 532) (by decide +kernel)) rfl
theorem lX0_45 : Cond.methodLink RX0 45 yX0_isRunning ∈ gW := gW_in (List.mem_of_getElem? (i := 524) (by decide +kernel)) rfl
theorem lX0_48 : Cond.methodLink RX0 48 yX2_handOver ∈ gW := gW_in (List.mem_of_getElem? (i := 549) (by decide +kernel)) rfl
theorem lX0_54 : Cond.methodLink RX0 54 yX2_exchangeEstates ∈ gW := gW_in (List.mem_of_getElem? (i := 608) (by decide +kernel)) rfl
theorem lX0_58 : Cond.methodLink RX0 58 yX0_judge ∈ gW := gW_in (List.mem_of_getElem? (i := 536) (by decide +kernel)) rfl
theorem lX0_62 : Cond.methodLink RX0 62 yX0_verdictOn ∈ gW := gW_in (List.mem_of_getElem? (i := 540) (by decide +kernel)) rfl
theorem lX0_66 : Cond.methodLink RX0 66 yX0_carryOut ∈ gW := gW_in (List.mem_of_getElem? (i := 545) (by decide +kernel)) rfl
theorem lX0_70 : Cond.methodLink RX0 70 yX2_declaredOf ∈ gW := gW_in (List.mem_of_getElem? (i := 544) (by decide +kernel)) rfl
theorem lX0_74 : Cond.methodLink RX0 74 yX0_standingOf ∈ gW := gW_in (List.mem_of_getElem? (i := 528) (by decide +kernel)) rfl
theorem fX1_26 : Cond.fieldLink RX1 26 (TX1 4).1 (TX1 4).2.1 (TX1 4).2.2.1 ∈ gW := gW_in (List.mem_of_getElem? (i := 93) (by decide +kernel)) rfl
theorem fX1_29 : Cond.fieldLink RX1 29 (TX1 5).1 (TX1 5).2.1 (TX1 5).2.2.1 ∈ gW := gW_in (List.mem_of_getElem? (i := 94) (by decide +kernel)) rfl
theorem fX1_19 : Cond.fieldLink RX1 19 (TX1 2).1 (TX1 2).2.1 (TX1 2).2.2.1 ∈ gW := gW_in (List.mem_of_getElem? (i := 91) (by decide +kernel)) rfl
theorem fX1_23 : Cond.fieldLink RX1 23 (TX1 3).1 (TX1 3).2.1 (TX1 3).2.2.1 ∈ gW := gW_in (List.mem_of_getElem? (i := 92) (by decide +kernel)) rfl
theorem fX1_15 : Cond.fieldLink RX1 15 (TX1 1).1 (TX1 1).2.1 (TX1 1).2.2.1 ∈ gW := gW_in (List.mem_of_getElem? (i := 90) (by decide +kernel)) rfl
theorem lX1_32 : Cond.methodLink RX1 32 yX3_clear ∈ gW := gW_in (List.mem_of_getElem? (i := 255) (by decide +kernel)) rfl
theorem lX1_37 : Cond.methodLink RX1 37 yX1_isSound ∈ gW := gW_in (List.mem_of_getElem? (i := 259) (by decide +kernel)) rfl
theorem lX1_41 : Cond.methodLink RX1 41 yX1_nextSign ∈ gW := gW_in (List.mem_of_getElem? (i := 263) (by decide +kernel)) rfl
theorem lX1_45 : Cond.methodLink RX1 45 yX1_readLine ∈ gW := gW_in (List.mem_of_getElem? (i := 274) (by decide +kernel)) rfl
theorem lX1_49 : Cond.methodLink RX1 49 yX3_numberPlaces ∈ gW := gW_in (List.mem_of_getElem? (i := 398) (by decide +kernel)) rfl
theorem lX1_52 : Cond.methodLink RX1 52 yX1_passSettingWord ∈ gW := gW_in (List.mem_of_getElem? (i := 278) (by decide +kernel)) rfl
theorem lX1_55 : Cond.methodLink RX1 55 yX1_readBurden ∈ gW := gW_in (List.mem_of_getElem? (i := 344) (by decide +kernel)) rfl
theorem lX1_58 : Cond.methodLink RX1 58 yX1_blame ∈ gW := gW_in (List.mem_of_getElem? (i := 353) (by decide +kernel)) rfl
theorem lX1_62 : Cond.methodLink RX1 62 yX1_mostOf ∈ gW := gW_in (List.mem_of_getElem? (i := 386) (by decide +kernel)) rfl
theorem lX1_66 : Cond.methodLink RX1 66 yX1_expectNumber ∈ gW := gW_in (List.mem_of_getElem? (i := 370) (by decide +kernel)) rfl
theorem lX1_70 : Cond.methodLink RX1 70 yX3_tellSetting ∈ gW := gW_in (List.mem_of_getElem? (i := 390) (by decide +kernel)) rfl
theorem lX1_73 : Cond.methodLink RX1 73 yX1_expectSemicolon ∈ gW := gW_in (List.mem_of_getElem? (i := 394) (by decide +kernel)) rfl
theorem lX1_78 : Cond.methodLink RX1 78 yX1_expectWord ∈ gW := gW_in (List.mem_of_getElem? (i := 349) (by decide +kernel)) rfl
theorem lX1_82 : Cond.methodLink RX1 82 yX1_expectNewName ∈ gW := gW_in (List.mem_of_getElem? (i := 357) (by decide +kernel)) rfl
theorem lX1_90 : Cond.methodLink RX1 90 yX3_tellBurden ∈ gW := gW_in (List.mem_of_getElem? (i := 382) (by decide +kernel)) rfl
theorem lX1_94 : Cond.methodLink RX1 94 yX1_wordOf ∈ gW := gW_in (List.mem_of_getElem? (i := 282) (by decide +kernel)) rfl
theorem lX1_98 : Cond.methodLink RX1 98 yX1_passWord ∈ gW := gW_in (List.mem_of_getElem? (i := 289) (by decide +kernel)) rfl
theorem lX1_102 : Cond.methodLink RX1 102 yX3_hasBurden ∈ gW := gW_in (List.mem_of_getElem? (i := 361) (by decide +kernel)) rfl
theorem lX1_106 : Cond.methodLink RX1 106 yX1_isDigit ∈ gW := gW_in (List.mem_of_getElem? (i := 374) (by decide +kernel)) rfl
theorem fX1_9 : Cond.fieldLink RX1 9 (TX1 0).1 (TX1 0).2.1 (TX1 0).2.2.1 ∈ gW := gW_in (List.mem_of_getElem? (i := 89) (by decide +kernel)) rfl
theorem lX1_109 : Cond.methodLink RX1 109 yX4_at ∈ gW := gW_in (List.mem_of_getElem? (i := 267) (by decide +kernel)) rfl
theorem lX1_115 : Cond.methodLink RX1 115 yJ9_min_7cf53 ∈ gW := gW_in (List.mem_of_getElem? (i := 378) (by decide +kernel)) rfl
theorem lX1_120 : Cond.methodLink RX1 120 yX1_isBlank ∈ gW := gW_in (List.mem_of_getElem? (i := 271) (by decide +kernel)) rfl
theorem lX1_123 : Cond.methodLink RX1 123 yX1_isSmallLetter ∈ gW := gW_in (List.mem_of_getElem? (i := 293) (by decide +kernel)) rfl
theorem lX1_126 : Cond.methodLink RX1 126 yJ0_length_8abf5 ∈ gW := gW_in (List.mem_of_getElem? (i := 296) (by decide +kernel)) rfl
theorem lX1_131 : Cond.methodLink RX1 131 yJ0_charAt_5068e ∈ gW := gW_in (List.mem_of_getElem? (i := 306) (by decide +kernel)) rfl
theorem fX2_33 : Cond.fieldLink RX2 33 (TX2 7).1 (TX2 7).2.1 (TX2 7).2.2.1 ∈ gW := gW_in (List.mem_of_getElem? (i := 122) (by decide +kernel)) rfl
theorem fX2_9 : Cond.fieldLink RX2 9 (TX2 0).1 (TX2 0).2.1 (TX2 0).2.2.1 ∈ gW := gW_in (List.mem_of_getElem? (i := 115) (by decide +kernel)) rfl
theorem fX2_15 : Cond.fieldLink RX2 15 (TX2 1).1 (TX2 1).2.1 (TX2 1).2.2.1 ∈ gW := gW_in (List.mem_of_getElem? (i := 116) (by decide +kernel)) rfl
theorem fX2_18 : Cond.fieldLink RX2 18 (TX2 2).1 (TX2 2).2.1 (TX2 2).2.2.1 ∈ gW := gW_in (List.mem_of_getElem? (i := 117) (by decide +kernel)) rfl
theorem fX2_21 : Cond.fieldLink RX2 21 (TX2 3).1 (TX2 3).2.1 (TX2 3).2.2.1 ∈ gW := gW_in (List.mem_of_getElem? (i := 118) (by decide +kernel)) rfl
theorem fX2_24 : Cond.fieldLink RX2 24 (TX2 4).1 (TX2 4).2.1 (TX2 4).2.2.1 ∈ gW := gW_in (List.mem_of_getElem? (i := 119) (by decide +kernel)) rfl
theorem fX2_27 : Cond.fieldLink RX2 27 (TX2 5).1 (TX2 5).2.1 (TX2 5).2.2.1 ∈ gW := gW_in (List.mem_of_getElem? (i := 120) (by decide +kernel)) rfl
theorem fX2_30 : Cond.fieldLink RX2 30 (TX2 6).1 (TX2 6).2.1 (TX2 6).2.2.1 ∈ gW := gW_in (List.mem_of_getElem? (i := 121) (by decide +kernel)) rfl
theorem lX2_37 : Cond.methodLink RX2 37 yX2_has ∈ gW := gW_in (List.mem_of_getElem? (i := 446) (by decide +kernel)) rfl
theorem lX2_41 : Cond.methodLink RX2 41 yX2_declaredOf ∈ gW := gW_in (List.mem_of_getElem? (i := 463) (by decide +kernel)) rfl
theorem lX2_45 : Cond.methodLink RX2 45 yX2_hiddenOf ∈ gW := gW_in (List.mem_of_getElem? (i := 676) (by decide +kernel)) rfl
theorem lX2_48 : Cond.methodLink RX2 48 yX2_isPlace ∈ gW := gW_in (List.mem_of_getElem? (i := 484) (by decide +kernel)) rfl
theorem lX2_51 : Cond.methodLink RX2 51 yX2_rankOf ∈ gW := gW_in (List.mem_of_getElem? (i := 459) (by decide +kernel)) rfl
theorem lX2_54 : Cond.methodLink RX2 54 yX3_setting ∈ gW := gW_in (List.mem_of_getElem? (i := 508) (by decide +kernel)) rfl
theorem lX2_59 : Cond.methodLink RX2 59 yX3_places ∈ gW := gW_in (List.mem_of_getElem? (i := 499) (by decide +kernel)) rfl
theorem lX2_63 : Cond.methodLink RX2 63 yX2_richestFit ∈ gW := gW_in (List.mem_of_getElem? (i := 500) (by decide +kernel)) rfl
theorem lX2_67 : Cond.methodLink RX2 67 yX2_layOn ∈ gW := gW_in (List.mem_of_getElem? (i := 512) (by decide +kernel)) rfl
theorem lX2_71 : Cond.methodLink RX2 71 yX2_isFit ∈ gW := gW_in (List.mem_of_getElem? (i := 504) (by decide +kernel)) rfl
theorem lX2_75 : Cond.methodLink RX2 75 yX3_burdenAt ∈ gW := gW_in (List.mem_of_getElem? (i := 653) (by decide +kernel)) rfl
theorem lX2_78 : Cond.methodLink RX2 78 yX3_partBehind ∈ gW := gW_in (List.mem_of_getElem? (i := 654) (by decide +kernel)) rfl
theorem lX2_82 : Cond.methodLink RX2 82 yX2_bearerAt ∈ gW := gW_in (List.mem_of_getElem? (i := 648) (by decide +kernel)) rfl
theorem lX2_84 : Cond.methodLink RX2 84 yX2_partAt ∈ gW := gW_in (List.mem_of_getElem? (i := 649) (by decide +kernel)) rfl
theorem lX2_87 : Cond.methodLink RX2 87 yX2_layDownAll ∈ gW := gW_in (List.mem_of_getElem? (i := 658) (by decide +kernel)) rfl
theorem fX3_9 : Cond.fieldLink RX3 9 (TX3 0).1 (TX3 0).2.1 (TX3 0).2.2.1 ∈ gW := gW_in (List.mem_of_getElem? (i := 181) (by decide +kernel)) rfl
theorem fX3_15 : Cond.fieldLink RX3 15 (TX3 1).1 (TX3 1).2.1 (TX3 1).2.2.1 ∈ gW := gW_in (List.mem_of_getElem? (i := 182) (by decide +kernel)) rfl
theorem fX3_18 : Cond.fieldLink RX3 18 (TX3 2).1 (TX3 2).2.1 (TX3 2).2.2.1 ∈ gW := gW_in (List.mem_of_getElem? (i := 183) (by decide +kernel)) rfl
theorem fX3_24 : Cond.fieldLink RX3 24 (TX3 4).1 (TX3 4).2.1 (TX3 4).2.2.1 ∈ gW := gW_in (List.mem_of_getElem? (i := 185) (by decide +kernel)) rfl
theorem lX3_28 : Cond.methodLink RX3 28 yX3_shareOf ∈ gW := gW_in (List.mem_of_getElem? (i := 365) (by decide +kernel)) rfl
theorem fX3_21 : Cond.fieldLink RX3 21 (TX3 3).1 (TX3 3).2.1 (TX3 3).2.2.1 ∈ gW := gW_in (List.mem_of_getElem? (i := 184) (by decide +kernel)) rfl
theorem lX3_32 : Cond.methodLink RX3 32 yX3_hasPlace ∈ gW := gW_in (List.mem_of_getElem? (i := 479) (by decide +kernel)) rfl
theorem fX4_15 : Cond.fieldLink RX4 15 (TX4 1).1 (TX4 1).2.1 (TX4 1).2.2.1 ∈ gW := gW_in (List.mem_of_getElem? (i := 76) (by decide +kernel)) rfl
theorem fX4_9 : Cond.fieldLink RX4 9 (TX4 0).1 (TX4 0).2.1 (TX4 0).2.2.1 ∈ gW := gW_in (List.mem_of_getElem? (i := 75) (by decide +kernel)) rfl
theorem fX5_10 : Cond.fieldLink RX5 10 (TX5 0).1 (TX5 0).2.1 (TX5 0).2.2.1 ∈ gW := gW_in (List.mem_of_getElem? (i := 197) (by decide +kernel)) rfl
theorem lX5_66 : Cond.methodLink RX5 66 yX4_hasRoom ∈ gW := gW_in (List.mem_of_getElem? (i := 235) (by decide +kernel)) rfl
theorem lX5_70 : Cond.methodLink RX5 70 yX4_append ∈ gW := gW_in (List.mem_of_getElem? (i := 239) (by decide +kernel)) rfl
theorem lX5_74 : Cond.methodLink RX5 74 yX4_length ∈ gW := gW_in (List.mem_of_getElem? (i := 243) (by decide +kernel)) rfl
theorem fX5_52 : Cond.fieldLink RX5 52 (TX5 7).1 (TX5 7).2.1 (TX5 7).2.2.1 ∈ gW := gW_in (List.mem_of_getElem? (i := 204) (by decide +kernel)) rfl
theorem fX5_21 : Cond.fieldLink RX5 21 (TX5 1).1 (TX5 1).2.1 (TX5 1).2.2.1 ∈ gW := gW_in (List.mem_of_getElem? (i := 198) (by decide +kernel)) rfl
theorem fX5_49 : Cond.fieldLink RX5 49 (TX5 6).1 (TX5 6).2.1 (TX5 6).2.2.1 ∈ gW := gW_in (List.mem_of_getElem? (i := 203) (by decide +kernel)) rfl
theorem lX5_78 : Cond.methodLink RX5 78 yX1_read ∈ gW := gW_in (List.mem_of_getElem? (i := 251) (by decide +kernel)) rfl
theorem lX5_82 : Cond.methodLink RX5 82 yX4_clear ∈ gW := gW_in (List.mem_of_getElem? (i := 402) (by decide +kernel)) rfl
theorem fX5_45 : Cond.fieldLink RX5 45 (TX5 5).1 (TX5 5).2.1 (TX5 5).2.2.1 ∈ gW := gW_in (List.mem_of_getElem? (i := 202) (by decide +kernel)) rfl
theorem lX5_85 : Cond.methodLink RX5 85 yX3_places ∈ gW := gW_in (List.mem_of_getElem? (i := 406) (by decide +kernel)) rfl
theorem lX5_88 : Cond.methodLink RX5 88 yX1_faultKind ∈ gW := gW_in (List.mem_of_getElem? (i := 414) (by decide +kernel)) rfl
theorem lX5_91 : Cond.methodLink RX5 91 yX1_faultPlace ∈ gW := gW_in (List.mem_of_getElem? (i := 418) (by decide +kernel)) rfl
theorem lX5_94 : Cond.methodLink RX5 94 yX5_areCoins ∈ gW := gW_in (List.mem_of_getElem? (i := 426) (by decide +kernel)) rfl
theorem fX5_28 : Cond.fieldLink RX5 28 (TX5 2).1 (TX5 2).2.1 (TX5 2).2.2.1 ∈ gW := gW_in (List.mem_of_getElem? (i := 199) (by decide +kernel)) rfl
theorem lX5_97 : Cond.methodLink RX5 97 yX2_enter ∈ gW := gW_in (List.mem_of_getElem? (i := 430) (by decide +kernel)) rfl
theorem lX5_101 : Cond.methodLink RX5 101 yX2_has ∈ gW := gW_in (List.mem_of_getElem? (i := 438) (by decide +kernel)) rfl
theorem lX5_104 : Cond.methodLink RX5 104 yX2_hiddenOf ∈ gW := gW_in (List.mem_of_getElem? (i := 442) (by decide +kernel)) rfl
theorem lX5_108 : Cond.methodLink RX5 108 yX2_uncover ∈ gW := gW_in (List.mem_of_getElem? (i := 447) (by decide +kernel)) rfl
theorem lX5_119 : Cond.methodLink RX5 119 yX2_declaredOf ∈ gW := gW_in (List.mem_of_getElem? (i := 776) (by decide +kernel)) rfl
theorem lX5_122 : Cond.methodLink RX5 122 yX2_placeOf ∈ gW := gW_in (List.mem_of_getElem? (i := 561) (by decide +kernel)) rfl
theorem lX5_125 : Cond.methodLink RX5 125 yX2_freeFromOf ∈ gW := gW_in (List.mem_of_getElem? (i := 777) (by decide +kernel)) rfl
theorem lX5_128 : Cond.methodLink RX5 128 yX2_yearsBorneOf ∈ gW := gW_in (List.mem_of_getElem? (i := 781) (by decide +kernel)) rfl
theorem lX5_131 : Cond.methodLink RX5 131 yX5_isFitNow ∈ gW := gW_in (List.mem_of_getElem? (i := 565) (by decide +kernel)) rfl
theorem lX5_139 : Cond.methodLink RX5 139 yX2_manOfRank ∈ gW := gW_in (List.mem_of_getElem? (i := 455) (by decide +kernel)) rfl
theorem lX5_142 : Cond.methodLink RX5 142 yX3_hasPlace ∈ gW := gW_in (List.mem_of_getElem? (i := 471) (by decide +kernel)) rfl
theorem lX5_145 : Cond.methodLink RX5 145 yX3_burdenAt ∈ gW := gW_in (List.mem_of_getElem? (i := 475) (by decide +kernel)) rfl
theorem lX5_148 : Cond.methodLink RX5 148 yX2_bearerAt ∈ gW := gW_in (List.mem_of_getElem? (i := 480) (by decide +kernel)) rfl
theorem fX5_56 : Cond.fieldLink RX5 56 (TX5 8).1 (TX5 8).2.1 (TX5 8).2.2.1 ∈ gW := gW_in (List.mem_of_getElem? (i := 205) (by decide +kernel)) rfl
theorem fX5_60 : Cond.fieldLink RX5 60 (TX5 9).1 (TX5 9).2.1 (TX5 9).2.2.1 ∈ gW := gW_in (List.mem_of_getElem? (i := 206) (by decide +kernel)) rfl
theorem fX5_38 : Cond.fieldLink RX5 38 (TX5 4).1 (TX5 4).2.1 (TX5 4).2.2.1 ∈ gW := gW_in (List.mem_of_getElem? (i := 201) (by decide +kernel)) rfl
theorem lX5_151 : Cond.methodLink RX5 151 yX0_clear ∈ gW := gW_in (List.mem_of_getElem? (i := 491) (by decide +kernel)) rfl
theorem lX5_152 : Cond.methodLink RX5 152 yX2_fillPlaces ∈ gW := gW_in (List.mem_of_getElem? (i := 495) (by decide +kernel)) rfl
theorem lX5_156 : Cond.methodLink RX5 156 yX0_judgeBeyond ∈ gW := gW_in (List.mem_of_getElem? (i := 520) (by decide +kernel)) rfl
theorem lX5_160 : Cond.methodLink RX5 160 yX0_hasRoom ∈ gW := gW_in (List.mem_of_getElem? (i := 557) (by decide +kernel)) rfl
theorem lX5_163 : Cond.methodLink RX5 163 yX0_engages ∈ gW := gW_in (List.mem_of_getElem? (i := 570) (by decide +kernel)) rfl
theorem lX5_166 : Cond.methodLink RX5 166 yX2_hasBorne ∈ gW := gW_in (List.mem_of_getElem? (i := 574) (by decide +kernel)) rfl
theorem lX5_170 : Cond.methodLink RX5 170 yX3_setting ∈ gW := gW_in (List.mem_of_getElem? (i := 578) (by decide +kernel)) rfl
theorem lX5_173 : Cond.methodLink RX5 173 yX0_enter ∈ gW := gW_in (List.mem_of_getElem? (i := 579) (by decide +kernel)) rfl
theorem lX5_176 : Cond.methodLink RX5 176 yX0_standingOf ∈ gW := gW_in (List.mem_of_getElem? (i := 587) (by decide +kernel)) rfl
theorem lX5_179 : Cond.methodLink RX5 179 yX0_take ∈ gW := gW_in (List.mem_of_getElem? (i := 588) (by decide +kernel)) rfl
theorem lX5_182 : Cond.methodLink RX5 182 yX0_change ∈ gW := gW_in (List.mem_of_getElem? (i := 592) (by decide +kernel)) rfl
theorem lX5_185 : Cond.methodLink RX5 185 yX0_hasSworn ∈ gW := gW_in (List.mem_of_getElem? (i := 600) (by decide +kernel)) rfl
theorem lX5_189 : Cond.methodLink RX5 189 yX0_hearOath ∈ gW := gW_in (List.mem_of_getElem? (i := 604) (by decide +kernel)) rfl
theorem lX5_193 : Cond.methodLink RX5 193 yX0_sayerOf ∈ gW := gW_in (List.mem_of_getElem? (i := 616) (by decide +kernel)) rfl
theorem lX5_196 : Cond.methodLink RX5 196 yX0_hearerOf ∈ gW := gW_in (List.mem_of_getElem? (i := 620) (by decide +kernel)) rfl
theorem lX5_199 : Cond.methodLink RX5 199 yX0_placeIn ∈ gW := gW_in (List.mem_of_getElem? (i := 624) (by decide +kernel)) rfl
theorem lX5_202 : Cond.methodLink RX5 202 yX0_dayOf ∈ gW := gW_in (List.mem_of_getElem? (i := 628) (by decide +kernel)) rfl
theorem lX5_205 : Cond.methodLink RX5 205 yX0_lastDayOf ∈ gW := gW_in (List.mem_of_getElem? (i := 632) (by decide +kernel)) rfl
theorem lX5_208 : Cond.methodLink RX5 208 yX0_judgeAll ∈ gW := gW_in (List.mem_of_getElem? (i := 640) (by decide +kernel)) rfl
theorem lX5_212 : Cond.methodLink RX5 212 yX2_settle ∈ gW := gW_in (List.mem_of_getElem? (i := 644) (by decide +kernel)) rfl
theorem fX5_63 : Cond.fieldLink RX5 63 (TX5 10).1 (TX5 10).2.1 (TX5 10).2.2.1 ∈ gW := gW_in (List.mem_of_getElem? (i := 207) (by decide +kernel)) rfl
theorem lX5_215 : Cond.methodLink RX5 215 yX2_partAt ∈ gW := gW_in (List.mem_of_getElem? (i := 666) (by decide +kernel)) rfl
theorem lX5_221 : Cond.methodLink RX5 221 yX2_worthOf ∈ gW := gW_in (List.mem_of_getElem? (i := 672) (by decide +kernel)) rfl
theorem fX5_32 : Cond.fieldLink RX5 32 (TX5 3).1 (TX5 3).2.1 (TX5 3).2.2.1 ∈ gW := gW_in (List.mem_of_getElem? (i := 200) (by decide +kernel)) rfl
theorem lX5_224 : Cond.methodLink RX5 224 yX2_copyFrom ∈ gW := gW_in (List.mem_of_getElem? (i := 681) (by decide +kernel)) rfl
theorem lX5_227 : Cond.methodLink RX5 227 yX0_foreseeVerdicts ∈ gW := gW_in (List.mem_of_getElem? (i := 685) (by decide +kernel)) rfl
theorem lX5_230 : Cond.methodLink RX5 230 yX2_size ∈ gW := gW_in (List.mem_of_getElem? (i := 693) (by decide +kernel)) rfl
theorem lX5_233 : Cond.methodLink RX5 233 yX0_size ∈ gW := gW_in (List.mem_of_getElem? (i := 697) (by decide +kernel)) rfl
theorem lX5_235 : Cond.methodLink RX5 235 yX2_isFit ∈ gW := gW_in (List.mem_of_getElem? (i := 569) (by decide +kernel)) rfl
theorem fX6_75 : Cond.fieldLink RX6 75 (TX6 2).1 (TX6 2).2.1 (TX6 2).2.2.1 ∈ gW := gW_in (List.mem_of_getElem? (i := 809) (by decide +kernel)) rfl
theorem fX6_78 : Cond.fieldLink RX6 78 (TX6 1).1 (TX6 1).2.1 (TX6 1).2.2.1 ∈ gW := gW_in (List.mem_of_getElem? (i := 808) (by decide +kernel)) rfl
theorem fX6_7 : Cond.fieldLink RX6 7 (TX6 0).1 (TX6 0).2.1 (TX6 0).2.2.1 ∈ gW := gW_in (List.mem_of_getElem? (i := 807) (by decide +kernel)) rfl
theorem fX6_81 : Cond.fieldLink RX6 81 (TX6 8).1 (TX6 8).2.1 (TX6 8).2.2.1 ∈ gW := gW_in (List.mem_of_getElem? (i := 815) (by decide +kernel)) rfl
theorem fX6_25 : Cond.fieldLink RX6 25 (TX6 9).1 (TX6 9).2.1 (TX6 9).2.2.1 ∈ gW := gW_in (List.mem_of_getElem? (i := 816) (by decide +kernel)) rfl
theorem fX6_72 : Cond.fieldLink RX6 72 (TX6 30).1 (TX6 30).2.1 (TX6 30).2.2.1 ∈ gW := gW_in (List.mem_of_getElem? (i := 837) (by decide +kernel)) rfl
theorem fX6_84 : Cond.fieldLink RX6 84 (TX6 31).1 (TX6 31).2.1 (TX6 31).2.2.1 ∈ gW := gW_in (List.mem_of_getElem? (i := 838) (by decide +kernel)) rfl
theorem fX6_87 : Cond.fieldLink RX6 87 (TX6 32).1 (TX6 32).2.1 (TX6 32).2.2.1 ∈ gW := gW_in (List.mem_of_getElem? (i := 839) (by decide +kernel)) rfl
theorem fX6_90 : Cond.fieldLink RX6 90 (TX6 35).1 (TX6 35).2.1 (TX6 35).2.2.1 ∈ gW := gW_in (List.mem_of_getElem? (i := 842) (by decide +kernel)) rfl
theorem fX6_93 : Cond.fieldLink RX6 93 (TX6 33).1 (TX6 33).2.1 (TX6 33).2.2.1 ∈ gW := gW_in (List.mem_of_getElem? (i := 840) (by decide +kernel)) rfl
theorem lX6_96 : Cond.methodLink RX6 96 yX6_isSmall ∈ gW := gW_in (List.mem_of_getElem? (i := 935) (by decide +kernel)) rfl
theorem lX6_100 : Cond.methodLink RX6 100 yX6_wordAt ∈ gW := gW_in (List.mem_of_getElem? (i := 939) (by decide +kernel)) rfl
theorem fX6_104 : Cond.fieldLink RX6 104 (TX6 34).1 (TX6 34).2.1 (TX6 34).2.2.1 ∈ gW := gW_in (List.mem_of_getElem? (i := 841) (by decide +kernel)) rfl
theorem lX6_107 : Cond.methodLink RX6 107 yX6_isDigit ∈ gW := gW_in (List.mem_of_getElem? (i := 943) (by decide +kernel)) rfl
theorem lX6_111 : Cond.methodLink RX6 111 yX6_wrong ∈ gW := gW_in (List.mem_of_getElem? (i := 952) (by decide +kernel)) rfl
theorem lX6_115 : Cond.methodLink RX6 115 yX6_take ∈ gW := gW_in (List.mem_of_getElem? (i := 931) (by decide +kernel)) rfl
theorem fX6_118 : Cond.fieldLink RX6 118 (TX6 36).1 (TX6 36).2.1 (TX6 36).2.2.1 ∈ gW := gW_in (List.mem_of_getElem? (i := 843) (by decide +kernel)) rfl
theorem fX6_16 : Cond.fieldLink RX6 16 (TX6 4).1 (TX6 4).2.1 (TX6 4).2.2.1 ∈ gW := gW_in (List.mem_of_getElem? (i := 811) (by decide +kernel)) rfl
theorem lX6_121 : Cond.methodLink RX6 121 yX6_word ∈ gW := gW_in (List.mem_of_getElem? (i := 960) (by decide +kernel)) rfl
theorem lX6_124 : Cond.methodLink RX6 124 yX6_number ∈ gW := gW_in (List.mem_of_getElem? (i := 964) (by decide +kernel)) rfl
theorem fX6_13 : Cond.fieldLink RX6 13 (TX6 3).1 (TX6 3).2.1 (TX6 3).2.2.1 ∈ gW := gW_in (List.mem_of_getElem? (i := 810) (by decide +kernel)) rfl
theorem lX6_127 : Cond.methodLink RX6 127 yX6_burdenLine ∈ gW := gW_in (List.mem_of_getElem? (i := 956) (by decide +kernel)) rfl
theorem fX6_19 : Cond.fieldLink RX6 19 (TX6 5).1 (TX6 5).2.1 (TX6 5).2.2.1 ∈ gW := gW_in (List.mem_of_getElem? (i := 812) (by decide +kernel)) rfl
theorem fX6_132 : Cond.fieldLink RX6 132 (TX6 16).1 (TX6 16).2.1 (TX6 16).2.2.1 ∈ gW := gW_in (List.mem_of_getElem? (i := 823) (by decide +kernel)) rfl
theorem lX6_136 : Cond.methodLink RX6 136 yX6_line ∈ gW := gW_in (List.mem_of_getElem? (i := 948) (by decide +kernel)) rfl
theorem fX6_139 : Cond.fieldLink RX6 139 (TX6 6).1 (TX6 6).2.1 (TX6 6).2.2.1 ∈ gW := gW_in (List.mem_of_getElem? (i := 813) (by decide +kernel)) rfl
theorem fX6_22 : Cond.fieldLink RX6 22 (TX6 7).1 (TX6 7).2.1 (TX6 7).2.2.1 ∈ gW := gW_in (List.mem_of_getElem? (i := 814) (by decide +kernel)) rfl
theorem fX6_142 : Cond.fieldLink RX6 142 (TX6 10).1 (TX6 10).2.1 (TX6 10).2.2.1 ∈ gW := gW_in (List.mem_of_getElem? (i := 817) (by decide +kernel)) rfl
theorem fX6_29 : Cond.fieldLink RX6 29 (TX6 11).1 (TX6 11).2.1 (TX6 11).2.2.1 ∈ gW := gW_in (List.mem_of_getElem? (i := 818) (by decide +kernel)) rfl
theorem fX6_32 : Cond.fieldLink RX6 32 (TX6 12).1 (TX6 12).2.1 (TX6 12).2.2.1 ∈ gW := gW_in (List.mem_of_getElem? (i := 819) (by decide +kernel)) rfl
theorem lX6_145 : Cond.methodLink RX6 145 yX6_isMan ∈ gW := gW_in (List.mem_of_getElem? (i := 981) (by decide +kernel)) rfl
theorem fX6_41 : Cond.fieldLink RX6 41 (TX6 18).1 (TX6 18).2.1 (TX6 18).2.2.1 ∈ gW := gW_in (List.mem_of_getElem? (i := 825) (by decide +kernel)) rfl
theorem fX6_35 : Cond.fieldLink RX6 35 (TX6 13).1 (TX6 13).2.1 (TX6 13).2.2.1 ∈ gW := gW_in (List.mem_of_getElem? (i := 820) (by decide +kernel)) rfl
theorem lX6_148 : Cond.methodLink RX6 148 yX6_bears ∈ gW := gW_in (List.mem_of_getElem? (i := 993) (by decide +kernel)) rfl
theorem lX6_151 : Cond.methodLink RX6 151 yX6_fails ∈ gW := gW_in (List.mem_of_getElem? (i := 989) (by decide +kernel)) rfl
theorem fX6_38 : Cond.fieldLink RX6 38 (TX6 14).1 (TX6 14).2.1 (TX6 14).2.2.1 ∈ gW := gW_in (List.mem_of_getElem? (i := 821) (by decide +kernel)) rfl
theorem fX6_155 : Cond.fieldLink RX6 155 (TX6 15).1 (TX6 15).2.1 (TX6 15).2.2.1 ∈ gW := gW_in (List.mem_of_getElem? (i := 822) (by decide +kernel)) rfl
theorem lX6_158 : Cond.methodLink RX6 158 yX6_isFit ∈ gW := gW_in (List.mem_of_getElem? (i := 997) (by decide +kernel)) rfl
theorem fX6_162 : Cond.fieldLink RX6 162 (TX6 17).1 (TX6 17).2.1 (TX6 17).2.2.1 ∈ gW := gW_in (List.mem_of_getElem? (i := 824) (by decide +kernel)) rfl
theorem fX6_165 : Cond.fieldLink RX6 165 (TX6 21).1 (TX6 21).2.1 (TX6 21).2.2.1 ∈ gW := gW_in (List.mem_of_getElem? (i := 828) (by decide +kernel)) rfl
theorem lX6_168 : Cond.methodLink RX6 168 yX6_fill ∈ gW := gW_in (List.mem_of_getElem? (i := 1013) (by decide +kernel)) rfl
theorem fX6_44 : Cond.fieldLink RX6 44 (TX6 19).1 (TX6 19).2.1 (TX6 19).2.2.1 ∈ gW := gW_in (List.mem_of_getElem? (i := 826) (by decide +kernel)) rfl
theorem lX6_172 : Cond.methodLink RX6 172 yX6_pays ∈ gW := gW_in (List.mem_of_getElem? (i := 1061) (by decide +kernel)) rfl
theorem fX6_60 : Cond.fieldLink RX6 60 (TX6 26).1 (TX6 26).2.1 (TX6 26).2.2.1 ∈ gW := gW_in (List.mem_of_getElem? (i := 833) (by decide +kernel)) rfl
theorem fX6_51 : Cond.fieldLink RX6 51 (TX6 23).1 (TX6 23).2.1 (TX6 23).2.2.1 ∈ gW := gW_in (List.mem_of_getElem? (i := 830) (by decide +kernel)) rfl
theorem fX6_48 : Cond.fieldLink RX6 48 (TX6 22).1 (TX6 22).2.1 (TX6 22).2.2.1 ∈ gW := gW_in (List.mem_of_getElem? (i := 829) (by decide +kernel)) rfl
theorem fX6_66 : Cond.fieldLink RX6 66 (TX6 28).1 (TX6 28).2.1 (TX6 28).2.2.1 ∈ gW := gW_in (List.mem_of_getElem? (i := 835) (by decide +kernel)) rfl
theorem fX6_69 : Cond.fieldLink RX6 69 (TX6 29).1 (TX6 29).2.1 (TX6 29).2.2.1 ∈ gW := gW_in (List.mem_of_getElem? (i := 836) (by decide +kernel)) rfl
theorem fX6_54 : Cond.fieldLink RX6 54 (TX6 24).1 (TX6 24).2.1 (TX6 24).2.2.1 ∈ gW := gW_in (List.mem_of_getElem? (i := 831) (by decide +kernel)) rfl
theorem lX6_175 : Cond.methodLink RX6 175 yX6_goesOver ∈ gW := gW_in (List.mem_of_getElem? (i := 1029) (by decide +kernel)) rfl
theorem lX6_178 : Cond.methodLink RX6 178 yX6_over ∈ gW := gW_in (List.mem_of_getElem? (i := 1033) (by decide +kernel)) rfl
theorem lX6_182 : Cond.methodLink RX6 182 yX6_isOpen ∈ gW := gW_in (List.mem_of_getElem? (i := 1021) (by decide +kernel)) rfl
theorem fX6_63 : Cond.fieldLink RX6 63 (TX6 27).1 (TX6 27).2.1 (TX6 27).2.2.1 ∈ gW := gW_in (List.mem_of_getElem? (i := 834) (by decide +kernel)) rfl
theorem lX6_185 : Cond.methodLink RX6 185 yX6_judge ∈ gW := gW_in (List.mem_of_getElem? (i := 1025) (by decide +kernel)) rfl
theorem fX6_57 : Cond.fieldLink RX6 57 (TX6 25).1 (TX6 25).2.1 (TX6 25).2.2.1 ∈ gW := gW_in (List.mem_of_getElem? (i := 832) (by decide +kernel)) rfl
theorem lX6_188 : Cond.methodLink RX6 188 yX6_ends ∈ gW := gW_in (List.mem_of_getElem? (i := 1057) (by decide +kernel)) rfl
theorem fX6_191 : Cond.fieldLink RX6 191 (TX6 20).1 (TX6 20).2.1 (TX6 20).2.2.1 ∈ gW := gW_in (List.mem_of_getElem? (i := 827) (by decide +kernel)) rfl
theorem lJ0_335 : Cond.methodLink RJ0 335 yJ0_coder_7d493 ∈ gW := gW_in (List.mem_of_getElem? (i := 300) (by decide +kernel)) rfl
theorem lJ0_492 : Cond.methodLink RJ0 492 yJ0_isLatin1_aae02 ∈ gW := gW_in (List.mem_of_getElem? (i := 310) (by decide +kernel)) rfl
theorem lJ0_495 : Cond.methodLink RJ0 495 yJ1_charAt_3b067 ∈ gW := gW_in (List.mem_of_getElem? (i := 314) (by decide +kernel)) rfl
theorem lJ1_9 : Cond.methodLink RJ1 9 yJ0_checkIndex_df160 ∈ gW := gW_in (List.mem_of_getElem? (i := 317) (by decide +kernel)) rfl
theorem lJ0_1059 : Cond.methodLink RJ0 1059 yJ3_checkIndex_8e157 ∈ gW := gW_in (List.mem_of_getElem? (i := 322) (by decide +kernel)) rfl
theorem fJ0_9 : Cond.fieldLink RJ0 9 "java/lang/String" "value" "[B" ∈ gW := gW_in (List.mem_of_getElem? (i := 1095) (by decide +kernel)) rfl
theorem fJ0_15 : Cond.fieldLink RJ0 15 "java/lang/String" "coder" "B" ∈ gW := gW_in (List.mem_of_getElem? (i := 1096) (by decide +kernel)) rfl
theorem fJ0_38 : Cond.fieldLink RJ0 38 "java/lang/String" "COMPACT_STRINGS" "Z" ∈ gW := gW_in (List.mem_of_getElem? (i := 304) (by decide +kernel)) rfl
theorem fJ0_1053 : Cond.fieldLink RJ0 1053 "jdk/internal/util/Preconditions" "SIOOBE_FORMATTER" "Ljava/util/function/BiFunction;" ∈ gW := gW_in (List.mem_of_getElem? (i := 320) (by decide +kernel)) rfl
theorem kX1_114 : Cond.constant RX1 114 (1000000) ∈ gW := gW_in (List.mem_of_getElem? (i := 377) (by decide +kernel)) rfl
theorem kX1_143 : Cond.constant RX1 143 (100000) ∈ gW := gW_in (List.mem_of_getElem? (i := 389) (by decide +kernel)) rfl
theorem kX5_234 : Cond.constant RX5 234 (100000) ∈ gW := gW_in (List.mem_of_getElem? (i := 429) (by decide +kernel)) rfl
theorem kX5_220 : Cond.constant RX5 220 (-2147483648) ∈ gW := gW_in (List.mem_of_getElem? (i := 671) (by decide +kernel)) rfl
theorem kX6_110 : Cond.constant RX6 110 (999999) ∈ gW := gW_in (List.mem_of_getElem? (i := 947) (by decide +kernel)) rfl
theorem kX6_131 : Cond.constant RX6 131 (100000) ∈ gW := gW_in (List.mem_of_getElem? (i := 968) (by decide +kernel)) rfl
theorem kX6_194 : Cond.constant RX6 194 (-2147483648) ∈ gW := gW_in (List.mem_of_getElem? (i := 1073) (by decide +kernel)) rfl
end
section
theorem dX0_init_0 : decode cX0_init 0 = .ok (.aload_n 0, 1) := by decide +kernel
theorem dX0_init_1 : decode cX0_init 1 = .ok (.invokespecial 3, 3) := by decide +kernel
theorem dX0_init_4 : decode cX0_init 4 = .ok (.aload_n 0, 1) := by decide +kernel
theorem dX0_init_5 : decode cX0_init 5 = .ok (.bipush 40, 2) := by decide +kernel
theorem dX0_init_7 : decode cX0_init 7 = .ok (.newarray .int, 2) := by decide +kernel
theorem dX0_init_9 : decode cX0_init 9 = .ok (.putfield 9, 3) := by decide +kernel
theorem dX0_init_12 : decode cX0_init 12 = .ok (.aload_n 0, 1) := by decide +kernel
theorem dX0_init_13 : decode cX0_init 13 = .ok (.bipush 40, 2) := by decide +kernel
theorem dX0_init_15 : decode cX0_init 15 = .ok (.newarray .int, 2) := by decide +kernel
theorem dX0_init_17 : decode cX0_init 17 = .ok (.putfield 15, 3) := by decide +kernel
theorem dX0_init_20 : decode cX0_init 20 = .ok (.aload_n 0, 1) := by decide +kernel
theorem dX0_init_21 : decode cX0_init 21 = .ok (.bipush 40, 2) := by decide +kernel
theorem dX0_init_23 : decode cX0_init 23 = .ok (.newarray .int, 2) := by decide +kernel
theorem dX0_init_25 : decode cX0_init 25 = .ok (.putfield 18, 3) := by decide +kernel
theorem dX0_init_28 : decode cX0_init 28 = .ok (.aload_n 0, 1) := by decide +kernel
theorem dX0_init_29 : decode cX0_init 29 = .ok (.bipush 40, 2) := by decide +kernel
theorem dX0_init_31 : decode cX0_init 31 = .ok (.newarray .int, 2) := by decide +kernel
theorem dX0_init_33 : decode cX0_init 33 = .ok (.putfield 21, 3) := by decide +kernel
theorem dX0_init_36 : decode cX0_init 36 = .ok (.aload_n 0, 1) := by decide +kernel
theorem dX0_init_37 : decode cX0_init 37 = .ok (.bipush 40, 2) := by decide +kernel
theorem dX0_init_39 : decode cX0_init 39 = .ok (.newarray .int, 2) := by decide +kernel
theorem dX0_init_41 : decode cX0_init 41 = .ok (.putfield 24, 3) := by decide +kernel
theorem dX0_init_44 : decode cX0_init 44 = .ok (.aload_n 0, 1) := by decide +kernel
theorem dX0_init_45 : decode cX0_init 45 = .ok (.bipush 40, 2) := by decide +kernel
theorem dX0_init_47 : decode cX0_init 47 = .ok (.newarray .int, 2) := by decide +kernel
theorem dX0_init_49 : decode cX0_init 49 = .ok (.putfield 27, 3) := by decide +kernel
theorem dX0_init_52 : decode cX0_init 52 = .ok (.aload_n 0, 1) := by decide +kernel
theorem dX0_init_53 : decode cX0_init 53 = .ok (.bipush 40, 2) := by decide +kernel
theorem dX0_init_55 : decode cX0_init 55 = .ok (.newarray .boolean, 2) := by decide +kernel
theorem dX0_init_57 : decode cX0_init 57 = .ok (.putfield 30, 3) := by decide +kernel
theorem dX0_init_60 : decode cX0_init 60 = .ok (.aload_n 0, 1) := by decide +kernel
theorem dX0_init_61 : decode cX0_init 61 = .ok (.bipush 40, 2) := by decide +kernel
theorem dX0_init_63 : decode cX0_init 63 = .ok (.newarray .boolean, 2) := by decide +kernel
theorem dX0_init_65 : decode cX0_init 65 = .ok (.putfield 34, 3) := by decide +kernel
theorem dX0_init_68 : decode cX0_init 68 = .ok (.aload_n 0, 1) := by decide +kernel
theorem dX0_init_69 : decode cX0_init 69 = .ok (.iconst 0, 1) := by decide +kernel
theorem dX0_init_70 : decode cX0_init 70 = .ok (.putfield 37, 3) := by decide +kernel
theorem dX0_init_73 : decode cX0_init 73 = .ok (.return_, 1) := by decide +kernel
theorem dX0_size_0 : decode cX0_size 0 = .ok (.aload_n 0, 1) := by decide +kernel
theorem dX0_size_1 : decode cX0_size 1 = .ok (.getfield 37, 3) := by decide +kernel
theorem dX0_size_4 : decode cX0_size 4 = .ok (.ireturn, 1) := by decide +kernel
theorem dX0_clear_0 : decode cX0_clear 0 = .ok (.aload_n 0, 1) := by decide +kernel
theorem dX0_clear_1 : decode cX0_clear 1 = .ok (.iconst 0, 1) := by decide +kernel
theorem dX0_clear_2 : decode cX0_clear 2 = .ok (.putfield 37, 3) := by decide +kernel
theorem dX0_clear_5 : decode cX0_clear 5 = .ok (.return_, 1) := by decide +kernel
theorem dX0_hasRoom_0 : decode cX0_hasRoom 0 = .ok (.aload_n 0, 1) := by decide +kernel
theorem dX0_hasRoom_1 : decode cX0_hasRoom 1 = .ok (.getfield 37, 3) := by decide +kernel
theorem dX0_hasRoom_4 : decode cX0_hasRoom 4 = .ok (.bipush 40, 2) := by decide +kernel
theorem dX0_hasRoom_6 : decode cX0_hasRoom 6 = .ok (.if_icmp .ge 7, 3) := by decide +kernel
theorem dX0_hasRoom_9 : decode cX0_hasRoom 9 = .ok (.iconst 1, 1) := by decide +kernel
theorem dX0_hasRoom_10 : decode cX0_hasRoom 10 = .ok (.goto 4, 3) := by decide +kernel
theorem dX0_hasRoom_13 : decode cX0_hasRoom 13 = .ok (.iconst 0, 1) := by decide +kernel
theorem dX0_hasRoom_14 : decode cX0_hasRoom 14 = .ok (.ireturn, 1) := by decide +kernel
theorem dX0_enter_0 : decode cX0_enter 0 = .ok (.aload_n 0, 1) := by decide +kernel
theorem dX0_enter_1 : decode cX0_enter 1 = .ok (.getfield 37, 3) := by decide +kernel
theorem dX0_enter_4 : decode cX0_enter 4 = .ok (.ifCond .lt 12, 3) := by decide +kernel
theorem dX0_enter_7 : decode cX0_enter 7 = .ok (.aload_n 0, 1) := by decide +kernel
theorem dX0_enter_8 : decode cX0_enter 8 = .ok (.getfield 37, 3) := by decide +kernel
theorem dX0_enter_11 : decode cX0_enter 11 = .ok (.bipush 40, 2) := by decide +kernel
theorem dX0_enter_13 : decode cX0_enter 13 = .ok (.if_icmp .lt 5, 3) := by decide +kernel
theorem dX0_enter_16 : decode cX0_enter 16 = .ok (.iconst (-1), 1) := by decide +kernel
theorem dX0_enter_17 : decode cX0_enter 17 = .ok (.ireturn, 1) := by decide +kernel
theorem dX0_enter_18 : decode cX0_enter 18 = .ok (.aload_n 0, 1) := by decide +kernel
theorem dX0_enter_19 : decode cX0_enter 19 = .ok (.getfield 37, 3) := by decide +kernel
theorem dX0_enter_22 : decode cX0_enter 22 = .ok (.istore 6, 2) := by decide +kernel
theorem dX0_enter_24 : decode cX0_enter 24 = .ok (.aload_n 0, 1) := by decide +kernel
theorem dX0_enter_25 : decode cX0_enter 25 = .ok (.getfield 9, 3) := by decide +kernel
theorem dX0_enter_28 : decode cX0_enter 28 = .ok (.iload 6, 2) := by decide +kernel
theorem dX0_enter_30 : decode cX0_enter 30 = .ok (.iload_n 1, 1) := by decide +kernel
theorem dX0_enter_31 : decode cX0_enter 31 = .ok (.iastore, 1) := by decide +kernel
theorem dX0_enter_32 : decode cX0_enter 32 = .ok (.aload_n 0, 1) := by decide +kernel
theorem dX0_enter_33 : decode cX0_enter 33 = .ok (.getfield 15, 3) := by decide +kernel
theorem dX0_enter_36 : decode cX0_enter 36 = .ok (.iload 6, 2) := by decide +kernel
theorem dX0_enter_38 : decode cX0_enter 38 = .ok (.iload_n 2, 1) := by decide +kernel
theorem dX0_enter_39 : decode cX0_enter 39 = .ok (.iastore, 1) := by decide +kernel
theorem dX0_enter_40 : decode cX0_enter 40 = .ok (.aload_n 0, 1) := by decide +kernel
theorem dX0_enter_41 : decode cX0_enter 41 = .ok (.getfield 18, 3) := by decide +kernel
theorem dX0_enter_44 : decode cX0_enter 44 = .ok (.iload 6, 2) := by decide +kernel
theorem dX0_enter_46 : decode cX0_enter 46 = .ok (.iload_n 3, 1) := by decide +kernel
theorem dX0_enter_47 : decode cX0_enter 47 = .ok (.iastore, 1) := by decide +kernel
theorem dX0_enter_48 : decode cX0_enter 48 = .ok (.aload_n 0, 1) := by decide +kernel
theorem dX0_enter_49 : decode cX0_enter 49 = .ok (.getfield 21, 3) := by decide +kernel
theorem dX0_enter_52 : decode cX0_enter 52 = .ok (.iload 6, 2) := by decide +kernel
theorem dX0_enter_54 : decode cX0_enter 54 = .ok (.iload 4, 2) := by decide +kernel
theorem dX0_enter_56 : decode cX0_enter 56 = .ok (.iastore, 1) := by decide +kernel
theorem dX0_enter_57 : decode cX0_enter 57 = .ok (.aload_n 0, 1) := by decide +kernel
theorem dX0_enter_58 : decode cX0_enter 58 = .ok (.getfield 24, 3) := by decide +kernel
theorem dX0_enter_61 : decode cX0_enter 61 = .ok (.iload 6, 2) := by decide +kernel
theorem dX0_enter_63 : decode cX0_enter 63 = .ok (.iconst 0, 1) := by decide +kernel
theorem dX0_enter_64 : decode cX0_enter 64 = .ok (.iastore, 1) := by decide +kernel
theorem dX0_enter_65 : decode cX0_enter 65 = .ok (.aload_n 0, 1) := by decide +kernel
theorem dX0_enter_66 : decode cX0_enter 66 = .ok (.getfield 27, 3) := by decide +kernel
theorem dX0_enter_69 : decode cX0_enter 69 = .ok (.iload 6, 2) := by decide +kernel
theorem dX0_enter_71 : decode cX0_enter 71 = .ok (.iload 4, 2) := by decide +kernel
theorem dX0_enter_73 : decode cX0_enter 73 = .ok (.iload 5, 2) := by decide +kernel
theorem dX0_enter_75 : decode cX0_enter 75 = .ok (.iadd, 1) := by decide +kernel
theorem dX0_enter_76 : decode cX0_enter 76 = .ok (.iastore, 1) := by decide +kernel
theorem dX0_enter_77 : decode cX0_enter 77 = .ok (.aload_n 0, 1) := by decide +kernel
theorem dX0_enter_78 : decode cX0_enter 78 = .ok (.getfield 30, 3) := by decide +kernel
theorem dX0_enter_81 : decode cX0_enter 81 = .ok (.iload 6, 2) := by decide +kernel
theorem dX0_enter_83 : decode cX0_enter 83 = .ok (.iconst 0, 1) := by decide +kernel
theorem dX0_enter_84 : decode cX0_enter 84 = .ok (.bastore, 1) := by decide +kernel
theorem dX0_enter_85 : decode cX0_enter 85 = .ok (.aload_n 0, 1) := by decide +kernel
theorem dX0_enter_86 : decode cX0_enter 86 = .ok (.getfield 34, 3) := by decide +kernel
theorem dX0_enter_89 : decode cX0_enter 89 = .ok (.iload 6, 2) := by decide +kernel
theorem dX0_enter_91 : decode cX0_enter 91 = .ok (.iconst 0, 1) := by decide +kernel
theorem dX0_enter_92 : decode cX0_enter 92 = .ok (.bastore, 1) := by decide +kernel
theorem dX0_enter_93 : decode cX0_enter 93 = .ok (.aload_n 0, 1) := by decide +kernel
theorem dX0_enter_94 : decode cX0_enter 94 = .ok (.dup, 1) := by decide +kernel
theorem dX0_enter_95 : decode cX0_enter 95 = .ok (.getfield 37, 3) := by decide +kernel
theorem dX0_enter_98 : decode cX0_enter 98 = .ok (.iconst 1, 1) := by decide +kernel
theorem dX0_enter_99 : decode cX0_enter 99 = .ok (.iadd, 1) := by decide +kernel
theorem dX0_enter_100 : decode cX0_enter 100 = .ok (.putfield 37, 3) := by decide +kernel
theorem dX0_enter_103 : decode cX0_enter 103 = .ok (.iload 6, 2) := by decide +kernel
theorem dX0_enter_105 : decode cX0_enter 105 = .ok (.ireturn, 1) := by decide +kernel
theorem dX0_sayerOf_0 : decode cX0_sayerOf 0 = .ok (.aload_n 0, 1) := by decide +kernel
theorem dX0_sayerOf_1 : decode cX0_sayerOf 1 = .ok (.iload_n 1, 1) := by decide +kernel
theorem dX0_sayerOf_2 : decode cX0_sayerOf 2 = .ok (.invokevirtual 41, 3) := by decide +kernel
theorem dX0_sayerOf_5 : decode cX0_sayerOf 5 = .ok (.ifCond .eq 12, 3) := by decide +kernel
theorem dX0_sayerOf_8 : decode cX0_sayerOf 8 = .ok (.aload_n 0, 1) := by decide +kernel
theorem dX0_sayerOf_9 : decode cX0_sayerOf 9 = .ok (.getfield 9, 3) := by decide +kernel
theorem dX0_sayerOf_12 : decode cX0_sayerOf 12 = .ok (.iload_n 1, 1) := by decide +kernel
theorem dX0_sayerOf_13 : decode cX0_sayerOf 13 = .ok (.iaload, 1) := by decide +kernel
theorem dX0_sayerOf_14 : decode cX0_sayerOf 14 = .ok (.goto 4, 3) := by decide +kernel
theorem dX0_sayerOf_17 : decode cX0_sayerOf 17 = .ok (.iconst (-1), 1) := by decide +kernel
theorem dX0_sayerOf_18 : decode cX0_sayerOf 18 = .ok (.ireturn, 1) := by decide +kernel
theorem dX0_hearerOf_0 : decode cX0_hearerOf 0 = .ok (.aload_n 0, 1) := by decide +kernel
theorem dX0_hearerOf_1 : decode cX0_hearerOf 1 = .ok (.iload_n 1, 1) := by decide +kernel
theorem dX0_hearerOf_2 : decode cX0_hearerOf 2 = .ok (.invokevirtual 41, 3) := by decide +kernel
theorem dX0_hearerOf_5 : decode cX0_hearerOf 5 = .ok (.ifCond .eq 12, 3) := by decide +kernel
theorem dX0_hearerOf_8 : decode cX0_hearerOf 8 = .ok (.aload_n 0, 1) := by decide +kernel
theorem dX0_hearerOf_9 : decode cX0_hearerOf 9 = .ok (.getfield 15, 3) := by decide +kernel
theorem dX0_hearerOf_12 : decode cX0_hearerOf 12 = .ok (.iload_n 1, 1) := by decide +kernel
theorem dX0_hearerOf_13 : decode cX0_hearerOf 13 = .ok (.iaload, 1) := by decide +kernel
theorem dX0_hearerOf_14 : decode cX0_hearerOf 14 = .ok (.goto 4, 3) := by decide +kernel
theorem dX0_hearerOf_17 : decode cX0_hearerOf 17 = .ok (.iconst (-1), 1) := by decide +kernel
theorem dX0_hearerOf_18 : decode cX0_hearerOf 18 = .ok (.ireturn, 1) := by decide +kernel
theorem dX0_placeIn_0 : decode cX0_placeIn 0 = .ok (.aload_n 0, 1) := by decide +kernel
theorem dX0_placeIn_1 : decode cX0_placeIn 1 = .ok (.iload_n 1, 1) := by decide +kernel
theorem dX0_placeIn_2 : decode cX0_placeIn 2 = .ok (.invokevirtual 41, 3) := by decide +kernel
theorem dX0_placeIn_5 : decode cX0_placeIn 5 = .ok (.ifCond .eq 12, 3) := by decide +kernel
theorem dX0_placeIn_8 : decode cX0_placeIn 8 = .ok (.aload_n 0, 1) := by decide +kernel
theorem dX0_placeIn_9 : decode cX0_placeIn 9 = .ok (.getfield 18, 3) := by decide +kernel
theorem dX0_placeIn_12 : decode cX0_placeIn 12 = .ok (.iload_n 1, 1) := by decide +kernel
theorem dX0_placeIn_13 : decode cX0_placeIn 13 = .ok (.iaload, 1) := by decide +kernel
theorem dX0_placeIn_14 : decode cX0_placeIn 14 = .ok (.goto 4, 3) := by decide +kernel
theorem dX0_placeIn_17 : decode cX0_placeIn 17 = .ok (.iconst (-1), 1) := by decide +kernel
theorem dX0_placeIn_18 : decode cX0_placeIn 18 = .ok (.ireturn, 1) := by decide +kernel
theorem dX0_dayOf_0 : decode cX0_dayOf 0 = .ok (.aload_n 0, 1) := by decide +kernel
theorem dX0_dayOf_1 : decode cX0_dayOf 1 = .ok (.iload_n 1, 1) := by decide +kernel
theorem dX0_dayOf_2 : decode cX0_dayOf 2 = .ok (.invokevirtual 41, 3) := by decide +kernel
theorem dX0_dayOf_5 : decode cX0_dayOf 5 = .ok (.ifCond .eq 12, 3) := by decide +kernel
theorem dX0_dayOf_8 : decode cX0_dayOf 8 = .ok (.aload_n 0, 1) := by decide +kernel
theorem dX0_dayOf_9 : decode cX0_dayOf 9 = .ok (.getfield 21, 3) := by decide +kernel
theorem dX0_dayOf_12 : decode cX0_dayOf 12 = .ok (.iload_n 1, 1) := by decide +kernel
theorem dX0_dayOf_13 : decode cX0_dayOf 13 = .ok (.iaload, 1) := by decide +kernel
theorem dX0_dayOf_14 : decode cX0_dayOf 14 = .ok (.goto 4, 3) := by decide +kernel
theorem dX0_dayOf_17 : decode cX0_dayOf 17 = .ok (.iconst (-1), 1) := by decide +kernel
theorem dX0_dayOf_18 : decode cX0_dayOf 18 = .ok (.ireturn, 1) := by decide +kernel
theorem dX0_standingOf_0 : decode cX0_standingOf 0 = .ok (.aload_n 0, 1) := by decide +kernel
theorem dX0_standingOf_1 : decode cX0_standingOf 1 = .ok (.iload_n 1, 1) := by decide +kernel
theorem dX0_standingOf_2 : decode cX0_standingOf 2 = .ok (.invokevirtual 41, 3) := by decide +kernel
theorem dX0_standingOf_5 : decode cX0_standingOf 5 = .ok (.ifCond .eq 12, 3) := by decide +kernel
theorem dX0_standingOf_8 : decode cX0_standingOf 8 = .ok (.aload_n 0, 1) := by decide +kernel
theorem dX0_standingOf_9 : decode cX0_standingOf 9 = .ok (.getfield 24, 3) := by decide +kernel
theorem dX0_standingOf_12 : decode cX0_standingOf 12 = .ok (.iload_n 1, 1) := by decide +kernel
theorem dX0_standingOf_13 : decode cX0_standingOf 13 = .ok (.iaload, 1) := by decide +kernel
theorem dX0_standingOf_14 : decode cX0_standingOf 14 = .ok (.goto 4, 3) := by decide +kernel
theorem dX0_standingOf_17 : decode cX0_standingOf 17 = .ok (.iconst (-1), 1) := by decide +kernel
theorem dX0_standingOf_18 : decode cX0_standingOf 18 = .ok (.ireturn, 1) := by decide +kernel
theorem dX0_lastDayOf_0 : decode cX0_lastDayOf 0 = .ok (.aload_n 0, 1) := by decide +kernel
theorem dX0_lastDayOf_1 : decode cX0_lastDayOf 1 = .ok (.iload_n 1, 1) := by decide +kernel
theorem dX0_lastDayOf_2 : decode cX0_lastDayOf 2 = .ok (.invokevirtual 45, 3) := by decide +kernel
theorem dX0_lastDayOf_5 : decode cX0_lastDayOf 5 = .ok (.ifCond .eq 12, 3) := by decide +kernel
theorem dX0_lastDayOf_8 : decode cX0_lastDayOf 8 = .ok (.aload_n 0, 1) := by decide +kernel
theorem dX0_lastDayOf_9 : decode cX0_lastDayOf 9 = .ok (.getfield 27, 3) := by decide +kernel
theorem dX0_lastDayOf_12 : decode cX0_lastDayOf 12 = .ok (.iload_n 1, 1) := by decide +kernel
theorem dX0_lastDayOf_13 : decode cX0_lastDayOf 13 = .ok (.iaload, 1) := by decide +kernel
theorem dX0_lastDayOf_14 : decode cX0_lastDayOf 14 = .ok (.goto 4, 3) := by decide +kernel
theorem dX0_lastDayOf_17 : decode cX0_lastDayOf 17 = .ok (.iconst (-1), 1) := by decide +kernel
theorem dX0_lastDayOf_18 : decode cX0_lastDayOf 18 = .ok (.ireturn, 1) := by decide +kernel
theorem dX0_engages_0 : decode cX0_engages 0 = .ok (.iconst 0, 1) := by decide +kernel
theorem dX0_engages_1 : decode cX0_engages 1 = .ok (.istore_n 2, 1) := by decide +kernel
theorem dX0_engages_2 : decode cX0_engages 2 = .ok (.iload_n 2, 1) := by decide +kernel
theorem dX0_engages_3 : decode cX0_engages 3 = .ok (.aload_n 0, 1) := by decide +kernel
theorem dX0_engages_4 : decode cX0_engages 4 = .ok (.getfield 37, 3) := by decide +kernel
theorem dX0_engages_7 : decode cX0_engages 7 = .ok (.if_icmp .ge 39, 3) := by decide +kernel
theorem dX0_engages_10 : decode cX0_engages 10 = .ok (.aload_n 0, 1) := by decide +kernel
theorem dX0_engages_11 : decode cX0_engages 11 = .ok (.iload_n 2, 1) := by decide +kernel
theorem dX0_engages_12 : decode cX0_engages 12 = .ok (.invokevirtual 45, 3) := by decide +kernel
theorem dX0_engages_15 : decode cX0_engages 15 = .ok (.ifCond .eq 25, 3) := by decide +kernel
theorem dX0_engages_18 : decode cX0_engages 18 = .ok (.aload_n 0, 1) := by decide +kernel
theorem dX0_engages_19 : decode cX0_engages 19 = .ok (.getfield 9, 3) := by decide +kernel
theorem dX0_engages_22 : decode cX0_engages 22 = .ok (.iload_n 2, 1) := by decide +kernel
theorem dX0_engages_23 : decode cX0_engages 23 = .ok (.iaload, 1) := by decide +kernel
theorem dX0_engages_24 : decode cX0_engages 24 = .ok (.iload_n 1, 1) := by decide +kernel
theorem dX0_engages_25 : decode cX0_engages 25 = .ok (.if_icmp .eq 13, 3) := by decide +kernel
theorem dX0_engages_28 : decode cX0_engages 28 = .ok (.aload_n 0, 1) := by decide +kernel
theorem dX0_engages_29 : decode cX0_engages 29 = .ok (.getfield 15, 3) := by decide +kernel
theorem dX0_engages_32 : decode cX0_engages 32 = .ok (.iload_n 2, 1) := by decide +kernel
theorem dX0_engages_33 : decode cX0_engages 33 = .ok (.iaload, 1) := by decide +kernel
theorem dX0_engages_34 : decode cX0_engages 34 = .ok (.iload_n 1, 1) := by decide +kernel
theorem dX0_engages_35 : decode cX0_engages 35 = .ok (.if_icmp .ne 5, 3) := by decide +kernel
theorem dX0_engages_38 : decode cX0_engages 38 = .ok (.iconst 1, 1) := by decide +kernel
theorem dX0_engages_39 : decode cX0_engages 39 = .ok (.ireturn, 1) := by decide +kernel
theorem dX0_engages_40 : decode cX0_engages 40 = .ok (.iinc 2 1, 3) := by decide +kernel
theorem dX0_engages_43 : decode cX0_engages 43 = .ok (.goto (-41), 3) := by decide +kernel
theorem dX0_engages_46 : decode cX0_engages 46 = .ok (.iconst 0, 1) := by decide +kernel
theorem dX0_engages_47 : decode cX0_engages 47 = .ok (.ireturn, 1) := by decide +kernel
theorem dX0_take_0 : decode cX0_take 0 = .ok (.aload_n 0, 1) := by decide +kernel
theorem dX0_take_1 : decode cX0_take 1 = .ok (.iload_n 1, 1) := by decide +kernel
theorem dX0_take_2 : decode cX0_take 2 = .ok (.invokevirtual 41, 3) := by decide +kernel
theorem dX0_take_5 : decode cX0_take 5 = .ok (.ifCond .eq 32, 3) := by decide +kernel
theorem dX0_take_8 : decode cX0_take 8 = .ok (.aload_n 0, 1) := by decide +kernel
theorem dX0_take_9 : decode cX0_take 9 = .ok (.getfield 24, 3) := by decide +kernel
theorem dX0_take_12 : decode cX0_take 12 = .ok (.iload_n 1, 1) := by decide +kernel
theorem dX0_take_13 : decode cX0_take 13 = .ok (.iconst 2, 1) := by decide +kernel
theorem dX0_take_14 : decode cX0_take 14 = .ok (.iastore, 1) := by decide +kernel
theorem dX0_take_15 : decode cX0_take 15 = .ok (.aload_n 2, 1) := by decide +kernel
theorem dX0_take_16 : decode cX0_take 16 = .ok (.aload_n 0, 1) := by decide +kernel
theorem dX0_take_17 : decode cX0_take 17 = .ok (.getfield 18, 3) := by decide +kernel
theorem dX0_take_20 : decode cX0_take 20 = .ok (.iload_n 1, 1) := by decide +kernel
theorem dX0_take_21 : decode cX0_take 21 = .ok (.iaload, 1) := by decide +kernel
theorem dX0_take_22 : decode cX0_take 22 = .ok (.aload_n 0, 1) := by decide +kernel
theorem dX0_take_23 : decode cX0_take 23 = .ok (.getfield 9, 3) := by decide +kernel
theorem dX0_take_26 : decode cX0_take 26 = .ok (.iload_n 1, 1) := by decide +kernel
theorem dX0_take_27 : decode cX0_take 27 = .ok (.iaload, 1) := by decide +kernel
theorem dX0_take_28 : decode cX0_take 28 = .ok (.aload_n 0, 1) := by decide +kernel
theorem dX0_take_29 : decode cX0_take 29 = .ok (.getfield 15, 3) := by decide +kernel
theorem dX0_take_32 : decode cX0_take 32 = .ok (.iload_n 1, 1) := by decide +kernel
theorem dX0_take_33 : decode cX0_take 33 = .ok (.iaload, 1) := by decide +kernel
theorem dX0_take_34 : decode cX0_take 34 = .ok (.invokevirtual 48, 3) := by decide +kernel
theorem dX0_take_37 : decode cX0_take 37 = .ok (.return_, 1) := by decide +kernel
theorem dX0_change_0 : decode cX0_change 0 = .ok (.aload_n 0, 1) := by decide +kernel
theorem dX0_change_1 : decode cX0_change 1 = .ok (.iload_n 1, 1) := by decide +kernel
theorem dX0_change_2 : decode cX0_change 2 = .ok (.invokevirtual 41, 3) := by decide +kernel
theorem dX0_change_5 : decode cX0_change 5 = .ok (.ifCond .eq 17, 3) := by decide +kernel
theorem dX0_change_8 : decode cX0_change 8 = .ok (.aload_n 0, 1) := by decide +kernel
theorem dX0_change_9 : decode cX0_change 9 = .ok (.getfield 24, 3) := by decide +kernel
theorem dX0_change_12 : decode cX0_change 12 = .ok (.iload_n 1, 1) := by decide +kernel
theorem dX0_change_13 : decode cX0_change 13 = .ok (.iconst 1, 1) := by decide +kernel
theorem dX0_change_14 : decode cX0_change 14 = .ok (.iastore, 1) := by decide +kernel
theorem dX0_change_15 : decode cX0_change 15 = .ok (.aload_n 0, 1) := by decide +kernel
theorem dX0_change_16 : decode cX0_change 16 = .ok (.getfield 27, 3) := by decide +kernel
theorem dX0_change_19 : decode cX0_change 19 = .ok (.iload_n 1, 1) := by decide +kernel
theorem dX0_change_20 : decode cX0_change 20 = .ok (.iload_n 2, 1) := by decide +kernel
theorem dX0_change_21 : decode cX0_change 21 = .ok (.iastore, 1) := by decide +kernel
theorem dX0_change_22 : decode cX0_change 22 = .ok (.return_, 1) := by decide +kernel
theorem dX0_hasSworn_0 : decode cX0_hasSworn 0 = .ok (.aload_n 0, 1) := by decide +kernel
theorem dX0_hasSworn_1 : decode cX0_hasSworn 1 = .ok (.iload_n 1, 1) := by decide +kernel
theorem dX0_hasSworn_2 : decode cX0_hasSworn 2 = .ok (.invokevirtual 41, 3) := by decide +kernel
theorem dX0_hasSworn_5 : decode cX0_hasSworn 5 = .ok (.ifCond .eq 32, 3) := by decide +kernel
theorem dX0_hasSworn_8 : decode cX0_hasSworn 8 = .ok (.iload_n 2, 1) := by decide +kernel
theorem dX0_hasSworn_9 : decode cX0_hasSworn 9 = .ok (.ifCond .eq 15, 3) := by decide +kernel
theorem dX0_hasSworn_12 : decode cX0_hasSworn 12 = .ok (.aload_n 0, 1) := by decide +kernel
theorem dX0_hasSworn_13 : decode cX0_hasSworn 13 = .ok (.getfield 30, 3) := by decide +kernel
theorem dX0_hasSworn_16 : decode cX0_hasSworn 16 = .ok (.iload_n 1, 1) := by decide +kernel
theorem dX0_hasSworn_17 : decode cX0_hasSworn 17 = .ok (.baload, 1) := by decide +kernel
theorem dX0_hasSworn_18 : decode cX0_hasSworn 18 = .ok (.ifCond .eq 19, 3) := by decide +kernel
theorem dX0_hasSworn_21 : decode cX0_hasSworn 21 = .ok (.goto 12, 3) := by decide +kernel
theorem dX0_hasSworn_24 : decode cX0_hasSworn 24 = .ok (.aload_n 0, 1) := by decide +kernel
theorem dX0_hasSworn_25 : decode cX0_hasSworn 25 = .ok (.getfield 34, 3) := by decide +kernel
theorem dX0_hasSworn_28 : decode cX0_hasSworn 28 = .ok (.iload_n 1, 1) := by decide +kernel
theorem dX0_hasSworn_29 : decode cX0_hasSworn 29 = .ok (.baload, 1) := by decide +kernel
theorem dX0_hasSworn_30 : decode cX0_hasSworn 30 = .ok (.ifCond .eq 7, 3) := by decide +kernel
theorem dX0_hasSworn_33 : decode cX0_hasSworn 33 = .ok (.iconst 1, 1) := by decide +kernel
theorem dX0_hasSworn_34 : decode cX0_hasSworn 34 = .ok (.goto 4, 3) := by decide +kernel
theorem dX0_hasSworn_37 : decode cX0_hasSworn 37 = .ok (.iconst 0, 1) := by decide +kernel
theorem dX0_hasSworn_38 : decode cX0_hasSworn 38 = .ok (.ireturn, 1) := by decide +kernel
theorem dX0_hearOath_0 : decode cX0_hearOath 0 = .ok (.aload_n 0, 1) := by decide +kernel
theorem dX0_hearOath_1 : decode cX0_hearOath 1 = .ok (.iload_n 1, 1) := by decide +kernel
theorem dX0_hearOath_2 : decode cX0_hearOath 2 = .ok (.invokevirtual 41, 3) := by decide +kernel
theorem dX0_hearOath_5 : decode cX0_hearOath 5 = .ok (.ifCond .ne 4, 3) := by decide +kernel
theorem dX0_hearOath_8 : decode cX0_hearOath 8 = .ok (.return_, 1) := by decide +kernel
theorem dX0_hearOath_9 : decode cX0_hearOath 9 = .ok (.iload_n 2, 1) := by decide +kernel
theorem dX0_hearOath_10 : decode cX0_hearOath 10 = .ok (.ifCond .eq 13, 3) := by decide +kernel
theorem dX0_hearOath_13 : decode cX0_hearOath 13 = .ok (.aload_n 0, 1) := by decide +kernel
theorem dX0_hearOath_14 : decode cX0_hearOath 14 = .ok (.getfield 30, 3) := by decide +kernel
theorem dX0_hearOath_17 : decode cX0_hearOath 17 = .ok (.iload_n 1, 1) := by decide +kernel
theorem dX0_hearOath_18 : decode cX0_hearOath 18 = .ok (.iconst 1, 1) := by decide +kernel
theorem dX0_hearOath_19 : decode cX0_hearOath 19 = .ok (.bastore, 1) := by decide +kernel
theorem dX0_hearOath_20 : decode cX0_hearOath 20 = .ok (.goto 10, 3) := by decide +kernel
theorem dX0_hearOath_23 : decode cX0_hearOath 23 = .ok (.aload_n 0, 1) := by decide +kernel
theorem dX0_hearOath_24 : decode cX0_hearOath 24 = .ok (.getfield 34, 3) := by decide +kernel
theorem dX0_hearOath_27 : decode cX0_hearOath 27 = .ok (.iload_n 1, 1) := by decide +kernel
theorem dX0_hearOath_28 : decode cX0_hearOath 28 = .ok (.iconst 1, 1) := by decide +kernel
theorem dX0_hearOath_29 : decode cX0_hearOath 29 = .ok (.bastore, 1) := by decide +kernel
theorem dX0_hearOath_30 : decode cX0_hearOath 30 = .ok (.aload_n 0, 1) := by decide +kernel
theorem dX0_hearOath_31 : decode cX0_hearOath 31 = .ok (.getfield 30, 3) := by decide +kernel
theorem dX0_hearOath_34 : decode cX0_hearOath 34 = .ok (.iload_n 1, 1) := by decide +kernel
theorem dX0_hearOath_35 : decode cX0_hearOath 35 = .ok (.baload, 1) := by decide +kernel
theorem dX0_hearOath_36 : decode cX0_hearOath 36 = .ok (.ifCond .eq 35, 3) := by decide +kernel
theorem dX0_hearOath_39 : decode cX0_hearOath 39 = .ok (.aload_n 0, 1) := by decide +kernel
theorem dX0_hearOath_40 : decode cX0_hearOath 40 = .ok (.getfield 34, 3) := by decide +kernel
theorem dX0_hearOath_43 : decode cX0_hearOath 43 = .ok (.iload_n 1, 1) := by decide +kernel
theorem dX0_hearOath_44 : decode cX0_hearOath 44 = .ok (.baload, 1) := by decide +kernel
theorem dX0_hearOath_45 : decode cX0_hearOath 45 = .ok (.ifCond .eq 26, 3) := by decide +kernel
theorem dX0_hearOath_48 : decode cX0_hearOath 48 = .ok (.aload_n 0, 1) := by decide +kernel
theorem dX0_hearOath_49 : decode cX0_hearOath 49 = .ok (.getfield 24, 3) := by decide +kernel
theorem dX0_hearOath_52 : decode cX0_hearOath 52 = .ok (.iload_n 1, 1) := by decide +kernel
theorem dX0_hearOath_53 : decode cX0_hearOath 53 = .ok (.iconst 3, 1) := by decide +kernel
theorem dX0_hearOath_54 : decode cX0_hearOath 54 = .ok (.iastore, 1) := by decide +kernel
theorem dX0_hearOath_55 : decode cX0_hearOath 55 = .ok (.aload_n 3, 1) := by decide +kernel
theorem dX0_hearOath_56 : decode cX0_hearOath 56 = .ok (.aload_n 0, 1) := by decide +kernel
theorem dX0_hearOath_57 : decode cX0_hearOath 57 = .ok (.getfield 9, 3) := by decide +kernel
theorem dX0_hearOath_60 : decode cX0_hearOath 60 = .ok (.iload_n 1, 1) := by decide +kernel
theorem dX0_hearOath_61 : decode cX0_hearOath 61 = .ok (.iaload, 1) := by decide +kernel
theorem dX0_hearOath_62 : decode cX0_hearOath 62 = .ok (.aload_n 0, 1) := by decide +kernel
theorem dX0_hearOath_63 : decode cX0_hearOath 63 = .ok (.getfield 15, 3) := by decide +kernel
theorem dX0_hearOath_66 : decode cX0_hearOath 66 = .ok (.iload_n 1, 1) := by decide +kernel
theorem dX0_hearOath_67 : decode cX0_hearOath 67 = .ok (.iaload, 1) := by decide +kernel
theorem dX0_hearOath_68 : decode cX0_hearOath 68 = .ok (.invokevirtual 54, 3) := by decide +kernel
theorem dX0_hearOath_71 : decode cX0_hearOath 71 = .ok (.return_, 1) := by decide +kernel
theorem dX0_judgeBeyond_0 : decode cX0_judgeBeyond 0 = .ok (.iconst 0, 1) := by decide +kernel
theorem dX0_judgeBeyond_1 : decode cX0_judgeBeyond 1 = .ok (.istore_n 3, 1) := by decide +kernel
theorem dX0_judgeBeyond_2 : decode cX0_judgeBeyond 2 = .ok (.iload_n 3, 1) := by decide +kernel
theorem dX0_judgeBeyond_3 : decode cX0_judgeBeyond 3 = .ok (.aload_n 0, 1) := by decide +kernel
theorem dX0_judgeBeyond_4 : decode cX0_judgeBeyond 4 = .ok (.getfield 37, 3) := by decide +kernel
theorem dX0_judgeBeyond_7 : decode cX0_judgeBeyond 7 = .ok (.if_icmp .ge 33, 3) := by decide +kernel
theorem dX0_judgeBeyond_10 : decode cX0_judgeBeyond 10 = .ok (.aload_n 0, 1) := by decide +kernel
theorem dX0_judgeBeyond_11 : decode cX0_judgeBeyond 11 = .ok (.iload_n 3, 1) := by decide +kernel
theorem dX0_judgeBeyond_12 : decode cX0_judgeBeyond 12 = .ok (.invokevirtual 45, 3) := by decide +kernel
theorem dX0_judgeBeyond_15 : decode cX0_judgeBeyond 15 = .ok (.ifCond .eq 19, 3) := by decide +kernel
theorem dX0_judgeBeyond_18 : decode cX0_judgeBeyond 18 = .ok (.iload_n 1, 1) := by decide +kernel
theorem dX0_judgeBeyond_19 : decode cX0_judgeBeyond 19 = .ok (.aload_n 0, 1) := by decide +kernel
theorem dX0_judgeBeyond_20 : decode cX0_judgeBeyond 20 = .ok (.getfield 27, 3) := by decide +kernel
theorem dX0_judgeBeyond_23 : decode cX0_judgeBeyond 23 = .ok (.iload_n 3, 1) := by decide +kernel
theorem dX0_judgeBeyond_24 : decode cX0_judgeBeyond 24 = .ok (.iaload, 1) := by decide +kernel
theorem dX0_judgeBeyond_25 : decode cX0_judgeBeyond 25 = .ok (.if_icmp .le 9, 3) := by decide +kernel
theorem dX0_judgeBeyond_28 : decode cX0_judgeBeyond 28 = .ok (.aload_n 0, 1) := by decide +kernel
theorem dX0_judgeBeyond_29 : decode cX0_judgeBeyond 29 = .ok (.iload_n 3, 1) := by decide +kernel
theorem dX0_judgeBeyond_30 : decode cX0_judgeBeyond 30 = .ok (.aload_n 2, 1) := by decide +kernel
theorem dX0_judgeBeyond_31 : decode cX0_judgeBeyond 31 = .ok (.invokevirtual 58, 3) := by decide +kernel
theorem dX0_judgeBeyond_34 : decode cX0_judgeBeyond 34 = .ok (.iinc 3 1, 3) := by decide +kernel
theorem dX0_judgeBeyond_37 : decode cX0_judgeBeyond 37 = .ok (.goto (-35), 3) := by decide +kernel
theorem dX0_judgeBeyond_40 : decode cX0_judgeBeyond 40 = .ok (.return_, 1) := by decide +kernel
theorem dX0_judgeAll_0 : decode cX0_judgeAll 0 = .ok (.iconst 0, 1) := by decide +kernel
theorem dX0_judgeAll_1 : decode cX0_judgeAll 1 = .ok (.istore_n 2, 1) := by decide +kernel
theorem dX0_judgeAll_2 : decode cX0_judgeAll 2 = .ok (.iload_n 2, 1) := by decide +kernel
theorem dX0_judgeAll_3 : decode cX0_judgeAll 3 = .ok (.aload_n 0, 1) := by decide +kernel
theorem dX0_judgeAll_4 : decode cX0_judgeAll 4 = .ok (.getfield 37, 3) := by decide +kernel
theorem dX0_judgeAll_7 : decode cX0_judgeAll 7 = .ok (.if_icmp .ge 23, 3) := by decide +kernel
theorem dX0_judgeAll_10 : decode cX0_judgeAll 10 = .ok (.aload_n 0, 1) := by decide +kernel
theorem dX0_judgeAll_11 : decode cX0_judgeAll 11 = .ok (.iload_n 2, 1) := by decide +kernel
theorem dX0_judgeAll_12 : decode cX0_judgeAll 12 = .ok (.invokevirtual 45, 3) := by decide +kernel
theorem dX0_judgeAll_15 : decode cX0_judgeAll 15 = .ok (.ifCond .eq 9, 3) := by decide +kernel
theorem dX0_judgeAll_18 : decode cX0_judgeAll 18 = .ok (.aload_n 0, 1) := by decide +kernel
theorem dX0_judgeAll_19 : decode cX0_judgeAll 19 = .ok (.iload_n 2, 1) := by decide +kernel
theorem dX0_judgeAll_20 : decode cX0_judgeAll 20 = .ok (.aload_n 1, 1) := by decide +kernel
theorem dX0_judgeAll_21 : decode cX0_judgeAll 21 = .ok (.invokevirtual 58, 3) := by decide +kernel
theorem dX0_judgeAll_24 : decode cX0_judgeAll 24 = .ok (.iinc 2 1, 3) := by decide +kernel
theorem dX0_judgeAll_27 : decode cX0_judgeAll 27 = .ok (.goto (-25), 3) := by decide +kernel
theorem dX0_judgeAll_30 : decode cX0_judgeAll 30 = .ok (.return_, 1) := by decide +kernel
theorem dX0_foreseeVerdicts_0 : decode cX0_foreseeVerdicts 0 = .ok (.iconst 0, 1) := by decide +kernel
theorem dX0_foreseeVerdicts_1 : decode cX0_foreseeVerdicts 1 = .ok (.istore_n 2, 1) := by decide +kernel
theorem dX0_foreseeVerdicts_2 : decode cX0_foreseeVerdicts 2 = .ok (.iload_n 2, 1) := by decide +kernel
theorem dX0_foreseeVerdicts_3 : decode cX0_foreseeVerdicts 3 = .ok (.aload_n 0, 1) := by decide +kernel
theorem dX0_foreseeVerdicts_4 : decode cX0_foreseeVerdicts 4 = .ok (.getfield 37, 3) := by decide +kernel
theorem dX0_foreseeVerdicts_7 : decode cX0_foreseeVerdicts 7 = .ok (.if_icmp .ge 29, 3) := by decide +kernel
theorem dX0_foreseeVerdicts_10 : decode cX0_foreseeVerdicts 10 = .ok (.aload_n 0, 1) := by decide +kernel
theorem dX0_foreseeVerdicts_11 : decode cX0_foreseeVerdicts 11 = .ok (.iload_n 2, 1) := by decide +kernel
theorem dX0_foreseeVerdicts_12 : decode cX0_foreseeVerdicts 12 = .ok (.invokevirtual 45, 3) := by decide +kernel
theorem dX0_foreseeVerdicts_15 : decode cX0_foreseeVerdicts 15 = .ok (.ifCond .eq 15, 3) := by decide +kernel
theorem dX0_foreseeVerdicts_18 : decode cX0_foreseeVerdicts 18 = .ok (.aload_n 0, 1) := by decide +kernel
theorem dX0_foreseeVerdicts_19 : decode cX0_foreseeVerdicts 19 = .ok (.iload_n 2, 1) := by decide +kernel
theorem dX0_foreseeVerdicts_20 : decode cX0_foreseeVerdicts 20 = .ok (.aload_n 0, 1) := by decide +kernel
theorem dX0_foreseeVerdicts_21 : decode cX0_foreseeVerdicts 21 = .ok (.iload_n 2, 1) := by decide +kernel
theorem dX0_foreseeVerdicts_22 : decode cX0_foreseeVerdicts 22 = .ok (.aload_n 1, 1) := by decide +kernel
theorem dX0_foreseeVerdicts_23 : decode cX0_foreseeVerdicts 23 = .ok (.invokevirtual 62, 3) := by decide +kernel
theorem dX0_foreseeVerdicts_26 : decode cX0_foreseeVerdicts 26 = .ok (.aload_n 1, 1) := by decide +kernel
theorem dX0_foreseeVerdicts_27 : decode cX0_foreseeVerdicts 27 = .ok (.invokevirtual 66, 3) := by decide +kernel
theorem dX0_foreseeVerdicts_30 : decode cX0_foreseeVerdicts 30 = .ok (.iinc 2 1, 3) := by decide +kernel
theorem dX0_foreseeVerdicts_33 : decode cX0_foreseeVerdicts 33 = .ok (.goto (-31), 3) := by decide +kernel
theorem dX0_foreseeVerdicts_36 : decode cX0_foreseeVerdicts 36 = .ok (.return_, 1) := by decide +kernel
theorem dX0_judge_0 : decode cX0_judge 0 = .ok (.aload_n 0, 1) := by decide +kernel
theorem dX0_judge_1 : decode cX0_judge 1 = .ok (.iload_n 1, 1) := by decide +kernel
theorem dX0_judge_2 : decode cX0_judge 2 = .ok (.invokevirtual 41, 3) := by decide +kernel
theorem dX0_judge_5 : decode cX0_judge 5 = .ok (.ifCond .eq 27, 3) := by decide +kernel
theorem dX0_judge_8 : decode cX0_judge 8 = .ok (.aload_n 0, 1) := by decide +kernel
theorem dX0_judge_9 : decode cX0_judge 9 = .ok (.getfield 24, 3) := by decide +kernel
theorem dX0_judge_12 : decode cX0_judge 12 = .ok (.iload_n 1, 1) := by decide +kernel
theorem dX0_judge_13 : decode cX0_judge 13 = .ok (.aload_n 0, 1) := by decide +kernel
theorem dX0_judge_14 : decode cX0_judge 14 = .ok (.iload_n 1, 1) := by decide +kernel
theorem dX0_judge_15 : decode cX0_judge 15 = .ok (.aload_n 2, 1) := by decide +kernel
theorem dX0_judge_16 : decode cX0_judge 16 = .ok (.invokevirtual 62, 3) := by decide +kernel
theorem dX0_judge_19 : decode cX0_judge 19 = .ok (.iastore, 1) := by decide +kernel
theorem dX0_judge_20 : decode cX0_judge 20 = .ok (.aload_n 0, 1) := by decide +kernel
theorem dX0_judge_21 : decode cX0_judge 21 = .ok (.iload_n 1, 1) := by decide +kernel
theorem dX0_judge_22 : decode cX0_judge 22 = .ok (.aload_n 0, 1) := by decide +kernel
theorem dX0_judge_23 : decode cX0_judge 23 = .ok (.getfield 24, 3) := by decide +kernel
theorem dX0_judge_26 : decode cX0_judge 26 = .ok (.iload_n 1, 1) := by decide +kernel
theorem dX0_judge_27 : decode cX0_judge 27 = .ok (.iaload, 1) := by decide +kernel
theorem dX0_judge_28 : decode cX0_judge 28 = .ok (.aload_n 2, 1) := by decide +kernel
theorem dX0_judge_29 : decode cX0_judge 29 = .ok (.invokevirtual 66, 3) := by decide +kernel
theorem dX0_judge_32 : decode cX0_judge 32 = .ok (.return_, 1) := by decide +kernel
theorem dX0_verdictOn_0 : decode cX0_verdictOn 0 = .ok (.aload_n 0, 1) := by decide +kernel
theorem dX0_verdictOn_1 : decode cX0_verdictOn 1 = .ok (.iload_n 1, 1) := by decide +kernel
theorem dX0_verdictOn_2 : decode cX0_verdictOn 2 = .ok (.invokevirtual 41, 3) := by decide +kernel
theorem dX0_verdictOn_5 : decode cX0_verdictOn 5 = .ok (.ifCond .ne 5, 3) := by decide +kernel
theorem dX0_verdictOn_8 : decode cX0_verdictOn 8 = .ok (.iconst (-1), 1) := by decide +kernel
theorem dX0_verdictOn_9 : decode cX0_verdictOn 9 = .ok (.ireturn, 1) := by decide +kernel
theorem dX0_verdictOn_10 : decode cX0_verdictOn 10 = .ok (.aload_n 0, 1) := by decide +kernel
theorem dX0_verdictOn_11 : decode cX0_verdictOn 11 = .ok (.getfield 24, 3) := by decide +kernel
theorem dX0_verdictOn_14 : decode cX0_verdictOn 14 = .ok (.iload_n 1, 1) := by decide +kernel
theorem dX0_verdictOn_15 : decode cX0_verdictOn 15 = .ok (.iaload, 1) := by decide +kernel
theorem dX0_verdictOn_16 : decode cX0_verdictOn 16 = .ok (.ifCond .ne 35, 3) := by decide +kernel
theorem dX0_verdictOn_19 : decode cX0_verdictOn 19 = .ok (.aload_n 2, 1) := by decide +kernel
theorem dX0_verdictOn_20 : decode cX0_verdictOn 20 = .ok (.aload_n 0, 1) := by decide +kernel
theorem dX0_verdictOn_21 : decode cX0_verdictOn 21 = .ok (.getfield 15, 3) := by decide +kernel
theorem dX0_verdictOn_24 : decode cX0_verdictOn 24 = .ok (.iload_n 1, 1) := by decide +kernel
theorem dX0_verdictOn_25 : decode cX0_verdictOn 25 = .ok (.iaload, 1) := by decide +kernel
theorem dX0_verdictOn_26 : decode cX0_verdictOn 26 = .ok (.invokevirtual 70, 3) := by decide +kernel
theorem dX0_verdictOn_29 : decode cX0_verdictOn 29 = .ok (.aload_n 2, 1) := by decide +kernel
theorem dX0_verdictOn_30 : decode cX0_verdictOn 30 = .ok (.aload_n 0, 1) := by decide +kernel
theorem dX0_verdictOn_31 : decode cX0_verdictOn 31 = .ok (.getfield 9, 3) := by decide +kernel
theorem dX0_verdictOn_34 : decode cX0_verdictOn 34 = .ok (.iload_n 1, 1) := by decide +kernel
theorem dX0_verdictOn_35 : decode cX0_verdictOn 35 = .ok (.iaload, 1) := by decide +kernel
theorem dX0_verdictOn_36 : decode cX0_verdictOn 36 = .ok (.invokevirtual 70, 3) := by decide +kernel
theorem dX0_verdictOn_39 : decode cX0_verdictOn 39 = .ok (.if_icmp .le 7, 3) := by decide +kernel
theorem dX0_verdictOn_42 : decode cX0_verdictOn 42 = .ok (.iconst 1, 1) := by decide +kernel
theorem dX0_verdictOn_43 : decode cX0_verdictOn 43 = .ok (.goto 4, 3) := by decide +kernel
theorem dX0_verdictOn_46 : decode cX0_verdictOn 46 = .ok (.iconst 0, 1) := by decide +kernel
theorem dX0_verdictOn_47 : decode cX0_verdictOn 47 = .ok (.istore_n 3, 1) := by decide +kernel
theorem dX0_verdictOn_48 : decode cX0_verdictOn 48 = .ok (.goto 27, 3) := by decide +kernel
theorem dX0_verdictOn_51 : decode cX0_verdictOn 51 = .ok (.aload_n 0, 1) := by decide +kernel
theorem dX0_verdictOn_52 : decode cX0_verdictOn 52 = .ok (.getfield 30, 3) := by decide +kernel
theorem dX0_verdictOn_55 : decode cX0_verdictOn 55 = .ok (.iload_n 1, 1) := by decide +kernel
theorem dX0_verdictOn_56 : decode cX0_verdictOn 56 = .ok (.baload, 1) := by decide +kernel
theorem dX0_verdictOn_57 : decode cX0_verdictOn 57 = .ok (.ifCond .eq 16, 3) := by decide +kernel
theorem dX0_verdictOn_60 : decode cX0_verdictOn 60 = .ok (.aload_n 0, 1) := by decide +kernel
theorem dX0_verdictOn_61 : decode cX0_verdictOn 61 = .ok (.getfield 34, 3) := by decide +kernel
theorem dX0_verdictOn_64 : decode cX0_verdictOn 64 = .ok (.iload_n 1, 1) := by decide +kernel
theorem dX0_verdictOn_65 : decode cX0_verdictOn 65 = .ok (.baload, 1) := by decide +kernel
theorem dX0_verdictOn_66 : decode cX0_verdictOn 66 = .ok (.ifCond .ne 7, 3) := by decide +kernel
theorem dX0_verdictOn_69 : decode cX0_verdictOn 69 = .ok (.iconst 1, 1) := by decide +kernel
theorem dX0_verdictOn_70 : decode cX0_verdictOn 70 = .ok (.goto 4, 3) := by decide +kernel
theorem dX0_verdictOn_73 : decode cX0_verdictOn 73 = .ok (.iconst 0, 1) := by decide +kernel
theorem dX0_verdictOn_74 : decode cX0_verdictOn 74 = .ok (.istore_n 3, 1) := by decide +kernel
theorem dX0_verdictOn_75 : decode cX0_verdictOn 75 = .ok (.iload_n 3, 1) := by decide +kernel
theorem dX0_verdictOn_76 : decode cX0_verdictOn 76 = .ok (.ifCond .eq 7, 3) := by decide +kernel
theorem dX0_verdictOn_79 : decode cX0_verdictOn 79 = .ok (.iconst 4, 1) := by decide +kernel
theorem dX0_verdictOn_80 : decode cX0_verdictOn 80 = .ok (.goto 4, 3) := by decide +kernel
theorem dX0_verdictOn_83 : decode cX0_verdictOn 83 = .ok (.iconst 5, 1) := by decide +kernel
theorem dX0_verdictOn_84 : decode cX0_verdictOn 84 = .ok (.ireturn, 1) := by decide +kernel
theorem dX0_carryOut_0 : decode cX0_carryOut 0 = .ok (.aload_n 0, 1) := by decide +kernel
theorem dX0_carryOut_1 : decode cX0_carryOut 1 = .ok (.iload_n 1, 1) := by decide +kernel
theorem dX0_carryOut_2 : decode cX0_carryOut 2 = .ok (.invokevirtual 41, 3) := by decide +kernel
theorem dX0_carryOut_5 : decode cX0_carryOut 5 = .ok (.ifCond .eq 30, 3) := by decide +kernel
theorem dX0_carryOut_8 : decode cX0_carryOut 8 = .ok (.iload_n 2, 1) := by decide +kernel
theorem dX0_carryOut_9 : decode cX0_carryOut 9 = .ok (.iconst 4, 1) := by decide +kernel
theorem dX0_carryOut_10 : decode cX0_carryOut 10 = .ok (.if_icmp .ne 25, 3) := by decide +kernel
theorem dX0_carryOut_13 : decode cX0_carryOut 13 = .ok (.aload_n 3, 1) := by decide +kernel
theorem dX0_carryOut_14 : decode cX0_carryOut 14 = .ok (.aload_n 0, 1) := by decide +kernel
theorem dX0_carryOut_15 : decode cX0_carryOut 15 = .ok (.getfield 18, 3) := by decide +kernel
theorem dX0_carryOut_18 : decode cX0_carryOut 18 = .ok (.iload_n 1, 1) := by decide +kernel
theorem dX0_carryOut_19 : decode cX0_carryOut 19 = .ok (.iaload, 1) := by decide +kernel
theorem dX0_carryOut_20 : decode cX0_carryOut 20 = .ok (.aload_n 0, 1) := by decide +kernel
theorem dX0_carryOut_21 : decode cX0_carryOut 21 = .ok (.getfield 9, 3) := by decide +kernel
theorem dX0_carryOut_24 : decode cX0_carryOut 24 = .ok (.iload_n 1, 1) := by decide +kernel
theorem dX0_carryOut_25 : decode cX0_carryOut 25 = .ok (.iaload, 1) := by decide +kernel
theorem dX0_carryOut_26 : decode cX0_carryOut 26 = .ok (.aload_n 0, 1) := by decide +kernel
theorem dX0_carryOut_27 : decode cX0_carryOut 27 = .ok (.getfield 15, 3) := by decide +kernel
theorem dX0_carryOut_30 : decode cX0_carryOut 30 = .ok (.iload_n 1, 1) := by decide +kernel
theorem dX0_carryOut_31 : decode cX0_carryOut 31 = .ok (.iaload, 1) := by decide +kernel
theorem dX0_carryOut_32 : decode cX0_carryOut 32 = .ok (.invokevirtual 48, 3) := by decide +kernel
theorem dX0_carryOut_35 : decode cX0_carryOut 35 = .ok (.return_, 1) := by decide +kernel
theorem dX0_isRunning_0 : decode cX0_isRunning 0 = .ok (.aload_n 0, 1) := by decide +kernel
theorem dX0_isRunning_1 : decode cX0_isRunning 1 = .ok (.iload_n 1, 1) := by decide +kernel
theorem dX0_isRunning_2 : decode cX0_isRunning 2 = .ok (.invokevirtual 74, 3) := by decide +kernel
theorem dX0_isRunning_5 : decode cX0_isRunning 5 = .ok (.istore_n 2, 1) := by decide +kernel
theorem dX0_isRunning_6 : decode cX0_isRunning 6 = .ok (.iload_n 2, 1) := by decide +kernel
theorem dX0_isRunning_7 : decode cX0_isRunning 7 = .ok (.ifCond .eq 8, 3) := by decide +kernel
theorem dX0_isRunning_10 : decode cX0_isRunning 10 = .ok (.iload_n 2, 1) := by decide +kernel
theorem dX0_isRunning_11 : decode cX0_isRunning 11 = .ok (.iconst 1, 1) := by decide +kernel
theorem dX0_isRunning_12 : decode cX0_isRunning 12 = .ok (.if_icmp .ne 7, 3) := by decide +kernel
theorem dX0_isRunning_15 : decode cX0_isRunning 15 = .ok (.iconst 1, 1) := by decide +kernel
theorem dX0_isRunning_16 : decode cX0_isRunning 16 = .ok (.goto 4, 3) := by decide +kernel
theorem dX0_isRunning_19 : decode cX0_isRunning 19 = .ok (.iconst 0, 1) := by decide +kernel
theorem dX0_isRunning_20 : decode cX0_isRunning 20 = .ok (.ireturn, 1) := by decide +kernel
theorem dX0_has_0 : decode cX0_has 0 = .ok (.iload_n 1, 1) := by decide +kernel
theorem dX0_has_1 : decode cX0_has 1 = .ok (.ifCond .lt 21, 3) := by decide +kernel
theorem dX0_has_4 : decode cX0_has 4 = .ok (.iload_n 1, 1) := by decide +kernel
theorem dX0_has_5 : decode cX0_has 5 = .ok (.aload_n 0, 1) := by decide +kernel
theorem dX0_has_6 : decode cX0_has 6 = .ok (.getfield 37, 3) := by decide +kernel
theorem dX0_has_9 : decode cX0_has 9 = .ok (.if_icmp .ge 13, 3) := by decide +kernel
theorem dX0_has_12 : decode cX0_has 12 = .ok (.iload_n 1, 1) := by decide +kernel
theorem dX0_has_13 : decode cX0_has 13 = .ok (.bipush 40, 2) := by decide +kernel
theorem dX0_has_15 : decode cX0_has 15 = .ok (.if_icmp .ge 7, 3) := by decide +kernel
theorem dX0_has_18 : decode cX0_has 18 = .ok (.iconst 1, 1) := by decide +kernel
theorem dX0_has_19 : decode cX0_has 19 = .ok (.goto 4, 3) := by decide +kernel
theorem dX0_has_22 : decode cX0_has 22 = .ok (.iconst 0, 1) := by decide +kernel
theorem dX0_has_23 : decode cX0_has 23 = .ok (.ireturn, 1) := by decide +kernel
theorem dX1_init_0 : decode cX1_init 0 = .ok (.aload_n 0, 1) := by decide +kernel
theorem dX1_init_1 : decode cX1_init 1 = .ok (.invokespecial 3, 3) := by decide +kernel
theorem dX1_init_4 : decode cX1_init 4 = .ok (.aload_n 0, 1) := by decide +kernel
theorem dX1_init_5 : decode cX1_init 5 = .ok (.aload_n 1, 1) := by decide +kernel
theorem dX1_init_6 : decode cX1_init 6 = .ok (.putfield 9, 3) := by decide +kernel
theorem dX1_init_9 : decode cX1_init 9 = .ok (.aload_n 0, 1) := by decide +kernel
theorem dX1_init_10 : decode cX1_init 10 = .ok (.iconst 4, 1) := by decide +kernel
theorem dX1_init_11 : decode cX1_init 11 = .ok (.newarray .boolean, 2) := by decide +kernel
theorem dX1_init_13 : decode cX1_init 13 = .ok (.putfield 15, 3) := by decide +kernel
theorem dX1_init_16 : decode cX1_init 16 = .ok (.aload_n 0, 1) := by decide +kernel
theorem dX1_init_17 : decode cX1_init 17 = .ok (.iconst 0, 1) := by decide +kernel
theorem dX1_init_18 : decode cX1_init 18 = .ok (.putfield 19, 3) := by decide +kernel
theorem dX1_init_21 : decode cX1_init 21 = .ok (.aload_n 0, 1) := by decide +kernel
theorem dX1_init_22 : decode cX1_init 22 = .ok (.iconst 0, 1) := by decide +kernel
theorem dX1_init_23 : decode cX1_init 23 = .ok (.putfield 23, 3) := by decide +kernel
theorem dX1_init_26 : decode cX1_init 26 = .ok (.aload_n 0, 1) := by decide +kernel
theorem dX1_init_27 : decode cX1_init 27 = .ok (.iconst 0, 1) := by decide +kernel
theorem dX1_init_28 : decode cX1_init 28 = .ok (.putfield 26, 3) := by decide +kernel
theorem dX1_init_31 : decode cX1_init 31 = .ok (.aload_n 0, 1) := by decide +kernel
theorem dX1_init_32 : decode cX1_init 32 = .ok (.iconst (-1), 1) := by decide +kernel
theorem dX1_init_33 : decode cX1_init 33 = .ok (.putfield 29, 3) := by decide +kernel
theorem dX1_init_36 : decode cX1_init 36 = .ok (.return_, 1) := by decide +kernel
theorem dX1_faultKind_0 : decode cX1_faultKind 0 = .ok (.aload_n 0, 1) := by decide +kernel
theorem dX1_faultKind_1 : decode cX1_faultKind 1 = .ok (.getfield 26, 3) := by decide +kernel
theorem dX1_faultKind_4 : decode cX1_faultKind 4 = .ok (.ireturn, 1) := by decide +kernel
theorem dX1_faultPlace_0 : decode cX1_faultPlace 0 = .ok (.aload_n 0, 1) := by decide +kernel
theorem dX1_faultPlace_1 : decode cX1_faultPlace 1 = .ok (.getfield 29, 3) := by decide +kernel
theorem dX1_faultPlace_4 : decode cX1_faultPlace 4 = .ok (.ireturn, 1) := by decide +kernel
theorem dX1_read_0 : decode cX1_read 0 = .ok (.aload_n 0, 1) := by decide +kernel
theorem dX1_read_1 : decode cX1_read 1 = .ok (.iload_n 1, 1) := by decide +kernel
theorem dX1_read_2 : decode cX1_read 2 = .ok (.putfield 19, 3) := by decide +kernel
theorem dX1_read_5 : decode cX1_read 5 = .ok (.aload_n 0, 1) := by decide +kernel
theorem dX1_read_6 : decode cX1_read 6 = .ok (.iconst 0, 1) := by decide +kernel
theorem dX1_read_7 : decode cX1_read 7 = .ok (.putfield 23, 3) := by decide +kernel
theorem dX1_read_10 : decode cX1_read 10 = .ok (.aload_n 0, 1) := by decide +kernel
theorem dX1_read_11 : decode cX1_read 11 = .ok (.iconst 0, 1) := by decide +kernel
theorem dX1_read_12 : decode cX1_read 12 = .ok (.putfield 26, 3) := by decide +kernel
theorem dX1_read_15 : decode cX1_read 15 = .ok (.aload_n 0, 1) := by decide +kernel
theorem dX1_read_16 : decode cX1_read 16 = .ok (.iconst (-1), 1) := by decide +kernel
theorem dX1_read_17 : decode cX1_read 17 = .ok (.putfield 29, 3) := by decide +kernel
theorem dX1_read_20 : decode cX1_read 20 = .ok (.iconst 0, 1) := by decide +kernel
theorem dX1_read_21 : decode cX1_read 21 = .ok (.istore_n 3, 1) := by decide +kernel
theorem dX1_read_22 : decode cX1_read 22 = .ok (.iload_n 3, 1) := by decide +kernel
theorem dX1_read_23 : decode cX1_read 23 = .ok (.aload_n 0, 1) := by decide +kernel
theorem dX1_read_24 : decode cX1_read 24 = .ok (.getfield 15, 3) := by decide +kernel
theorem dX1_read_27 : decode cX1_read 27 = .ok (.arraylength, 1) := by decide +kernel
theorem dX1_read_28 : decode cX1_read 28 = .ok (.if_icmp .ge 16, 3) := by decide +kernel
theorem dX1_read_31 : decode cX1_read 31 = .ok (.aload_n 0, 1) := by decide +kernel
theorem dX1_read_32 : decode cX1_read 32 = .ok (.getfield 15, 3) := by decide +kernel
theorem dX1_read_35 : decode cX1_read 35 = .ok (.iload_n 3, 1) := by decide +kernel
theorem dX1_read_36 : decode cX1_read 36 = .ok (.iconst 0, 1) := by decide +kernel
theorem dX1_read_37 : decode cX1_read 37 = .ok (.bastore, 1) := by decide +kernel
theorem dX1_read_38 : decode cX1_read 38 = .ok (.iinc 3 1, 3) := by decide +kernel
theorem dX1_read_41 : decode cX1_read 41 = .ok (.goto (-19), 3) := by decide +kernel
theorem dX1_read_44 : decode cX1_read 44 = .ok (.aload_n 2, 1) := by decide +kernel
theorem dX1_read_45 : decode cX1_read 45 = .ok (.invokevirtual 32, 3) := by decide +kernel
theorem dX1_read_48 : decode cX1_read 48 = .ok (.iconst 0, 1) := by decide +kernel
theorem dX1_read_49 : decode cX1_read 49 = .ok (.istore_n 3, 1) := by decide +kernel
theorem dX1_read_50 : decode cX1_read 50 = .ok (.iload_n 3, 1) := by decide +kernel
theorem dX1_read_51 : decode cX1_read 51 = .ok (.sipush 600, 3) := by decide +kernel
theorem dX1_read_54 : decode cX1_read 54 = .ok (.if_icmp .gt 29, 3) := by decide +kernel
theorem dX1_read_57 : decode cX1_read 57 = .ok (.aload_n 0, 1) := by decide +kernel
theorem dX1_read_58 : decode cX1_read 58 = .ok (.invokevirtual 37, 3) := by decide +kernel
theorem dX1_read_61 : decode cX1_read 61 = .ok (.ifCond .eq 22, 3) := by decide +kernel
theorem dX1_read_64 : decode cX1_read 64 = .ok (.aload_n 0, 1) := by decide +kernel
theorem dX1_read_65 : decode cX1_read 65 = .ok (.invokevirtual 41, 3) := by decide +kernel
theorem dX1_read_68 : decode cX1_read 68 = .ok (.iconst (-1), 1) := by decide +kernel
theorem dX1_read_69 : decode cX1_read 69 = .ok (.if_icmp .eq 14, 3) := by decide +kernel
theorem dX1_read_72 : decode cX1_read 72 = .ok (.aload_n 0, 1) := by decide +kernel
theorem dX1_read_73 : decode cX1_read 73 = .ok (.aload_n 2, 1) := by decide +kernel
theorem dX1_read_74 : decode cX1_read 74 = .ok (.invokevirtual 45, 3) := by decide +kernel
theorem dX1_read_77 : decode cX1_read 77 = .ok (.iinc 3 1, 3) := by decide +kernel
theorem dX1_read_80 : decode cX1_read 80 = .ok (.goto (-30), 3) := by decide +kernel
theorem dX1_read_83 : decode cX1_read 83 = .ok (.aload_n 2, 1) := by decide +kernel
theorem dX1_read_84 : decode cX1_read 84 = .ok (.invokevirtual 49, 3) := by decide +kernel
theorem dX1_read_87 : decode cX1_read 87 = .ok (.aload_n 0, 1) := by decide +kernel
theorem dX1_read_88 : decode cX1_read 88 = .ok (.invokevirtual 37, 3) := by decide +kernel
theorem dX1_read_91 : decode cX1_read 91 = .ok (.ireturn, 1) := by decide +kernel
theorem dX1_isSound_0 : decode cX1_isSound 0 = .ok (.aload_n 0, 1) := by decide +kernel
theorem dX1_isSound_1 : decode cX1_isSound 1 = .ok (.getfield 26, 3) := by decide +kernel
theorem dX1_isSound_4 : decode cX1_isSound 4 = .ok (.ifCond .ne 7, 3) := by decide +kernel
theorem dX1_isSound_7 : decode cX1_isSound 7 = .ok (.iconst 1, 1) := by decide +kernel
theorem dX1_isSound_8 : decode cX1_isSound 8 = .ok (.goto 4, 3) := by decide +kernel
theorem dX1_isSound_11 : decode cX1_isSound 11 = .ok (.iconst 0, 1) := by decide +kernel
theorem dX1_isSound_12 : decode cX1_isSound 12 = .ok (.ireturn, 1) := by decide +kernel
theorem dX1_blame_0 : decode cX1_blame 0 = .ok (.aload_n 0, 1) := by decide +kernel
theorem dX1_blame_1 : decode cX1_blame 1 = .ok (.iload_n 1, 1) := by decide +kernel
theorem dX1_blame_2 : decode cX1_blame 2 = .ok (.putfield 26, 3) := by decide +kernel
theorem dX1_blame_5 : decode cX1_blame 5 = .ok (.aload_n 0, 1) := by decide +kernel
theorem dX1_blame_6 : decode cX1_blame 6 = .ok (.iload_n 2, 1) := by decide +kernel
theorem dX1_blame_7 : decode cX1_blame 7 = .ok (.putfield 29, 3) := by decide +kernel
theorem dX1_blame_10 : decode cX1_blame 10 = .ok (.return_, 1) := by decide +kernel
theorem dX1_readLine_0 : decode cX1_readLine 0 = .ok (.aload_n 0, 1) := by decide +kernel
theorem dX1_readLine_1 : decode cX1_readLine 1 = .ok (.getfield 23, 3) := by decide +kernel
theorem dX1_readLine_4 : decode cX1_readLine 4 = .ok (.istore_n 2, 1) := by decide +kernel
theorem dX1_readLine_5 : decode cX1_readLine 5 = .ok (.aload_n 0, 1) := by decide +kernel
theorem dX1_readLine_6 : decode cX1_readLine 6 = .ok (.invokevirtual 52, 3) := by decide +kernel
theorem dX1_readLine_9 : decode cX1_readLine 9 = .ok (.istore_n 3, 1) := by decide +kernel
theorem dX1_readLine_10 : decode cX1_readLine 10 = .ok (.iload_n 3, 1) := by decide +kernel
theorem dX1_readLine_11 : decode cX1_readLine 11 = .ok (.ifCond .lt 12, 3) := by decide +kernel
theorem dX1_readLine_14 : decode cX1_readLine 14 = .ok (.iload_n 3, 1) := by decide +kernel
theorem dX1_readLine_15 : decode cX1_readLine 15 = .ok (.aload_n 0, 1) := by decide +kernel
theorem dX1_readLine_16 : decode cX1_readLine 16 = .ok (.getfield 15, 3) := by decide +kernel
theorem dX1_readLine_19 : decode cX1_readLine 19 = .ok (.arraylength, 1) := by decide +kernel
theorem dX1_readLine_20 : decode cX1_readLine 20 = .ok (.if_icmp .lt 11, 3) := by decide +kernel
theorem dX1_readLine_23 : decode cX1_readLine 23 = .ok (.aload_n 0, 1) := by decide +kernel
theorem dX1_readLine_24 : decode cX1_readLine 24 = .ok (.aload_n 1, 1) := by decide +kernel
theorem dX1_readLine_25 : decode cX1_readLine 25 = .ok (.invokevirtual 55, 3) := by decide +kernel
theorem dX1_readLine_28 : decode cX1_readLine 28 = .ok (.goto 42, 3) := by decide +kernel
theorem dX1_readLine_31 : decode cX1_readLine 31 = .ok (.aload_n 0, 1) := by decide +kernel
theorem dX1_readLine_32 : decode cX1_readLine 32 = .ok (.getfield 15, 3) := by decide +kernel
theorem dX1_readLine_35 : decode cX1_readLine 35 = .ok (.iload_n 3, 1) := by decide +kernel
theorem dX1_readLine_36 : decode cX1_readLine 36 = .ok (.baload, 1) := by decide +kernel
theorem dX1_readLine_37 : decode cX1_readLine 37 = .ok (.ifCond .eq 12, 3) := by decide +kernel
theorem dX1_readLine_40 : decode cX1_readLine 40 = .ok (.aload_n 0, 1) := by decide +kernel
theorem dX1_readLine_41 : decode cX1_readLine 41 = .ok (.iconst 3, 1) := by decide +kernel
theorem dX1_readLine_42 : decode cX1_readLine 42 = .ok (.iload_n 2, 1) := by decide +kernel
theorem dX1_readLine_43 : decode cX1_readLine 43 = .ok (.invokevirtual 58, 3) := by decide +kernel
theorem dX1_readLine_46 : decode cX1_readLine 46 = .ok (.goto 24, 3) := by decide +kernel
theorem dX1_readLine_49 : decode cX1_readLine 49 = .ok (.aload_n 0, 1) := by decide +kernel
theorem dX1_readLine_50 : decode cX1_readLine 50 = .ok (.getfield 15, 3) := by decide +kernel
theorem dX1_readLine_53 : decode cX1_readLine 53 = .ok (.iload_n 3, 1) := by decide +kernel
theorem dX1_readLine_54 : decode cX1_readLine 54 = .ok (.iconst 1, 1) := by decide +kernel
theorem dX1_readLine_55 : decode cX1_readLine 55 = .ok (.bastore, 1) := by decide +kernel
theorem dX1_readLine_56 : decode cX1_readLine 56 = .ok (.aload_n 1, 1) := by decide +kernel
theorem dX1_readLine_57 : decode cX1_readLine 57 = .ok (.iload_n 3, 1) := by decide +kernel
theorem dX1_readLine_58 : decode cX1_readLine 58 = .ok (.aload_n 0, 1) := by decide +kernel
theorem dX1_readLine_59 : decode cX1_readLine 59 = .ok (.iconst 0, 1) := by decide +kernel
theorem dX1_readLine_60 : decode cX1_readLine 60 = .ok (.iload_n 3, 1) := by decide +kernel
theorem dX1_readLine_61 : decode cX1_readLine 61 = .ok (.invokestatic 62, 3) := by decide +kernel
theorem dX1_readLine_64 : decode cX1_readLine 64 = .ok (.invokevirtual 66, 3) := by decide +kernel
theorem dX1_readLine_67 : decode cX1_readLine 67 = .ok (.invokevirtual 70, 3) := by decide +kernel
theorem dX1_readLine_70 : decode cX1_readLine 70 = .ok (.aload_n 0, 1) := by decide +kernel
theorem dX1_readLine_71 : decode cX1_readLine 71 = .ok (.invokevirtual 73, 3) := by decide +kernel
theorem dX1_readLine_74 : decode cX1_readLine 74 = .ok (.return_, 1) := by decide +kernel
theorem dX1_readBurden_0 : decode cX1_readBurden 0 = .ok (.aload_n 0, 1) := by decide +kernel
theorem dX1_readBurden_1 : decode cX1_readBurden 1 = .ok (.ldc 76, 2) := by decide +kernel
theorem dX1_readBurden_3 : decode cX1_readBurden 3 = .ok (.invokevirtual 78, 3) := by decide +kernel
theorem dX1_readBurden_6 : decode cX1_readBurden 6 = .ok (.aload_n 0, 1) := by decide +kernel
theorem dX1_readBurden_7 : decode cX1_readBurden 7 = .ok (.aload_n 1, 1) := by decide +kernel
theorem dX1_readBurden_8 : decode cX1_readBurden 8 = .ok (.invokevirtual 82, 3) := by decide +kernel
theorem dX1_readBurden_11 : decode cX1_readBurden 11 = .ok (.istore_n 2, 1) := by decide +kernel
theorem dX1_readBurden_12 : decode cX1_readBurden 12 = .ok (.aload_n 0, 1) := by decide +kernel
theorem dX1_readBurden_13 : decode cX1_readBurden 13 = .ok (.ldc 86, 2) := by decide +kernel
theorem dX1_readBurden_15 : decode cX1_readBurden 15 = .ok (.invokevirtual 78, 3) := by decide +kernel
theorem dX1_readBurden_18 : decode cX1_readBurden 18 = .ok (.aload_n 0, 1) := by decide +kernel
theorem dX1_readBurden_19 : decode cX1_readBurden 19 = .ok (.iconst 1, 1) := by decide +kernel
theorem dX1_readBurden_20 : decode cX1_readBurden 20 = .ok (.sipush 10000, 3) := by decide +kernel
theorem dX1_readBurden_23 : decode cX1_readBurden 23 = .ok (.invokevirtual 66, 3) := by decide +kernel
theorem dX1_readBurden_26 : decode cX1_readBurden 26 = .ok (.istore_n 3, 1) := by decide +kernel
theorem dX1_readBurden_27 : decode cX1_readBurden 27 = .ok (.aload_n 0, 1) := by decide +kernel
theorem dX1_readBurden_28 : decode cX1_readBurden 28 = .ok (.ldc 88, 2) := by decide +kernel
theorem dX1_readBurden_30 : decode cX1_readBurden 30 = .ok (.invokevirtual 78, 3) := by decide +kernel
theorem dX1_readBurden_33 : decode cX1_readBurden 33 = .ok (.aload_n 0, 1) := by decide +kernel
theorem dX1_readBurden_34 : decode cX1_readBurden 34 = .ok (.iconst 1, 1) := by decide +kernel
theorem dX1_readBurden_35 : decode cX1_readBurden 35 = .ok (.iconst 4, 1) := by decide +kernel
theorem dX1_readBurden_36 : decode cX1_readBurden 36 = .ok (.invokevirtual 66, 3) := by decide +kernel
theorem dX1_readBurden_39 : decode cX1_readBurden 39 = .ok (.istore 4, 2) := by decide +kernel
theorem dX1_readBurden_41 : decode cX1_readBurden 41 = .ok (.aload_n 0, 1) := by decide +kernel
theorem dX1_readBurden_42 : decode cX1_readBurden 42 = .ok (.invokevirtual 37, 3) := by decide +kernel
theorem dX1_readBurden_45 : decode cX1_readBurden 45 = .ok (.ifCond .eq 11, 3) := by decide +kernel
theorem dX1_readBurden_48 : decode cX1_readBurden 48 = .ok (.aload_n 1, 1) := by decide +kernel
theorem dX1_readBurden_49 : decode cX1_readBurden 49 = .ok (.iload_n 2, 1) := by decide +kernel
theorem dX1_readBurden_50 : decode cX1_readBurden 50 = .ok (.iload_n 3, 1) := by decide +kernel
theorem dX1_readBurden_51 : decode cX1_readBurden 51 = .ok (.iload 4, 2) := by decide +kernel
theorem dX1_readBurden_53 : decode cX1_readBurden 53 = .ok (.invokevirtual 90, 3) := by decide +kernel
theorem dX1_readBurden_56 : decode cX1_readBurden 56 = .ok (.return_, 1) := by decide +kernel
theorem dX1_passSettingWord_0 : decode cX1_passSettingWord 0 = .ok (.iconst 0, 1) := by decide +kernel
theorem dX1_passSettingWord_1 : decode cX1_passSettingWord 1 = .ok (.istore_n 1, 1) := by decide +kernel
theorem dX1_passSettingWord_2 : decode cX1_passSettingWord 2 = .ok (.iload_n 1, 1) := by decide +kernel
theorem dX1_passSettingWord_3 : decode cX1_passSettingWord 3 = .ok (.aload_n 0, 1) := by decide +kernel
theorem dX1_passSettingWord_4 : decode cX1_passSettingWord 4 = .ok (.getfield 15, 3) := by decide +kernel
theorem dX1_passSettingWord_7 : decode cX1_passSettingWord 7 = .ok (.arraylength, 1) := by decide +kernel
theorem dX1_passSettingWord_8 : decode cX1_passSettingWord 8 = .ok (.if_icmp .ge 22, 3) := by decide +kernel
theorem dX1_passSettingWord_11 : decode cX1_passSettingWord 11 = .ok (.aload_n 0, 1) := by decide +kernel
theorem dX1_passSettingWord_12 : decode cX1_passSettingWord 12 = .ok (.iload_n 1, 1) := by decide +kernel
theorem dX1_passSettingWord_13 : decode cX1_passSettingWord 13 = .ok (.invokestatic 94, 3) := by decide +kernel
theorem dX1_passSettingWord_16 : decode cX1_passSettingWord 16 = .ok (.invokevirtual 98, 3) := by decide +kernel
theorem dX1_passSettingWord_19 : decode cX1_passSettingWord 19 = .ok (.ifCond .eq 5, 3) := by decide +kernel
theorem dX1_passSettingWord_22 : decode cX1_passSettingWord 22 = .ok (.iload_n 1, 1) := by decide +kernel
theorem dX1_passSettingWord_23 : decode cX1_passSettingWord 23 = .ok (.ireturn, 1) := by decide +kernel
theorem dX1_passSettingWord_24 : decode cX1_passSettingWord 24 = .ok (.iinc 1 1, 3) := by decide +kernel
theorem dX1_passSettingWord_27 : decode cX1_passSettingWord 27 = .ok (.goto (-25), 3) := by decide +kernel
theorem dX1_passSettingWord_30 : decode cX1_passSettingWord 30 = .ok (.iconst (-1), 1) := by decide +kernel
theorem dX1_passSettingWord_31 : decode cX1_passSettingWord 31 = .ok (.ireturn, 1) := by decide +kernel
theorem dX1_expectWord_0 : decode cX1_expectWord 0 = .ok (.aload_n 0, 1) := by decide +kernel
theorem dX1_expectWord_1 : decode cX1_expectWord 1 = .ok (.invokevirtual 37, 3) := by decide +kernel
theorem dX1_expectWord_4 : decode cX1_expectWord 4 = .ok (.ifCond .ne 4, 3) := by decide +kernel
theorem dX1_expectWord_7 : decode cX1_expectWord 7 = .ok (.return_, 1) := by decide +kernel
theorem dX1_expectWord_8 : decode cX1_expectWord 8 = .ok (.aload_n 0, 1) := by decide +kernel
theorem dX1_expectWord_9 : decode cX1_expectWord 9 = .ok (.invokevirtual 41, 3) := by decide +kernel
theorem dX1_expectWord_12 : decode cX1_expectWord 12 = .ok (.pop, 1) := by decide +kernel
theorem dX1_expectWord_13 : decode cX1_expectWord 13 = .ok (.aload_n 0, 1) := by decide +kernel
theorem dX1_expectWord_14 : decode cX1_expectWord 14 = .ok (.aload_n 1, 1) := by decide +kernel
theorem dX1_expectWord_15 : decode cX1_expectWord 15 = .ok (.invokevirtual 98, 3) := by decide +kernel
theorem dX1_expectWord_18 : decode cX1_expectWord 18 = .ok (.ifCond .ne 12, 3) := by decide +kernel
theorem dX1_expectWord_21 : decode cX1_expectWord 21 = .ok (.aload_n 0, 1) := by decide +kernel
theorem dX1_expectWord_22 : decode cX1_expectWord 22 = .ok (.iconst 1, 1) := by decide +kernel
theorem dX1_expectWord_23 : decode cX1_expectWord 23 = .ok (.aload_n 0, 1) := by decide +kernel
theorem dX1_expectWord_24 : decode cX1_expectWord 24 = .ok (.getfield 23, 3) := by decide +kernel
theorem dX1_expectWord_27 : decode cX1_expectWord 27 = .ok (.invokevirtual 58, 3) := by decide +kernel
theorem dX1_expectWord_30 : decode cX1_expectWord 30 = .ok (.return_, 1) := by decide +kernel
theorem dX1_expectNewName_0 : decode cX1_expectNewName 0 = .ok (.aload_n 0, 1) := by decide +kernel
theorem dX1_expectNewName_1 : decode cX1_expectNewName 1 = .ok (.invokevirtual 37, 3) := by decide +kernel
theorem dX1_expectNewName_4 : decode cX1_expectNewName 4 = .ok (.ifCond .ne 5, 3) := by decide +kernel
theorem dX1_expectNewName_7 : decode cX1_expectNewName 7 = .ok (.iconst (-1), 1) := by decide +kernel
theorem dX1_expectNewName_8 : decode cX1_expectNewName 8 = .ok (.ireturn, 1) := by decide +kernel
theorem dX1_expectNewName_9 : decode cX1_expectNewName 9 = .ok (.aload_n 0, 1) := by decide +kernel
theorem dX1_expectNewName_10 : decode cX1_expectNewName 10 = .ok (.invokevirtual 41, 3) := by decide +kernel
theorem dX1_expectNewName_13 : decode cX1_expectNewName 13 = .ok (.bipush 65, 2) := by decide +kernel
theorem dX1_expectNewName_15 : decode cX1_expectNewName 15 = .ok (.isub, 1) := by decide +kernel
theorem dX1_expectNewName_16 : decode cX1_expectNewName 16 = .ok (.istore_n 2, 1) := by decide +kernel
theorem dX1_expectNewName_17 : decode cX1_expectNewName 17 = .ok (.iload_n 2, 1) := by decide +kernel
theorem dX1_expectNewName_18 : decode cX1_expectNewName 18 = .ok (.ifCond .lt 9, 3) := by decide +kernel
theorem dX1_expectNewName_21 : decode cX1_expectNewName 21 = .ok (.iload_n 2, 1) := by decide +kernel
theorem dX1_expectNewName_22 : decode cX1_expectNewName 22 = .ok (.bipush 6, 2) := by decide +kernel
theorem dX1_expectNewName_24 : decode cX1_expectNewName 24 = .ok (.if_icmp .lt 14, 3) := by decide +kernel
theorem dX1_expectNewName_27 : decode cX1_expectNewName 27 = .ok (.aload_n 0, 1) := by decide +kernel
theorem dX1_expectNewName_28 : decode cX1_expectNewName 28 = .ok (.iconst 1, 1) := by decide +kernel
theorem dX1_expectNewName_29 : decode cX1_expectNewName 29 = .ok (.aload_n 0, 1) := by decide +kernel
theorem dX1_expectNewName_30 : decode cX1_expectNewName 30 = .ok (.getfield 23, 3) := by decide +kernel
theorem dX1_expectNewName_33 : decode cX1_expectNewName 33 = .ok (.invokevirtual 58, 3) := by decide +kernel
theorem dX1_expectNewName_36 : decode cX1_expectNewName 36 = .ok (.iconst (-1), 1) := by decide +kernel
theorem dX1_expectNewName_37 : decode cX1_expectNewName 37 = .ok (.ireturn, 1) := by decide +kernel
theorem dX1_expectNewName_38 : decode cX1_expectNewName 38 = .ok (.aload_n 1, 1) := by decide +kernel
theorem dX1_expectNewName_39 : decode cX1_expectNewName 39 = .ok (.iload_n 2, 1) := by decide +kernel
theorem dX1_expectNewName_40 : decode cX1_expectNewName 40 = .ok (.invokevirtual 102, 3) := by decide +kernel
theorem dX1_expectNewName_43 : decode cX1_expectNewName 43 = .ok (.ifCond .eq 14, 3) := by decide +kernel
theorem dX1_expectNewName_46 : decode cX1_expectNewName 46 = .ok (.aload_n 0, 1) := by decide +kernel
theorem dX1_expectNewName_47 : decode cX1_expectNewName 47 = .ok (.iconst 3, 1) := by decide +kernel
theorem dX1_expectNewName_48 : decode cX1_expectNewName 48 = .ok (.aload_n 0, 1) := by decide +kernel
theorem dX1_expectNewName_49 : decode cX1_expectNewName 49 = .ok (.getfield 23, 3) := by decide +kernel
theorem dX1_expectNewName_52 : decode cX1_expectNewName 52 = .ok (.invokevirtual 58, 3) := by decide +kernel
theorem dX1_expectNewName_55 : decode cX1_expectNewName 55 = .ok (.iconst (-1), 1) := by decide +kernel
theorem dX1_expectNewName_56 : decode cX1_expectNewName 56 = .ok (.ireturn, 1) := by decide +kernel
theorem dX1_expectNewName_57 : decode cX1_expectNewName 57 = .ok (.aload_n 0, 1) := by decide +kernel
theorem dX1_expectNewName_58 : decode cX1_expectNewName 58 = .ok (.dup, 1) := by decide +kernel
theorem dX1_expectNewName_59 : decode cX1_expectNewName 59 = .ok (.getfield 23, 3) := by decide +kernel
theorem dX1_expectNewName_62 : decode cX1_expectNewName 62 = .ok (.iconst 1, 1) := by decide +kernel
theorem dX1_expectNewName_63 : decode cX1_expectNewName 63 = .ok (.iadd, 1) := by decide +kernel
theorem dX1_expectNewName_64 : decode cX1_expectNewName 64 = .ok (.putfield 23, 3) := by decide +kernel
theorem dX1_expectNewName_67 : decode cX1_expectNewName 67 = .ok (.iload_n 2, 1) := by decide +kernel
theorem dX1_expectNewName_68 : decode cX1_expectNewName 68 = .ok (.ireturn, 1) := by decide +kernel
theorem dX1_expectNumber_0 : decode cX1_expectNumber 0 = .ok (.aload_n 0, 1) := by decide +kernel
theorem dX1_expectNumber_1 : decode cX1_expectNumber 1 = .ok (.invokevirtual 37, 3) := by decide +kernel
theorem dX1_expectNumber_4 : decode cX1_expectNumber 4 = .ok (.ifCond .ne 5, 3) := by decide +kernel
theorem dX1_expectNumber_7 : decode cX1_expectNumber 7 = .ok (.iconst 0, 1) := by decide +kernel
theorem dX1_expectNumber_8 : decode cX1_expectNumber 8 = .ok (.ireturn, 1) := by decide +kernel
theorem dX1_expectNumber_9 : decode cX1_expectNumber 9 = .ok (.aload_n 0, 1) := by decide +kernel
theorem dX1_expectNumber_10 : decode cX1_expectNumber 10 = .ok (.invokevirtual 41, 3) := by decide +kernel
theorem dX1_expectNumber_13 : decode cX1_expectNumber 13 = .ok (.invokestatic 106, 3) := by decide +kernel
theorem dX1_expectNumber_16 : decode cX1_expectNumber 16 = .ok (.ifCond .ne 14, 3) := by decide +kernel
theorem dX1_expectNumber_19 : decode cX1_expectNumber 19 = .ok (.aload_n 0, 1) := by decide +kernel
theorem dX1_expectNumber_20 : decode cX1_expectNumber 20 = .ok (.iconst 1, 1) := by decide +kernel
theorem dX1_expectNumber_21 : decode cX1_expectNumber 21 = .ok (.aload_n 0, 1) := by decide +kernel
theorem dX1_expectNumber_22 : decode cX1_expectNumber 22 = .ok (.getfield 23, 3) := by decide +kernel
theorem dX1_expectNumber_25 : decode cX1_expectNumber 25 = .ok (.invokevirtual 58, 3) := by decide +kernel
theorem dX1_expectNumber_28 : decode cX1_expectNumber 28 = .ok (.iconst 0, 1) := by decide +kernel
theorem dX1_expectNumber_29 : decode cX1_expectNumber 29 = .ok (.ireturn, 1) := by decide +kernel
theorem dX1_expectNumber_30 : decode cX1_expectNumber 30 = .ok (.aload_n 0, 1) := by decide +kernel
theorem dX1_expectNumber_31 : decode cX1_expectNumber 31 = .ok (.getfield 23, 3) := by decide +kernel
theorem dX1_expectNumber_34 : decode cX1_expectNumber 34 = .ok (.istore_n 3, 1) := by decide +kernel
theorem dX1_expectNumber_35 : decode cX1_expectNumber 35 = .ok (.iconst 0, 1) := by decide +kernel
theorem dX1_expectNumber_36 : decode cX1_expectNumber 36 = .ok (.istore 4, 2) := by decide +kernel
theorem dX1_expectNumber_38 : decode cX1_expectNumber 38 = .ok (.aload_n 0, 1) := by decide +kernel
theorem dX1_expectNumber_39 : decode cX1_expectNumber 39 = .ok (.getfield 23, 3) := by decide +kernel
theorem dX1_expectNumber_42 : decode cX1_expectNumber 42 = .ok (.aload_n 0, 1) := by decide +kernel
theorem dX1_expectNumber_43 : decode cX1_expectNumber 43 = .ok (.getfield 19, 3) := by decide +kernel
theorem dX1_expectNumber_46 : decode cX1_expectNumber 46 = .ok (.if_icmp .ge 60, 3) := by decide +kernel
theorem dX1_expectNumber_49 : decode cX1_expectNumber 49 = .ok (.aload_n 0, 1) := by decide +kernel
theorem dX1_expectNumber_50 : decode cX1_expectNumber 50 = .ok (.getfield 9, 3) := by decide +kernel
theorem dX1_expectNumber_53 : decode cX1_expectNumber 53 = .ok (.aload_n 0, 1) := by decide +kernel
theorem dX1_expectNumber_54 : decode cX1_expectNumber 54 = .ok (.getfield 23, 3) := by decide +kernel
theorem dX1_expectNumber_57 : decode cX1_expectNumber 57 = .ok (.invokevirtual 109, 3) := by decide +kernel
theorem dX1_expectNumber_60 : decode cX1_expectNumber 60 = .ok (.invokestatic 106, 3) := by decide +kernel
theorem dX1_expectNumber_63 : decode cX1_expectNumber 63 = .ok (.ifCond .eq 43, 3) := by decide +kernel
theorem dX1_expectNumber_66 : decode cX1_expectNumber 66 = .ok (.ldc 114, 2) := by decide +kernel
theorem dX1_expectNumber_68 : decode cX1_expectNumber 68 = .ok (.iload 4, 2) := by decide +kernel
theorem dX1_expectNumber_70 : decode cX1_expectNumber 70 = .ok (.bipush 10, 2) := by decide +kernel
theorem dX1_expectNumber_72 : decode cX1_expectNumber 72 = .ok (.imul, 1) := by decide +kernel
theorem dX1_expectNumber_73 : decode cX1_expectNumber 73 = .ok (.aload_n 0, 1) := by decide +kernel
theorem dX1_expectNumber_74 : decode cX1_expectNumber 74 = .ok (.getfield 9, 3) := by decide +kernel
theorem dX1_expectNumber_77 : decode cX1_expectNumber 77 = .ok (.aload_n 0, 1) := by decide +kernel
theorem dX1_expectNumber_78 : decode cX1_expectNumber 78 = .ok (.getfield 23, 3) := by decide +kernel
theorem dX1_expectNumber_81 : decode cX1_expectNumber 81 = .ok (.invokevirtual 109, 3) := by decide +kernel
theorem dX1_expectNumber_84 : decode cX1_expectNumber 84 = .ok (.iadd, 1) := by decide +kernel
theorem dX1_expectNumber_85 : decode cX1_expectNumber 85 = .ok (.bipush 48, 2) := by decide +kernel
theorem dX1_expectNumber_87 : decode cX1_expectNumber 87 = .ok (.isub, 1) := by decide +kernel
theorem dX1_expectNumber_88 : decode cX1_expectNumber 88 = .ok (.invokestatic 115, 3) := by decide +kernel
theorem dX1_expectNumber_91 : decode cX1_expectNumber 91 = .ok (.istore 4, 2) := by decide +kernel
theorem dX1_expectNumber_93 : decode cX1_expectNumber 93 = .ok (.aload_n 0, 1) := by decide +kernel
theorem dX1_expectNumber_94 : decode cX1_expectNumber 94 = .ok (.dup, 1) := by decide +kernel
theorem dX1_expectNumber_95 : decode cX1_expectNumber 95 = .ok (.getfield 23, 3) := by decide +kernel
theorem dX1_expectNumber_98 : decode cX1_expectNumber 98 = .ok (.iconst 1, 1) := by decide +kernel
theorem dX1_expectNumber_99 : decode cX1_expectNumber 99 = .ok (.iadd, 1) := by decide +kernel
theorem dX1_expectNumber_100 : decode cX1_expectNumber 100 = .ok (.putfield 23, 3) := by decide +kernel
theorem dX1_expectNumber_103 : decode cX1_expectNumber 103 = .ok (.goto (-65), 3) := by decide +kernel
theorem dX1_expectNumber_106 : decode cX1_expectNumber 106 = .ok (.iload 4, 2) := by decide +kernel
theorem dX1_expectNumber_108 : decode cX1_expectNumber 108 = .ok (.iload_n 1, 1) := by decide +kernel
theorem dX1_expectNumber_109 : decode cX1_expectNumber 109 = .ok (.if_icmp .lt 9, 3) := by decide +kernel
theorem dX1_expectNumber_112 : decode cX1_expectNumber 112 = .ok (.iload 4, 2) := by decide +kernel
theorem dX1_expectNumber_114 : decode cX1_expectNumber 114 = .ok (.iload_n 2, 1) := by decide +kernel
theorem dX1_expectNumber_115 : decode cX1_expectNumber 115 = .ok (.if_icmp .le 11, 3) := by decide +kernel
theorem dX1_expectNumber_118 : decode cX1_expectNumber 118 = .ok (.aload_n 0, 1) := by decide +kernel
theorem dX1_expectNumber_119 : decode cX1_expectNumber 119 = .ok (.iconst 2, 1) := by decide +kernel
theorem dX1_expectNumber_120 : decode cX1_expectNumber 120 = .ok (.iload_n 3, 1) := by decide +kernel
theorem dX1_expectNumber_121 : decode cX1_expectNumber 121 = .ok (.invokevirtual 58, 3) := by decide +kernel
theorem dX1_expectNumber_124 : decode cX1_expectNumber 124 = .ok (.iconst 0, 1) := by decide +kernel
theorem dX1_expectNumber_125 : decode cX1_expectNumber 125 = .ok (.ireturn, 1) := by decide +kernel
theorem dX1_expectNumber_126 : decode cX1_expectNumber 126 = .ok (.iload 4, 2) := by decide +kernel
theorem dX1_expectNumber_128 : decode cX1_expectNumber 128 = .ok (.ireturn, 1) := by decide +kernel
theorem dX1_expectSemicolon_0 : decode cX1_expectSemicolon 0 = .ok (.aload_n 0, 1) := by decide +kernel
theorem dX1_expectSemicolon_1 : decode cX1_expectSemicolon 1 = .ok (.invokevirtual 37, 3) := by decide +kernel
theorem dX1_expectSemicolon_4 : decode cX1_expectSemicolon 4 = .ok (.ifCond .ne 4, 3) := by decide +kernel
theorem dX1_expectSemicolon_7 : decode cX1_expectSemicolon 7 = .ok (.return_, 1) := by decide +kernel
theorem dX1_expectSemicolon_8 : decode cX1_expectSemicolon 8 = .ok (.aload_n 0, 1) := by decide +kernel
theorem dX1_expectSemicolon_9 : decode cX1_expectSemicolon 9 = .ok (.invokevirtual 41, 3) := by decide +kernel
theorem dX1_expectSemicolon_12 : decode cX1_expectSemicolon 12 = .ok (.bipush 59, 2) := by decide +kernel
theorem dX1_expectSemicolon_14 : decode cX1_expectSemicolon 14 = .ok (.if_icmp .ne 16, 3) := by decide +kernel
theorem dX1_expectSemicolon_17 : decode cX1_expectSemicolon 17 = .ok (.aload_n 0, 1) := by decide +kernel
theorem dX1_expectSemicolon_18 : decode cX1_expectSemicolon 18 = .ok (.dup, 1) := by decide +kernel
theorem dX1_expectSemicolon_19 : decode cX1_expectSemicolon 19 = .ok (.getfield 23, 3) := by decide +kernel
theorem dX1_expectSemicolon_22 : decode cX1_expectSemicolon 22 = .ok (.iconst 1, 1) := by decide +kernel
theorem dX1_expectSemicolon_23 : decode cX1_expectSemicolon 23 = .ok (.iadd, 1) := by decide +kernel
theorem dX1_expectSemicolon_24 : decode cX1_expectSemicolon 24 = .ok (.putfield 23, 3) := by decide +kernel
theorem dX1_expectSemicolon_27 : decode cX1_expectSemicolon 27 = .ok (.goto 12, 3) := by decide +kernel
theorem dX1_expectSemicolon_30 : decode cX1_expectSemicolon 30 = .ok (.aload_n 0, 1) := by decide +kernel
theorem dX1_expectSemicolon_31 : decode cX1_expectSemicolon 31 = .ok (.iconst 1, 1) := by decide +kernel
theorem dX1_expectSemicolon_32 : decode cX1_expectSemicolon 32 = .ok (.aload_n 0, 1) := by decide +kernel
theorem dX1_expectSemicolon_33 : decode cX1_expectSemicolon 33 = .ok (.getfield 23, 3) := by decide +kernel
theorem dX1_expectSemicolon_36 : decode cX1_expectSemicolon 36 = .ok (.invokevirtual 58, 3) := by decide +kernel
theorem dX1_expectSemicolon_39 : decode cX1_expectSemicolon 39 = .ok (.return_, 1) := by decide +kernel
theorem dX1_nextSign_0 : decode cX1_nextSign 0 = .ok (.aload_n 0, 1) := by decide +kernel
theorem dX1_nextSign_1 : decode cX1_nextSign 1 = .ok (.getfield 23, 3) := by decide +kernel
theorem dX1_nextSign_4 : decode cX1_nextSign 4 = .ok (.aload_n 0, 1) := by decide +kernel
theorem dX1_nextSign_5 : decode cX1_nextSign 5 = .ok (.getfield 19, 3) := by decide +kernel
theorem dX1_nextSign_8 : decode cX1_nextSign 8 = .ok (.if_icmp .ge 33, 3) := by decide +kernel
theorem dX1_nextSign_11 : decode cX1_nextSign 11 = .ok (.aload_n 0, 1) := by decide +kernel
theorem dX1_nextSign_12 : decode cX1_nextSign 12 = .ok (.getfield 9, 3) := by decide +kernel
theorem dX1_nextSign_15 : decode cX1_nextSign 15 = .ok (.aload_n 0, 1) := by decide +kernel
theorem dX1_nextSign_16 : decode cX1_nextSign 16 = .ok (.getfield 23, 3) := by decide +kernel
theorem dX1_nextSign_19 : decode cX1_nextSign 19 = .ok (.invokevirtual 109, 3) := by decide +kernel
theorem dX1_nextSign_22 : decode cX1_nextSign 22 = .ok (.invokestatic 120, 3) := by decide +kernel
theorem dX1_nextSign_25 : decode cX1_nextSign 25 = .ok (.ifCond .eq 16, 3) := by decide +kernel
theorem dX1_nextSign_28 : decode cX1_nextSign 28 = .ok (.aload_n 0, 1) := by decide +kernel
theorem dX1_nextSign_29 : decode cX1_nextSign 29 = .ok (.dup, 1) := by decide +kernel
theorem dX1_nextSign_30 : decode cX1_nextSign 30 = .ok (.getfield 23, 3) := by decide +kernel
theorem dX1_nextSign_33 : decode cX1_nextSign 33 = .ok (.iconst 1, 1) := by decide +kernel
theorem dX1_nextSign_34 : decode cX1_nextSign 34 = .ok (.iadd, 1) := by decide +kernel
theorem dX1_nextSign_35 : decode cX1_nextSign 35 = .ok (.putfield 23, 3) := by decide +kernel
theorem dX1_nextSign_38 : decode cX1_nextSign 38 = .ok (.goto (-38), 3) := by decide +kernel
theorem dX1_nextSign_41 : decode cX1_nextSign 41 = .ok (.aload_n 0, 1) := by decide +kernel
theorem dX1_nextSign_42 : decode cX1_nextSign 42 = .ok (.getfield 23, 3) := by decide +kernel
theorem dX1_nextSign_45 : decode cX1_nextSign 45 = .ok (.aload_n 0, 1) := by decide +kernel
theorem dX1_nextSign_46 : decode cX1_nextSign 46 = .ok (.getfield 19, 3) := by decide +kernel
theorem dX1_nextSign_49 : decode cX1_nextSign 49 = .ok (.if_icmp .ge 17, 3) := by decide +kernel
theorem dX1_nextSign_52 : decode cX1_nextSign 52 = .ok (.aload_n 0, 1) := by decide +kernel
theorem dX1_nextSign_53 : decode cX1_nextSign 53 = .ok (.getfield 9, 3) := by decide +kernel
theorem dX1_nextSign_56 : decode cX1_nextSign 56 = .ok (.aload_n 0, 1) := by decide +kernel
theorem dX1_nextSign_57 : decode cX1_nextSign 57 = .ok (.getfield 23, 3) := by decide +kernel
theorem dX1_nextSign_60 : decode cX1_nextSign 60 = .ok (.invokevirtual 109, 3) := by decide +kernel
theorem dX1_nextSign_63 : decode cX1_nextSign 63 = .ok (.goto 4, 3) := by decide +kernel
theorem dX1_nextSign_66 : decode cX1_nextSign 66 = .ok (.iconst (-1), 1) := by decide +kernel
theorem dX1_nextSign_67 : decode cX1_nextSign 67 = .ok (.ireturn, 1) := by decide +kernel
theorem dX1_passWord_0 : decode cX1_passWord 0 = .ok (.aload_n 0, 1) := by decide +kernel
theorem dX1_passWord_1 : decode cX1_passWord 1 = .ok (.getfield 23, 3) := by decide +kernel
theorem dX1_passWord_4 : decode cX1_passWord 4 = .ok (.istore_n 2, 1) := by decide +kernel
theorem dX1_passWord_5 : decode cX1_passWord 5 = .ok (.iload_n 2, 1) := by decide +kernel
theorem dX1_passWord_6 : decode cX1_passWord 6 = .ok (.aload_n 0, 1) := by decide +kernel
theorem dX1_passWord_7 : decode cX1_passWord 7 = .ok (.getfield 19, 3) := by decide +kernel
theorem dX1_passWord_10 : decode cX1_passWord 10 = .ok (.if_icmp .ge 23, 3) := by decide +kernel
theorem dX1_passWord_13 : decode cX1_passWord 13 = .ok (.aload_n 0, 1) := by decide +kernel
theorem dX1_passWord_14 : decode cX1_passWord 14 = .ok (.getfield 9, 3) := by decide +kernel
theorem dX1_passWord_17 : decode cX1_passWord 17 = .ok (.iload_n 2, 1) := by decide +kernel
theorem dX1_passWord_18 : decode cX1_passWord 18 = .ok (.invokevirtual 109, 3) := by decide +kernel
theorem dX1_passWord_21 : decode cX1_passWord 21 = .ok (.invokestatic 123, 3) := by decide +kernel
theorem dX1_passWord_24 : decode cX1_passWord 24 = .ok (.ifCond .eq 9, 3) := by decide +kernel
theorem dX1_passWord_27 : decode cX1_passWord 27 = .ok (.iinc 2 1, 3) := by decide +kernel
theorem dX1_passWord_30 : decode cX1_passWord 30 = .ok (.goto (-25), 3) := by decide +kernel
theorem dX1_passWord_33 : decode cX1_passWord 33 = .ok (.iload_n 2, 1) := by decide +kernel
theorem dX1_passWord_34 : decode cX1_passWord 34 = .ok (.aload_n 0, 1) := by decide +kernel
theorem dX1_passWord_35 : decode cX1_passWord 35 = .ok (.getfield 23, 3) := by decide +kernel
theorem dX1_passWord_38 : decode cX1_passWord 38 = .ok (.isub, 1) := by decide +kernel
theorem dX1_passWord_39 : decode cX1_passWord 39 = .ok (.aload_n 1, 1) := by decide +kernel
theorem dX1_passWord_40 : decode cX1_passWord 40 = .ok (.invokevirtual 126, 3) := by decide +kernel
theorem dX1_passWord_43 : decode cX1_passWord 43 = .ok (.if_icmp .eq 5, 3) := by decide +kernel
theorem dX1_passWord_46 : decode cX1_passWord 46 = .ok (.iconst 0, 1) := by decide +kernel
theorem dX1_passWord_47 : decode cX1_passWord 47 = .ok (.ireturn, 1) := by decide +kernel
theorem dX1_passWord_48 : decode cX1_passWord 48 = .ok (.iconst 0, 1) := by decide +kernel
theorem dX1_passWord_49 : decode cX1_passWord 49 = .ok (.istore_n 3, 1) := by decide +kernel
theorem dX1_passWord_50 : decode cX1_passWord 50 = .ok (.iload_n 3, 1) := by decide +kernel
theorem dX1_passWord_51 : decode cX1_passWord 51 = .ok (.aload_n 1, 1) := by decide +kernel
theorem dX1_passWord_52 : decode cX1_passWord 52 = .ok (.invokevirtual 126, 3) := by decide +kernel
theorem dX1_passWord_55 : decode cX1_passWord 55 = .ok (.if_icmp .ge 32, 3) := by decide +kernel
theorem dX1_passWord_58 : decode cX1_passWord 58 = .ok (.aload_n 0, 1) := by decide +kernel
theorem dX1_passWord_59 : decode cX1_passWord 59 = .ok (.getfield 9, 3) := by decide +kernel
theorem dX1_passWord_62 : decode cX1_passWord 62 = .ok (.aload_n 0, 1) := by decide +kernel
theorem dX1_passWord_63 : decode cX1_passWord 63 = .ok (.getfield 23, 3) := by decide +kernel
theorem dX1_passWord_66 : decode cX1_passWord 66 = .ok (.iload_n 3, 1) := by decide +kernel
theorem dX1_passWord_67 : decode cX1_passWord 67 = .ok (.iadd, 1) := by decide +kernel
theorem dX1_passWord_68 : decode cX1_passWord 68 = .ok (.invokevirtual 109, 3) := by decide +kernel
theorem dX1_passWord_71 : decode cX1_passWord 71 = .ok (.aload_n 1, 1) := by decide +kernel
theorem dX1_passWord_72 : decode cX1_passWord 72 = .ok (.iload_n 3, 1) := by decide +kernel
theorem dX1_passWord_73 : decode cX1_passWord 73 = .ok (.invokevirtual 131, 3) := by decide +kernel
theorem dX1_passWord_76 : decode cX1_passWord 76 = .ok (.if_icmp .eq 5, 3) := by decide +kernel
theorem dX1_passWord_79 : decode cX1_passWord 79 = .ok (.iconst 0, 1) := by decide +kernel
theorem dX1_passWord_80 : decode cX1_passWord 80 = .ok (.ireturn, 1) := by decide +kernel
theorem dX1_passWord_81 : decode cX1_passWord 81 = .ok (.iinc 3 1, 3) := by decide +kernel
end
section
theorem dX1_passWord_84 : decode cX1_passWord 84 = .ok (.goto (-34), 3) := by decide +kernel
theorem dX1_passWord_87 : decode cX1_passWord 87 = .ok (.aload_n 0, 1) := by decide +kernel
theorem dX1_passWord_88 : decode cX1_passWord 88 = .ok (.iload_n 2, 1) := by decide +kernel
theorem dX1_passWord_89 : decode cX1_passWord 89 = .ok (.putfield 23, 3) := by decide +kernel
theorem dX1_passWord_92 : decode cX1_passWord 92 = .ok (.iconst 1, 1) := by decide +kernel
theorem dX1_passWord_93 : decode cX1_passWord 93 = .ok (.ireturn, 1) := by decide +kernel
theorem dX1_wordOf_0 : decode cX1_wordOf 0 = .ok (.iload_n 0, 1) := by decide +kernel
theorem dX1_wordOf_1 : decode cX1_wordOf 1 = .ok (.tableswitch 36 0 2 #[27, 30, 33], 27) := by decide +kernel
theorem dX1_wordOf_28 : decode cX1_wordOf 28 = .ok (.ldc 135, 2) := by decide +kernel
theorem dX1_wordOf_30 : decode cX1_wordOf 30 = .ok (.areturn, 1) := by decide +kernel
theorem dX1_wordOf_31 : decode cX1_wordOf 31 = .ok (.ldc 137, 2) := by decide +kernel
theorem dX1_wordOf_33 : decode cX1_wordOf 33 = .ok (.areturn, 1) := by decide +kernel
theorem dX1_wordOf_34 : decode cX1_wordOf 34 = .ok (.ldc 139, 2) := by decide +kernel
theorem dX1_wordOf_36 : decode cX1_wordOf 36 = .ok (.areturn, 1) := by decide +kernel
theorem dX1_wordOf_37 : decode cX1_wordOf 37 = .ok (.ldc 141, 2) := by decide +kernel
theorem dX1_wordOf_39 : decode cX1_wordOf 39 = .ok (.areturn, 1) := by decide +kernel
theorem dX1_mostOf_0 : decode cX1_mostOf 0 = .ok (.iload_n 0, 1) := by decide +kernel
theorem dX1_mostOf_1 : decode cX1_mostOf 1 = .ok (.lookupswitch 33 #[(0, 27), (1, 30)], 27) := by decide +kernel
theorem dX1_mostOf_28 : decode cX1_mostOf 28 = .ok (.bipush 9, 2) := by decide +kernel
theorem dX1_mostOf_30 : decode cX1_mostOf 30 = .ok (.ireturn, 1) := by decide +kernel
theorem dX1_mostOf_31 : decode cX1_mostOf 31 = .ok (.ldc 143, 2) := by decide +kernel
theorem dX1_mostOf_33 : decode cX1_mostOf 33 = .ok (.ireturn, 1) := by decide +kernel
theorem dX1_mostOf_34 : decode cX1_mostOf 34 = .ok (.bipush 60, 2) := by decide +kernel
theorem dX1_mostOf_36 : decode cX1_mostOf 36 = .ok (.ireturn, 1) := by decide +kernel
theorem dX1_isBlank_0 : decode cX1_isBlank 0 = .ok (.iload_n 0, 1) := by decide +kernel
theorem dX1_isBlank_1 : decode cX1_isBlank 1 = .ok (.bipush 10, 2) := by decide +kernel
theorem dX1_isBlank_3 : decode cX1_isBlank 3 = .ok (.if_icmp .eq 9, 3) := by decide +kernel
theorem dX1_isBlank_6 : decode cX1_isBlank 6 = .ok (.iload_n 0, 1) := by decide +kernel
theorem dX1_isBlank_7 : decode cX1_isBlank 7 = .ok (.bipush 32, 2) := by decide +kernel
theorem dX1_isBlank_9 : decode cX1_isBlank 9 = .ok (.if_icmp .ne 7, 3) := by decide +kernel
theorem dX1_isBlank_12 : decode cX1_isBlank 12 = .ok (.iconst 1, 1) := by decide +kernel
theorem dX1_isBlank_13 : decode cX1_isBlank 13 = .ok (.goto 4, 3) := by decide +kernel
theorem dX1_isBlank_16 : decode cX1_isBlank 16 = .ok (.iconst 0, 1) := by decide +kernel
theorem dX1_isBlank_17 : decode cX1_isBlank 17 = .ok (.ireturn, 1) := by decide +kernel
theorem dX1_isDigit_0 : decode cX1_isDigit 0 = .ok (.iload_n 0, 1) := by decide +kernel
theorem dX1_isDigit_1 : decode cX1_isDigit 1 = .ok (.bipush 48, 2) := by decide +kernel
theorem dX1_isDigit_3 : decode cX1_isDigit 3 = .ok (.if_icmp .lt 13, 3) := by decide +kernel
theorem dX1_isDigit_6 : decode cX1_isDigit 6 = .ok (.iload_n 0, 1) := by decide +kernel
theorem dX1_isDigit_7 : decode cX1_isDigit 7 = .ok (.bipush 57, 2) := by decide +kernel
theorem dX1_isDigit_9 : decode cX1_isDigit 9 = .ok (.if_icmp .gt 7, 3) := by decide +kernel
theorem dX1_isDigit_12 : decode cX1_isDigit 12 = .ok (.iconst 1, 1) := by decide +kernel
theorem dX1_isDigit_13 : decode cX1_isDigit 13 = .ok (.goto 4, 3) := by decide +kernel
theorem dX1_isDigit_16 : decode cX1_isDigit 16 = .ok (.iconst 0, 1) := by decide +kernel
theorem dX1_isDigit_17 : decode cX1_isDigit 17 = .ok (.ireturn, 1) := by decide +kernel
theorem dX1_isSmallLetter_0 : decode cX1_isSmallLetter 0 = .ok (.iload_n 0, 1) := by decide +kernel
theorem dX1_isSmallLetter_1 : decode cX1_isSmallLetter 1 = .ok (.bipush 97, 2) := by decide +kernel
theorem dX1_isSmallLetter_3 : decode cX1_isSmallLetter 3 = .ok (.if_icmp .lt 13, 3) := by decide +kernel
theorem dX1_isSmallLetter_6 : decode cX1_isSmallLetter 6 = .ok (.iload_n 0, 1) := by decide +kernel
theorem dX1_isSmallLetter_7 : decode cX1_isSmallLetter 7 = .ok (.bipush 122, 2) := by decide +kernel
theorem dX1_isSmallLetter_9 : decode cX1_isSmallLetter 9 = .ok (.if_icmp .gt 7, 3) := by decide +kernel
theorem dX1_isSmallLetter_12 : decode cX1_isSmallLetter 12 = .ok (.iconst 1, 1) := by decide +kernel
theorem dX1_isSmallLetter_13 : decode cX1_isSmallLetter 13 = .ok (.goto 4, 3) := by decide +kernel
theorem dX1_isSmallLetter_16 : decode cX1_isSmallLetter 16 = .ok (.iconst 0, 1) := by decide +kernel
theorem dX1_isSmallLetter_17 : decode cX1_isSmallLetter 17 = .ok (.ireturn, 1) := by decide +kernel
theorem dX2_init_0 : decode cX2_init 0 = .ok (.aload_n 0, 1) := by decide +kernel
theorem dX2_init_1 : decode cX2_init 1 = .ok (.invokespecial 3, 3) := by decide +kernel
theorem dX2_init_4 : decode cX2_init 4 = .ok (.aload_n 0, 1) := by decide +kernel
theorem dX2_init_5 : decode cX2_init 5 = .ok (.bipush 12, 2) := by decide +kernel
theorem dX2_init_7 : decode cX2_init 7 = .ok (.newarray .int, 2) := by decide +kernel
theorem dX2_init_9 : decode cX2_init 9 = .ok (.putfield 9, 3) := by decide +kernel
theorem dX2_init_12 : decode cX2_init 12 = .ok (.aload_n 0, 1) := by decide +kernel
theorem dX2_init_13 : decode cX2_init 13 = .ok (.bipush 12, 2) := by decide +kernel
theorem dX2_init_15 : decode cX2_init 15 = .ok (.newarray .int, 2) := by decide +kernel
theorem dX2_init_17 : decode cX2_init 17 = .ok (.putfield 15, 3) := by decide +kernel
theorem dX2_init_20 : decode cX2_init 20 = .ok (.aload_n 0, 1) := by decide +kernel
theorem dX2_init_21 : decode cX2_init 21 = .ok (.bipush 12, 2) := by decide +kernel
theorem dX2_init_23 : decode cX2_init 23 = .ok (.newarray .int, 2) := by decide +kernel
theorem dX2_init_25 : decode cX2_init 25 = .ok (.putfield 18, 3) := by decide +kernel
theorem dX2_init_28 : decode cX2_init 28 = .ok (.aload_n 0, 1) := by decide +kernel
theorem dX2_init_29 : decode cX2_init 29 = .ok (.bipush 12, 2) := by decide +kernel
theorem dX2_init_31 : decode cX2_init 31 = .ok (.newarray .int, 2) := by decide +kernel
theorem dX2_init_33 : decode cX2_init 33 = .ok (.putfield 21, 3) := by decide +kernel
theorem dX2_init_36 : decode cX2_init 36 = .ok (.aload_n 0, 1) := by decide +kernel
theorem dX2_init_37 : decode cX2_init 37 = .ok (.bipush 12, 2) := by decide +kernel
theorem dX2_init_39 : decode cX2_init 39 = .ok (.newarray .int, 2) := by decide +kernel
theorem dX2_init_41 : decode cX2_init 41 = .ok (.putfield 24, 3) := by decide +kernel
theorem dX2_init_44 : decode cX2_init 44 = .ok (.aload_n 0, 1) := by decide +kernel
theorem dX2_init_45 : decode cX2_init 45 = .ok (.bipush 24, 2) := by decide +kernel
theorem dX2_init_47 : decode cX2_init 47 = .ok (.newarray .int, 2) := by decide +kernel
theorem dX2_init_49 : decode cX2_init 49 = .ok (.putfield 27, 3) := by decide +kernel
theorem dX2_init_52 : decode cX2_init 52 = .ok (.aload_n 0, 1) := by decide +kernel
theorem dX2_init_53 : decode cX2_init 53 = .ok (.bipush 24, 2) := by decide +kernel
theorem dX2_init_55 : decode cX2_init 55 = .ok (.newarray .int, 2) := by decide +kernel
theorem dX2_init_57 : decode cX2_init 57 = .ok (.putfield 30, 3) := by decide +kernel
theorem dX2_init_60 : decode cX2_init 60 = .ok (.aload_n 0, 1) := by decide +kernel
theorem dX2_init_61 : decode cX2_init 61 = .ok (.iconst 0, 1) := by decide +kernel
theorem dX2_init_62 : decode cX2_init 62 = .ok (.putfield 33, 3) := by decide +kernel
theorem dX2_init_65 : decode cX2_init 65 = .ok (.iconst 0, 1) := by decide +kernel
theorem dX2_init_66 : decode cX2_init 66 = .ok (.istore_n 1, 1) := by decide +kernel
theorem dX2_init_67 : decode cX2_init 67 = .ok (.iload_n 1, 1) := by decide +kernel
theorem dX2_init_68 : decode cX2_init 68 = .ok (.aload_n 0, 1) := by decide +kernel
theorem dX2_init_69 : decode cX2_init 69 = .ok (.getfield 24, 3) := by decide +kernel
theorem dX2_init_72 : decode cX2_init 72 = .ok (.arraylength, 1) := by decide +kernel
theorem dX2_init_73 : decode cX2_init 73 = .ok (.if_icmp .ge 16, 3) := by decide +kernel
theorem dX2_init_76 : decode cX2_init 76 = .ok (.aload_n 0, 1) := by decide +kernel
theorem dX2_init_77 : decode cX2_init 77 = .ok (.getfield 24, 3) := by decide +kernel
theorem dX2_init_80 : decode cX2_init 80 = .ok (.iload_n 1, 1) := by decide +kernel
theorem dX2_init_81 : decode cX2_init 81 = .ok (.iconst (-1), 1) := by decide +kernel
theorem dX2_init_82 : decode cX2_init 82 = .ok (.iastore, 1) := by decide +kernel
theorem dX2_init_83 : decode cX2_init 83 = .ok (.iinc 1 1, 3) := by decide +kernel
theorem dX2_init_86 : decode cX2_init 86 = .ok (.goto (-19), 3) := by decide +kernel
theorem dX2_init_89 : decode cX2_init 89 = .ok (.iconst 0, 1) := by decide +kernel
theorem dX2_init_90 : decode cX2_init 90 = .ok (.istore_n 1, 1) := by decide +kernel
theorem dX2_init_91 : decode cX2_init 91 = .ok (.iload_n 1, 1) := by decide +kernel
theorem dX2_init_92 : decode cX2_init 92 = .ok (.aload_n 0, 1) := by decide +kernel
theorem dX2_init_93 : decode cX2_init 93 = .ok (.getfield 27, 3) := by decide +kernel
theorem dX2_init_96 : decode cX2_init 96 = .ok (.arraylength, 1) := by decide +kernel
theorem dX2_init_97 : decode cX2_init 97 = .ok (.if_icmp .ge 16, 3) := by decide +kernel
theorem dX2_init_100 : decode cX2_init 100 = .ok (.aload_n 0, 1) := by decide +kernel
theorem dX2_init_101 : decode cX2_init 101 = .ok (.getfield 27, 3) := by decide +kernel
theorem dX2_init_104 : decode cX2_init 104 = .ok (.iload_n 1, 1) := by decide +kernel
theorem dX2_init_105 : decode cX2_init 105 = .ok (.iconst (-1), 1) := by decide +kernel
theorem dX2_init_106 : decode cX2_init 106 = .ok (.iastore, 1) := by decide +kernel
theorem dX2_init_107 : decode cX2_init 107 = .ok (.iinc 1 1, 3) := by decide +kernel
theorem dX2_init_110 : decode cX2_init 110 = .ok (.goto (-19), 3) := by decide +kernel
theorem dX2_init_113 : decode cX2_init 113 = .ok (.return_, 1) := by decide +kernel
theorem dX2_copyFrom_0 : decode cX2_copyFrom 0 = .ok (.aload_n 0, 1) := by decide +kernel
theorem dX2_copyFrom_1 : decode cX2_copyFrom 1 = .ok (.aload_n 1, 1) := by decide +kernel
theorem dX2_copyFrom_2 : decode cX2_copyFrom 2 = .ok (.getfield 33, 3) := by decide +kernel
theorem dX2_copyFrom_5 : decode cX2_copyFrom 5 = .ok (.putfield 33, 3) := by decide +kernel
theorem dX2_copyFrom_8 : decode cX2_copyFrom 8 = .ok (.iconst 0, 1) := by decide +kernel
theorem dX2_copyFrom_9 : decode cX2_copyFrom 9 = .ok (.istore_n 2, 1) := by decide +kernel
theorem dX2_copyFrom_10 : decode cX2_copyFrom 10 = .ok (.iload_n 2, 1) := by decide +kernel
theorem dX2_copyFrom_11 : decode cX2_copyFrom 11 = .ok (.bipush 12, 2) := by decide +kernel
theorem dX2_copyFrom_13 : decode cX2_copyFrom 13 = .ok (.if_icmp .ge 69, 3) := by decide +kernel
theorem dX2_copyFrom_16 : decode cX2_copyFrom 16 = .ok (.aload_n 0, 1) := by decide +kernel
theorem dX2_copyFrom_17 : decode cX2_copyFrom 17 = .ok (.getfield 9, 3) := by decide +kernel
theorem dX2_copyFrom_20 : decode cX2_copyFrom 20 = .ok (.iload_n 2, 1) := by decide +kernel
theorem dX2_copyFrom_21 : decode cX2_copyFrom 21 = .ok (.aload_n 1, 1) := by decide +kernel
theorem dX2_copyFrom_22 : decode cX2_copyFrom 22 = .ok (.getfield 9, 3) := by decide +kernel
theorem dX2_copyFrom_25 : decode cX2_copyFrom 25 = .ok (.iload_n 2, 1) := by decide +kernel
theorem dX2_copyFrom_26 : decode cX2_copyFrom 26 = .ok (.iaload, 1) := by decide +kernel
theorem dX2_copyFrom_27 : decode cX2_copyFrom 27 = .ok (.iastore, 1) := by decide +kernel
theorem dX2_copyFrom_28 : decode cX2_copyFrom 28 = .ok (.aload_n 0, 1) := by decide +kernel
theorem dX2_copyFrom_29 : decode cX2_copyFrom 29 = .ok (.getfield 15, 3) := by decide +kernel
theorem dX2_copyFrom_32 : decode cX2_copyFrom 32 = .ok (.iload_n 2, 1) := by decide +kernel
theorem dX2_copyFrom_33 : decode cX2_copyFrom 33 = .ok (.aload_n 1, 1) := by decide +kernel
theorem dX2_copyFrom_34 : decode cX2_copyFrom 34 = .ok (.getfield 15, 3) := by decide +kernel
theorem dX2_copyFrom_37 : decode cX2_copyFrom 37 = .ok (.iload_n 2, 1) := by decide +kernel
theorem dX2_copyFrom_38 : decode cX2_copyFrom 38 = .ok (.iaload, 1) := by decide +kernel
theorem dX2_copyFrom_39 : decode cX2_copyFrom 39 = .ok (.iastore, 1) := by decide +kernel
theorem dX2_copyFrom_40 : decode cX2_copyFrom 40 = .ok (.aload_n 0, 1) := by decide +kernel
theorem dX2_copyFrom_41 : decode cX2_copyFrom 41 = .ok (.getfield 18, 3) := by decide +kernel
theorem dX2_copyFrom_44 : decode cX2_copyFrom 44 = .ok (.iload_n 2, 1) := by decide +kernel
theorem dX2_copyFrom_45 : decode cX2_copyFrom 45 = .ok (.aload_n 1, 1) := by decide +kernel
theorem dX2_copyFrom_46 : decode cX2_copyFrom 46 = .ok (.getfield 18, 3) := by decide +kernel
theorem dX2_copyFrom_49 : decode cX2_copyFrom 49 = .ok (.iload_n 2, 1) := by decide +kernel
theorem dX2_copyFrom_50 : decode cX2_copyFrom 50 = .ok (.iaload, 1) := by decide +kernel
theorem dX2_copyFrom_51 : decode cX2_copyFrom 51 = .ok (.iastore, 1) := by decide +kernel
theorem dX2_copyFrom_52 : decode cX2_copyFrom 52 = .ok (.aload_n 0, 1) := by decide +kernel
theorem dX2_copyFrom_53 : decode cX2_copyFrom 53 = .ok (.getfield 21, 3) := by decide +kernel
theorem dX2_copyFrom_56 : decode cX2_copyFrom 56 = .ok (.iload_n 2, 1) := by decide +kernel
theorem dX2_copyFrom_57 : decode cX2_copyFrom 57 = .ok (.aload_n 1, 1) := by decide +kernel
theorem dX2_copyFrom_58 : decode cX2_copyFrom 58 = .ok (.getfield 21, 3) := by decide +kernel
theorem dX2_copyFrom_61 : decode cX2_copyFrom 61 = .ok (.iload_n 2, 1) := by decide +kernel
theorem dX2_copyFrom_62 : decode cX2_copyFrom 62 = .ok (.iaload, 1) := by decide +kernel
theorem dX2_copyFrom_63 : decode cX2_copyFrom 63 = .ok (.iastore, 1) := by decide +kernel
theorem dX2_copyFrom_64 : decode cX2_copyFrom 64 = .ok (.aload_n 0, 1) := by decide +kernel
theorem dX2_copyFrom_65 : decode cX2_copyFrom 65 = .ok (.getfield 24, 3) := by decide +kernel
theorem dX2_copyFrom_68 : decode cX2_copyFrom 68 = .ok (.iload_n 2, 1) := by decide +kernel
theorem dX2_copyFrom_69 : decode cX2_copyFrom 69 = .ok (.aload_n 1, 1) := by decide +kernel
theorem dX2_copyFrom_70 : decode cX2_copyFrom 70 = .ok (.getfield 24, 3) := by decide +kernel
theorem dX2_copyFrom_73 : decode cX2_copyFrom 73 = .ok (.iload_n 2, 1) := by decide +kernel
theorem dX2_copyFrom_74 : decode cX2_copyFrom 74 = .ok (.iaload, 1) := by decide +kernel
theorem dX2_copyFrom_75 : decode cX2_copyFrom 75 = .ok (.iastore, 1) := by decide +kernel
theorem dX2_copyFrom_76 : decode cX2_copyFrom 76 = .ok (.iinc 2 1, 3) := by decide +kernel
theorem dX2_copyFrom_79 : decode cX2_copyFrom 79 = .ok (.goto (-69), 3) := by decide +kernel
theorem dX2_copyFrom_82 : decode cX2_copyFrom 82 = .ok (.iconst 0, 1) := by decide +kernel
theorem dX2_copyFrom_83 : decode cX2_copyFrom 83 = .ok (.istore_n 2, 1) := by decide +kernel
theorem dX2_copyFrom_84 : decode cX2_copyFrom 84 = .ok (.iload_n 2, 1) := by decide +kernel
theorem dX2_copyFrom_85 : decode cX2_copyFrom 85 = .ok (.bipush 24, 2) := by decide +kernel
theorem dX2_copyFrom_87 : decode cX2_copyFrom 87 = .ok (.if_icmp .ge 33, 3) := by decide +kernel
theorem dX2_copyFrom_90 : decode cX2_copyFrom 90 = .ok (.aload_n 0, 1) := by decide +kernel
theorem dX2_copyFrom_91 : decode cX2_copyFrom 91 = .ok (.getfield 27, 3) := by decide +kernel
theorem dX2_copyFrom_94 : decode cX2_copyFrom 94 = .ok (.iload_n 2, 1) := by decide +kernel
theorem dX2_copyFrom_95 : decode cX2_copyFrom 95 = .ok (.aload_n 1, 1) := by decide +kernel
theorem dX2_copyFrom_96 : decode cX2_copyFrom 96 = .ok (.getfield 27, 3) := by decide +kernel
theorem dX2_copyFrom_99 : decode cX2_copyFrom 99 = .ok (.iload_n 2, 1) := by decide +kernel
theorem dX2_copyFrom_100 : decode cX2_copyFrom 100 = .ok (.iaload, 1) := by decide +kernel
theorem dX2_copyFrom_101 : decode cX2_copyFrom 101 = .ok (.iastore, 1) := by decide +kernel
theorem dX2_copyFrom_102 : decode cX2_copyFrom 102 = .ok (.aload_n 0, 1) := by decide +kernel
theorem dX2_copyFrom_103 : decode cX2_copyFrom 103 = .ok (.getfield 30, 3) := by decide +kernel
theorem dX2_copyFrom_106 : decode cX2_copyFrom 106 = .ok (.iload_n 2, 1) := by decide +kernel
theorem dX2_copyFrom_107 : decode cX2_copyFrom 107 = .ok (.aload_n 1, 1) := by decide +kernel
theorem dX2_copyFrom_108 : decode cX2_copyFrom 108 = .ok (.getfield 30, 3) := by decide +kernel
theorem dX2_copyFrom_111 : decode cX2_copyFrom 111 = .ok (.iload_n 2, 1) := by decide +kernel
theorem dX2_copyFrom_112 : decode cX2_copyFrom 112 = .ok (.iaload, 1) := by decide +kernel
theorem dX2_copyFrom_113 : decode cX2_copyFrom 113 = .ok (.iastore, 1) := by decide +kernel
theorem dX2_copyFrom_114 : decode cX2_copyFrom 114 = .ok (.iinc 2 1, 3) := by decide +kernel
theorem dX2_copyFrom_117 : decode cX2_copyFrom 117 = .ok (.goto (-33), 3) := by decide +kernel
theorem dX2_copyFrom_120 : decode cX2_copyFrom 120 = .ok (.return_, 1) := by decide +kernel
theorem dX2_size_0 : decode cX2_size 0 = .ok (.aload_n 0, 1) := by decide +kernel
theorem dX2_size_1 : decode cX2_size 1 = .ok (.getfield 33, 3) := by decide +kernel
theorem dX2_size_4 : decode cX2_size 4 = .ok (.ireturn, 1) := by decide +kernel
theorem dX2_has_0 : decode cX2_has 0 = .ok (.iload_n 1, 1) := by decide +kernel
theorem dX2_has_1 : decode cX2_has 1 = .ok (.ifCond .lt 21, 3) := by decide +kernel
theorem dX2_has_4 : decode cX2_has 4 = .ok (.iload_n 1, 1) := by decide +kernel
theorem dX2_has_5 : decode cX2_has 5 = .ok (.aload_n 0, 1) := by decide +kernel
theorem dX2_has_6 : decode cX2_has 6 = .ok (.getfield 33, 3) := by decide +kernel
theorem dX2_has_9 : decode cX2_has 9 = .ok (.if_icmp .ge 13, 3) := by decide +kernel
theorem dX2_has_12 : decode cX2_has 12 = .ok (.iload_n 1, 1) := by decide +kernel
theorem dX2_has_13 : decode cX2_has 13 = .ok (.bipush 12, 2) := by decide +kernel
theorem dX2_has_15 : decode cX2_has 15 = .ok (.if_icmp .ge 7, 3) := by decide +kernel
theorem dX2_has_18 : decode cX2_has 18 = .ok (.iconst 1, 1) := by decide +kernel
theorem dX2_has_19 : decode cX2_has 19 = .ok (.goto 4, 3) := by decide +kernel
theorem dX2_has_22 : decode cX2_has 22 = .ok (.iconst 0, 1) := by decide +kernel
theorem dX2_has_23 : decode cX2_has 23 = .ok (.ireturn, 1) := by decide +kernel
theorem dX2_enter_0 : decode cX2_enter 0 = .ok (.aload_n 0, 1) := by decide +kernel
theorem dX2_enter_1 : decode cX2_enter 1 = .ok (.getfield 33, 3) := by decide +kernel
theorem dX2_enter_4 : decode cX2_enter 4 = .ok (.ifCond .lt 12, 3) := by decide +kernel
theorem dX2_enter_7 : decode cX2_enter 7 = .ok (.aload_n 0, 1) := by decide +kernel
theorem dX2_enter_8 : decode cX2_enter 8 = .ok (.getfield 33, 3) := by decide +kernel
theorem dX2_enter_11 : decode cX2_enter 11 = .ok (.bipush 12, 2) := by decide +kernel
theorem dX2_enter_13 : decode cX2_enter 13 = .ok (.if_icmp .lt 5, 3) := by decide +kernel
theorem dX2_enter_16 : decode cX2_enter 16 = .ok (.iconst (-1), 1) := by decide +kernel
theorem dX2_enter_17 : decode cX2_enter 17 = .ok (.ireturn, 1) := by decide +kernel
theorem dX2_enter_18 : decode cX2_enter 18 = .ok (.aload_n 0, 1) := by decide +kernel
theorem dX2_enter_19 : decode cX2_enter 19 = .ok (.getfield 33, 3) := by decide +kernel
theorem dX2_enter_22 : decode cX2_enter 22 = .ok (.istore_n 3, 1) := by decide +kernel
theorem dX2_enter_23 : decode cX2_enter 23 = .ok (.aload_n 0, 1) := by decide +kernel
theorem dX2_enter_24 : decode cX2_enter 24 = .ok (.getfield 9, 3) := by decide +kernel
theorem dX2_enter_27 : decode cX2_enter 27 = .ok (.iload_n 3, 1) := by decide +kernel
theorem dX2_enter_28 : decode cX2_enter 28 = .ok (.iload_n 1, 1) := by decide +kernel
theorem dX2_enter_29 : decode cX2_enter 29 = .ok (.iastore, 1) := by decide +kernel
theorem dX2_enter_30 : decode cX2_enter 30 = .ok (.aload_n 0, 1) := by decide +kernel
theorem dX2_enter_31 : decode cX2_enter 31 = .ok (.getfield 15, 3) := by decide +kernel
theorem dX2_enter_34 : decode cX2_enter 34 = .ok (.iload_n 3, 1) := by decide +kernel
theorem dX2_enter_35 : decode cX2_enter 35 = .ok (.iload_n 2, 1) := by decide +kernel
theorem dX2_enter_36 : decode cX2_enter 36 = .ok (.iastore, 1) := by decide +kernel
theorem dX2_enter_37 : decode cX2_enter 37 = .ok (.aload_n 0, 1) := by decide +kernel
theorem dX2_enter_38 : decode cX2_enter 38 = .ok (.dup, 1) := by decide +kernel
theorem dX2_enter_39 : decode cX2_enter 39 = .ok (.getfield 33, 3) := by decide +kernel
theorem dX2_enter_42 : decode cX2_enter 42 = .ok (.iconst 1, 1) := by decide +kernel
theorem dX2_enter_43 : decode cX2_enter 43 = .ok (.iadd, 1) := by decide +kernel
theorem dX2_enter_44 : decode cX2_enter 44 = .ok (.putfield 33, 3) := by decide +kernel
theorem dX2_enter_47 : decode cX2_enter 47 = .ok (.iload_n 3, 1) := by decide +kernel
theorem dX2_enter_48 : decode cX2_enter 48 = .ok (.ireturn, 1) := by decide +kernel
theorem dX2_declaredOf_0 : decode cX2_declaredOf 0 = .ok (.aload_n 0, 1) := by decide +kernel
theorem dX2_declaredOf_1 : decode cX2_declaredOf 1 = .ok (.iload_n 1, 1) := by decide +kernel
theorem dX2_declaredOf_2 : decode cX2_declaredOf 2 = .ok (.invokevirtual 37, 3) := by decide +kernel
theorem dX2_declaredOf_5 : decode cX2_declaredOf 5 = .ok (.ifCond .eq 12, 3) := by decide +kernel
theorem dX2_declaredOf_8 : decode cX2_declaredOf 8 = .ok (.aload_n 0, 1) := by decide +kernel
theorem dX2_declaredOf_9 : decode cX2_declaredOf 9 = .ok (.getfield 9, 3) := by decide +kernel
theorem dX2_declaredOf_12 : decode cX2_declaredOf 12 = .ok (.iload_n 1, 1) := by decide +kernel
theorem dX2_declaredOf_13 : decode cX2_declaredOf 13 = .ok (.iaload, 1) := by decide +kernel
theorem dX2_declaredOf_14 : decode cX2_declaredOf 14 = .ok (.goto 4, 3) := by decide +kernel
theorem dX2_declaredOf_17 : decode cX2_declaredOf 17 = .ok (.iconst 0, 1) := by decide +kernel
theorem dX2_declaredOf_18 : decode cX2_declaredOf 18 = .ok (.ireturn, 1) := by decide +kernel
theorem dX2_hiddenOf_0 : decode cX2_hiddenOf 0 = .ok (.aload_n 0, 1) := by decide +kernel
theorem dX2_hiddenOf_1 : decode cX2_hiddenOf 1 = .ok (.iload_n 1, 1) := by decide +kernel
theorem dX2_hiddenOf_2 : decode cX2_hiddenOf 2 = .ok (.invokevirtual 37, 3) := by decide +kernel
theorem dX2_hiddenOf_5 : decode cX2_hiddenOf 5 = .ok (.ifCond .eq 12, 3) := by decide +kernel
theorem dX2_hiddenOf_8 : decode cX2_hiddenOf 8 = .ok (.aload_n 0, 1) := by decide +kernel
theorem dX2_hiddenOf_9 : decode cX2_hiddenOf 9 = .ok (.getfield 15, 3) := by decide +kernel
theorem dX2_hiddenOf_12 : decode cX2_hiddenOf 12 = .ok (.iload_n 1, 1) := by decide +kernel
theorem dX2_hiddenOf_13 : decode cX2_hiddenOf 13 = .ok (.iaload, 1) := by decide +kernel
theorem dX2_hiddenOf_14 : decode cX2_hiddenOf 14 = .ok (.goto 4, 3) := by decide +kernel
theorem dX2_hiddenOf_17 : decode cX2_hiddenOf 17 = .ok (.iconst 0, 1) := by decide +kernel
theorem dX2_hiddenOf_18 : decode cX2_hiddenOf 18 = .ok (.ireturn, 1) := by decide +kernel
theorem dX2_worthOf_0 : decode cX2_worthOf 0 = .ok (.aload_n 0, 1) := by decide +kernel
theorem dX2_worthOf_1 : decode cX2_worthOf 1 = .ok (.iload_n 1, 1) := by decide +kernel
theorem dX2_worthOf_2 : decode cX2_worthOf 2 = .ok (.invokevirtual 41, 3) := by decide +kernel
theorem dX2_worthOf_5 : decode cX2_worthOf 5 = .ok (.aload_n 0, 1) := by decide +kernel
theorem dX2_worthOf_6 : decode cX2_worthOf 6 = .ok (.iload_n 1, 1) := by decide +kernel
theorem dX2_worthOf_7 : decode cX2_worthOf 7 = .ok (.invokevirtual 45, 3) := by decide +kernel
theorem dX2_worthOf_10 : decode cX2_worthOf 10 = .ok (.iadd, 1) := by decide +kernel
theorem dX2_worthOf_11 : decode cX2_worthOf 11 = .ok (.ireturn, 1) := by decide +kernel
theorem dX2_placeOf_0 : decode cX2_placeOf 0 = .ok (.aload_n 0, 1) := by decide +kernel
theorem dX2_placeOf_1 : decode cX2_placeOf 1 = .ok (.iload_n 1, 1) := by decide +kernel
theorem dX2_placeOf_2 : decode cX2_placeOf 2 = .ok (.invokevirtual 37, 3) := by decide +kernel
theorem dX2_placeOf_5 : decode cX2_placeOf 5 = .ok (.ifCond .eq 12, 3) := by decide +kernel
theorem dX2_placeOf_8 : decode cX2_placeOf 8 = .ok (.aload_n 0, 1) := by decide +kernel
theorem dX2_placeOf_9 : decode cX2_placeOf 9 = .ok (.getfield 24, 3) := by decide +kernel
theorem dX2_placeOf_12 : decode cX2_placeOf 12 = .ok (.iload_n 1, 1) := by decide +kernel
theorem dX2_placeOf_13 : decode cX2_placeOf 13 = .ok (.iaload, 1) := by decide +kernel
theorem dX2_placeOf_14 : decode cX2_placeOf 14 = .ok (.goto 4, 3) := by decide +kernel
theorem dX2_placeOf_17 : decode cX2_placeOf 17 = .ok (.iconst (-1), 1) := by decide +kernel
theorem dX2_placeOf_18 : decode cX2_placeOf 18 = .ok (.ireturn, 1) := by decide +kernel
theorem dX2_freeFromOf_0 : decode cX2_freeFromOf 0 = .ok (.aload_n 0, 1) := by decide +kernel
theorem dX2_freeFromOf_1 : decode cX2_freeFromOf 1 = .ok (.iload_n 1, 1) := by decide +kernel
theorem dX2_freeFromOf_2 : decode cX2_freeFromOf 2 = .ok (.invokevirtual 37, 3) := by decide +kernel
theorem dX2_freeFromOf_5 : decode cX2_freeFromOf 5 = .ok (.ifCond .eq 12, 3) := by decide +kernel
theorem dX2_freeFromOf_8 : decode cX2_freeFromOf 8 = .ok (.aload_n 0, 1) := by decide +kernel
theorem dX2_freeFromOf_9 : decode cX2_freeFromOf 9 = .ok (.getfield 18, 3) := by decide +kernel
theorem dX2_freeFromOf_12 : decode cX2_freeFromOf 12 = .ok (.iload_n 1, 1) := by decide +kernel
theorem dX2_freeFromOf_13 : decode cX2_freeFromOf 13 = .ok (.iaload, 1) := by decide +kernel
theorem dX2_freeFromOf_14 : decode cX2_freeFromOf 14 = .ok (.goto 4, 3) := by decide +kernel
theorem dX2_freeFromOf_17 : decode cX2_freeFromOf 17 = .ok (.iconst 0, 1) := by decide +kernel
theorem dX2_freeFromOf_18 : decode cX2_freeFromOf 18 = .ok (.ireturn, 1) := by decide +kernel
theorem dX2_yearsBorneOf_0 : decode cX2_yearsBorneOf 0 = .ok (.aload_n 0, 1) := by decide +kernel
theorem dX2_yearsBorneOf_1 : decode cX2_yearsBorneOf 1 = .ok (.iload_n 1, 1) := by decide +kernel
theorem dX2_yearsBorneOf_2 : decode cX2_yearsBorneOf 2 = .ok (.invokevirtual 37, 3) := by decide +kernel
theorem dX2_yearsBorneOf_5 : decode cX2_yearsBorneOf 5 = .ok (.ifCond .eq 12, 3) := by decide +kernel
theorem dX2_yearsBorneOf_8 : decode cX2_yearsBorneOf 8 = .ok (.aload_n 0, 1) := by decide +kernel
theorem dX2_yearsBorneOf_9 : decode cX2_yearsBorneOf 9 = .ok (.getfield 21, 3) := by decide +kernel
theorem dX2_yearsBorneOf_12 : decode cX2_yearsBorneOf 12 = .ok (.iload_n 1, 1) := by decide +kernel
theorem dX2_yearsBorneOf_13 : decode cX2_yearsBorneOf 13 = .ok (.iaload, 1) := by decide +kernel
theorem dX2_yearsBorneOf_14 : decode cX2_yearsBorneOf 14 = .ok (.goto 4, 3) := by decide +kernel
theorem dX2_yearsBorneOf_17 : decode cX2_yearsBorneOf 17 = .ok (.iconst 0, 1) := by decide +kernel
theorem dX2_yearsBorneOf_18 : decode cX2_yearsBorneOf 18 = .ok (.ireturn, 1) := by decide +kernel
theorem dX2_bearerAt_0 : decode cX2_bearerAt 0 = .ok (.iload_n 1, 1) := by decide +kernel
theorem dX2_bearerAt_1 : decode cX2_bearerAt 1 = .ok (.invokestatic 48, 3) := by decide +kernel
theorem dX2_bearerAt_4 : decode cX2_bearerAt 4 = .ok (.ifCond .eq 12, 3) := by decide +kernel
theorem dX2_bearerAt_7 : decode cX2_bearerAt 7 = .ok (.aload_n 0, 1) := by decide +kernel
theorem dX2_bearerAt_8 : decode cX2_bearerAt 8 = .ok (.getfield 27, 3) := by decide +kernel
theorem dX2_bearerAt_11 : decode cX2_bearerAt 11 = .ok (.iload_n 1, 1) := by decide +kernel
theorem dX2_bearerAt_12 : decode cX2_bearerAt 12 = .ok (.iaload, 1) := by decide +kernel
theorem dX2_bearerAt_13 : decode cX2_bearerAt 13 = .ok (.goto 4, 3) := by decide +kernel
theorem dX2_bearerAt_16 : decode cX2_bearerAt 16 = .ok (.iconst (-1), 1) := by decide +kernel
theorem dX2_bearerAt_17 : decode cX2_bearerAt 17 = .ok (.ireturn, 1) := by decide +kernel
theorem dX2_hasBorne_0 : decode cX2_hasBorne 0 = .ok (.aload_n 0, 1) := by decide +kernel
theorem dX2_hasBorne_1 : decode cX2_hasBorne 1 = .ok (.iload_n 1, 1) := by decide +kernel
theorem dX2_hasBorne_2 : decode cX2_hasBorne 2 = .ok (.invokevirtual 37, 3) := by decide +kernel
theorem dX2_hasBorne_5 : decode cX2_hasBorne 5 = .ok (.ifCond .eq 27, 3) := by decide +kernel
theorem dX2_hasBorne_8 : decode cX2_hasBorne 8 = .ok (.iload_n 2, 1) := by decide +kernel
theorem dX2_hasBorne_9 : decode cX2_hasBorne 9 = .ok (.invokestatic 48, 3) := by decide +kernel
theorem dX2_hasBorne_12 : decode cX2_hasBorne 12 = .ok (.ifCond .eq 20, 3) := by decide +kernel
theorem dX2_hasBorne_15 : decode cX2_hasBorne 15 = .ok (.aload_n 0, 1) := by decide +kernel
theorem dX2_hasBorne_16 : decode cX2_hasBorne 16 = .ok (.getfield 30, 3) := by decide +kernel
theorem dX2_hasBorne_19 : decode cX2_hasBorne 19 = .ok (.iload_n 2, 1) := by decide +kernel
theorem dX2_hasBorne_20 : decode cX2_hasBorne 20 = .ok (.iaload, 1) := by decide +kernel
theorem dX2_hasBorne_21 : decode cX2_hasBorne 21 = .ok (.iconst 1, 1) := by decide +kernel
theorem dX2_hasBorne_22 : decode cX2_hasBorne 22 = .ok (.iload_n 1, 1) := by decide +kernel
theorem dX2_hasBorne_23 : decode cX2_hasBorne 23 = .ok (.ishl, 1) := by decide +kernel
theorem dX2_hasBorne_24 : decode cX2_hasBorne 24 = .ok (.iand, 1) := by decide +kernel
theorem dX2_hasBorne_25 : decode cX2_hasBorne 25 = .ok (.ifCond .eq 7, 3) := by decide +kernel
theorem dX2_hasBorne_28 : decode cX2_hasBorne 28 = .ok (.iconst 1, 1) := by decide +kernel
theorem dX2_hasBorne_29 : decode cX2_hasBorne 29 = .ok (.goto 4, 3) := by decide +kernel
theorem dX2_hasBorne_32 : decode cX2_hasBorne 32 = .ok (.iconst 0, 1) := by decide +kernel
theorem dX2_hasBorne_33 : decode cX2_hasBorne 33 = .ok (.ireturn, 1) := by decide +kernel
theorem dX2_uncover_0 : decode cX2_uncover 0 = .ok (.aload_n 0, 1) := by decide +kernel
theorem dX2_uncover_1 : decode cX2_uncover 1 = .ok (.iload_n 1, 1) := by decide +kernel
theorem dX2_uncover_2 : decode cX2_uncover 2 = .ok (.invokevirtual 37, 3) := by decide +kernel
theorem dX2_uncover_5 : decode cX2_uncover 5 = .ok (.ifCond .eq 23, 3) := by decide +kernel
theorem dX2_uncover_8 : decode cX2_uncover 8 = .ok (.aload_n 0, 1) := by decide +kernel
theorem dX2_uncover_9 : decode cX2_uncover 9 = .ok (.getfield 15, 3) := by decide +kernel
theorem dX2_uncover_12 : decode cX2_uncover 12 = .ok (.iload_n 1, 1) := by decide +kernel
theorem dX2_uncover_13 : decode cX2_uncover 13 = .ok (.dup2, 1) := by decide +kernel
theorem dX2_uncover_14 : decode cX2_uncover 14 = .ok (.iaload, 1) := by decide +kernel
theorem dX2_uncover_15 : decode cX2_uncover 15 = .ok (.iload_n 2, 1) := by decide +kernel
theorem dX2_uncover_16 : decode cX2_uncover 16 = .ok (.isub, 1) := by decide +kernel
theorem dX2_uncover_17 : decode cX2_uncover 17 = .ok (.iastore, 1) := by decide +kernel
theorem dX2_uncover_18 : decode cX2_uncover 18 = .ok (.aload_n 0, 1) := by decide +kernel
theorem dX2_uncover_19 : decode cX2_uncover 19 = .ok (.getfield 9, 3) := by decide +kernel
theorem dX2_uncover_22 : decode cX2_uncover 22 = .ok (.iload_n 1, 1) := by decide +kernel
theorem dX2_uncover_23 : decode cX2_uncover 23 = .ok (.dup2, 1) := by decide +kernel
theorem dX2_uncover_24 : decode cX2_uncover 24 = .ok (.iaload, 1) := by decide +kernel
theorem dX2_uncover_25 : decode cX2_uncover 25 = .ok (.iload_n 2, 1) := by decide +kernel
theorem dX2_uncover_26 : decode cX2_uncover 26 = .ok (.iadd, 1) := by decide +kernel
theorem dX2_uncover_27 : decode cX2_uncover 27 = .ok (.iastore, 1) := by decide +kernel
theorem dX2_uncover_28 : decode cX2_uncover 28 = .ok (.return_, 1) := by decide +kernel
theorem dX2_exchangeEstates_0 : decode cX2_exchangeEstates 0 = .ok (.aload_n 0, 1) := by decide +kernel
theorem dX2_exchangeEstates_1 : decode cX2_exchangeEstates 1 = .ok (.iload_n 1, 1) := by decide +kernel
theorem dX2_exchangeEstates_2 : decode cX2_exchangeEstates 2 = .ok (.invokevirtual 37, 3) := by decide +kernel
theorem dX2_exchangeEstates_5 : decode cX2_exchangeEstates 5 = .ok (.ifCond .eq 65, 3) := by decide +kernel
theorem dX2_exchangeEstates_8 : decode cX2_exchangeEstates 8 = .ok (.aload_n 0, 1) := by decide +kernel
theorem dX2_exchangeEstates_9 : decode cX2_exchangeEstates 9 = .ok (.iload_n 2, 1) := by decide +kernel
theorem dX2_exchangeEstates_10 : decode cX2_exchangeEstates 10 = .ok (.invokevirtual 37, 3) := by decide +kernel
theorem dX2_exchangeEstates_13 : decode cX2_exchangeEstates 13 = .ok (.ifCond .eq 57, 3) := by decide +kernel
theorem dX2_exchangeEstates_16 : decode cX2_exchangeEstates 16 = .ok (.aload_n 0, 1) := by decide +kernel
theorem dX2_exchangeEstates_17 : decode cX2_exchangeEstates 17 = .ok (.getfield 9, 3) := by decide +kernel
theorem dX2_exchangeEstates_20 : decode cX2_exchangeEstates 20 = .ok (.iload_n 1, 1) := by decide +kernel
theorem dX2_exchangeEstates_21 : decode cX2_exchangeEstates 21 = .ok (.iaload, 1) := by decide +kernel
theorem dX2_exchangeEstates_22 : decode cX2_exchangeEstates 22 = .ok (.istore_n 3, 1) := by decide +kernel
theorem dX2_exchangeEstates_23 : decode cX2_exchangeEstates 23 = .ok (.aload_n 0, 1) := by decide +kernel
theorem dX2_exchangeEstates_24 : decode cX2_exchangeEstates 24 = .ok (.getfield 15, 3) := by decide +kernel
theorem dX2_exchangeEstates_27 : decode cX2_exchangeEstates 27 = .ok (.iload_n 1, 1) := by decide +kernel
theorem dX2_exchangeEstates_28 : decode cX2_exchangeEstates 28 = .ok (.iaload, 1) := by decide +kernel
theorem dX2_exchangeEstates_29 : decode cX2_exchangeEstates 29 = .ok (.istore 4, 2) := by decide +kernel
theorem dX2_exchangeEstates_31 : decode cX2_exchangeEstates 31 = .ok (.aload_n 0, 1) := by decide +kernel
theorem dX2_exchangeEstates_32 : decode cX2_exchangeEstates 32 = .ok (.getfield 9, 3) := by decide +kernel
theorem dX2_exchangeEstates_35 : decode cX2_exchangeEstates 35 = .ok (.iload_n 1, 1) := by decide +kernel
theorem dX2_exchangeEstates_36 : decode cX2_exchangeEstates 36 = .ok (.aload_n 0, 1) := by decide +kernel
theorem dX2_exchangeEstates_37 : decode cX2_exchangeEstates 37 = .ok (.getfield 9, 3) := by decide +kernel
theorem dX2_exchangeEstates_40 : decode cX2_exchangeEstates 40 = .ok (.iload_n 2, 1) := by decide +kernel
theorem dX2_exchangeEstates_41 : decode cX2_exchangeEstates 41 = .ok (.iaload, 1) := by decide +kernel
theorem dX2_exchangeEstates_42 : decode cX2_exchangeEstates 42 = .ok (.iastore, 1) := by decide +kernel
theorem dX2_exchangeEstates_43 : decode cX2_exchangeEstates 43 = .ok (.aload_n 0, 1) := by decide +kernel
theorem dX2_exchangeEstates_44 : decode cX2_exchangeEstates 44 = .ok (.getfield 15, 3) := by decide +kernel
theorem dX2_exchangeEstates_47 : decode cX2_exchangeEstates 47 = .ok (.iload_n 1, 1) := by decide +kernel
theorem dX2_exchangeEstates_48 : decode cX2_exchangeEstates 48 = .ok (.aload_n 0, 1) := by decide +kernel
theorem dX2_exchangeEstates_49 : decode cX2_exchangeEstates 49 = .ok (.getfield 15, 3) := by decide +kernel
theorem dX2_exchangeEstates_52 : decode cX2_exchangeEstates 52 = .ok (.iload_n 2, 1) := by decide +kernel
theorem dX2_exchangeEstates_53 : decode cX2_exchangeEstates 53 = .ok (.iaload, 1) := by decide +kernel
theorem dX2_exchangeEstates_54 : decode cX2_exchangeEstates 54 = .ok (.iastore, 1) := by decide +kernel
theorem dX2_exchangeEstates_55 : decode cX2_exchangeEstates 55 = .ok (.aload_n 0, 1) := by decide +kernel
theorem dX2_exchangeEstates_56 : decode cX2_exchangeEstates 56 = .ok (.getfield 9, 3) := by decide +kernel
theorem dX2_exchangeEstates_59 : decode cX2_exchangeEstates 59 = .ok (.iload_n 2, 1) := by decide +kernel
theorem dX2_exchangeEstates_60 : decode cX2_exchangeEstates 60 = .ok (.iload_n 3, 1) := by decide +kernel
theorem dX2_exchangeEstates_61 : decode cX2_exchangeEstates 61 = .ok (.iastore, 1) := by decide +kernel
theorem dX2_exchangeEstates_62 : decode cX2_exchangeEstates 62 = .ok (.aload_n 0, 1) := by decide +kernel
theorem dX2_exchangeEstates_63 : decode cX2_exchangeEstates 63 = .ok (.getfield 15, 3) := by decide +kernel
theorem dX2_exchangeEstates_66 : decode cX2_exchangeEstates 66 = .ok (.iload_n 2, 1) := by decide +kernel
theorem dX2_exchangeEstates_67 : decode cX2_exchangeEstates 67 = .ok (.iload 4, 2) := by decide +kernel
theorem dX2_exchangeEstates_69 : decode cX2_exchangeEstates 69 = .ok (.iastore, 1) := by decide +kernel
theorem dX2_exchangeEstates_70 : decode cX2_exchangeEstates 70 = .ok (.return_, 1) := by decide +kernel
theorem dX2_manOfRank_0 : decode cX2_manOfRank 0 = .ok (.iconst 0, 1) := by decide +kernel
theorem dX2_manOfRank_1 : decode cX2_manOfRank 1 = .ok (.istore_n 2, 1) := by decide +kernel
theorem dX2_manOfRank_2 : decode cX2_manOfRank 2 = .ok (.iload_n 2, 1) := by decide +kernel
theorem dX2_manOfRank_3 : decode cX2_manOfRank 3 = .ok (.aload_n 0, 1) := by decide +kernel
theorem dX2_manOfRank_4 : decode cX2_manOfRank 4 = .ok (.getfield 33, 3) := by decide +kernel
theorem dX2_manOfRank_7 : decode cX2_manOfRank 7 = .ok (.if_icmp .ge 20, 3) := by decide +kernel
theorem dX2_manOfRank_10 : decode cX2_manOfRank 10 = .ok (.aload_n 0, 1) := by decide +kernel
theorem dX2_manOfRank_11 : decode cX2_manOfRank 11 = .ok (.iload_n 2, 1) := by decide +kernel
theorem dX2_manOfRank_12 : decode cX2_manOfRank 12 = .ok (.invokevirtual 51, 3) := by decide +kernel
theorem dX2_manOfRank_15 : decode cX2_manOfRank 15 = .ok (.iload_n 1, 1) := by decide +kernel
theorem dX2_manOfRank_16 : decode cX2_manOfRank 16 = .ok (.if_icmp .ne 5, 3) := by decide +kernel
theorem dX2_manOfRank_19 : decode cX2_manOfRank 19 = .ok (.iload_n 2, 1) := by decide +kernel
theorem dX2_manOfRank_20 : decode cX2_manOfRank 20 = .ok (.ireturn, 1) := by decide +kernel
theorem dX2_manOfRank_21 : decode cX2_manOfRank 21 = .ok (.iinc 2 1, 3) := by decide +kernel
theorem dX2_manOfRank_24 : decode cX2_manOfRank 24 = .ok (.goto (-22), 3) := by decide +kernel
theorem dX2_manOfRank_27 : decode cX2_manOfRank 27 = .ok (.iconst (-1), 1) := by decide +kernel
theorem dX2_manOfRank_28 : decode cX2_manOfRank 28 = .ok (.ireturn, 1) := by decide +kernel
theorem dX2_rankOf_0 : decode cX2_rankOf 0 = .ok (.iconst 0, 1) := by decide +kernel
theorem dX2_rankOf_1 : decode cX2_rankOf 1 = .ok (.istore_n 2, 1) := by decide +kernel
theorem dX2_rankOf_2 : decode cX2_rankOf 2 = .ok (.iconst 0, 1) := by decide +kernel
theorem dX2_rankOf_3 : decode cX2_rankOf 3 = .ok (.istore_n 3, 1) := by decide +kernel
theorem dX2_rankOf_4 : decode cX2_rankOf 4 = .ok (.iload_n 3, 1) := by decide +kernel
theorem dX2_rankOf_5 : decode cX2_rankOf 5 = .ok (.aload_n 0, 1) := by decide +kernel
theorem dX2_rankOf_6 : decode cX2_rankOf 6 = .ok (.getfield 33, 3) := by decide +kernel
theorem dX2_rankOf_9 : decode cX2_rankOf 9 = .ok (.if_icmp .ge 40, 3) := by decide +kernel
theorem dX2_rankOf_12 : decode cX2_rankOf 12 = .ok (.aload_n 0, 1) := by decide +kernel
theorem dX2_rankOf_13 : decode cX2_rankOf 13 = .ok (.iload_n 3, 1) := by decide +kernel
theorem dX2_rankOf_14 : decode cX2_rankOf 14 = .ok (.invokevirtual 41, 3) := by decide +kernel
theorem dX2_rankOf_17 : decode cX2_rankOf 17 = .ok (.aload_n 0, 1) := by decide +kernel
theorem dX2_rankOf_18 : decode cX2_rankOf 18 = .ok (.iload_n 1, 1) := by decide +kernel
theorem dX2_rankOf_19 : decode cX2_rankOf 19 = .ok (.invokevirtual 41, 3) := by decide +kernel
theorem dX2_rankOf_22 : decode cX2_rankOf 22 = .ok (.isub, 1) := by decide +kernel
theorem dX2_rankOf_23 : decode cX2_rankOf 23 = .ok (.istore 4, 2) := by decide +kernel
theorem dX2_rankOf_25 : decode cX2_rankOf 25 = .ok (.iload 4, 2) := by decide +kernel
theorem dX2_rankOf_27 : decode cX2_rankOf 27 = .ok (.ifCond .gt 13, 3) := by decide +kernel
theorem dX2_rankOf_30 : decode cX2_rankOf 30 = .ok (.iload 4, 2) := by decide +kernel
theorem dX2_rankOf_32 : decode cX2_rankOf 32 = .ok (.ifCond .ne 11, 3) := by decide +kernel
theorem dX2_rankOf_35 : decode cX2_rankOf 35 = .ok (.iload_n 3, 1) := by decide +kernel
theorem dX2_rankOf_36 : decode cX2_rankOf 36 = .ok (.iload_n 1, 1) := by decide +kernel
theorem dX2_rankOf_37 : decode cX2_rankOf 37 = .ok (.if_icmp .ge 6, 3) := by decide +kernel
theorem dX2_rankOf_40 : decode cX2_rankOf 40 = .ok (.iinc 2 1, 3) := by decide +kernel
theorem dX2_rankOf_43 : decode cX2_rankOf 43 = .ok (.iinc 3 1, 3) := by decide +kernel
theorem dX2_rankOf_46 : decode cX2_rankOf 46 = .ok (.goto (-42), 3) := by decide +kernel
theorem dX2_rankOf_49 : decode cX2_rankOf 49 = .ok (.iload_n 2, 1) := by decide +kernel
theorem dX2_rankOf_50 : decode cX2_rankOf 50 = .ok (.ireturn, 1) := by decide +kernel
theorem dX2_isFit_0 : decode cX2_isFit 0 = .ok (.aload_n 0, 1) := by decide +kernel
theorem dX2_isFit_1 : decode cX2_isFit 1 = .ok (.iload_n 1, 1) := by decide +kernel
theorem dX2_isFit_2 : decode cX2_isFit 2 = .ok (.invokevirtual 37, 3) := by decide +kernel
theorem dX2_isFit_5 : decode cX2_isFit 5 = .ok (.ifCond .eq 41, 3) := by decide +kernel
theorem dX2_isFit_8 : decode cX2_isFit 8 = .ok (.aload_n 0, 1) := by decide +kernel
theorem dX2_isFit_9 : decode cX2_isFit 9 = .ok (.getfield 9, 3) := by decide +kernel
theorem dX2_isFit_12 : decode cX2_isFit 12 = .ok (.iload_n 1, 1) := by decide +kernel
theorem dX2_isFit_13 : decode cX2_isFit 13 = .ok (.iaload, 1) := by decide +kernel
theorem dX2_isFit_14 : decode cX2_isFit 14 = .ok (.aload_n 2, 1) := by decide +kernel
theorem dX2_isFit_15 : decode cX2_isFit 15 = .ok (.iconst 1, 1) := by decide +kernel
theorem dX2_isFit_16 : decode cX2_isFit 16 = .ok (.invokevirtual 54, 3) := by decide +kernel
theorem dX2_isFit_19 : decode cX2_isFit 19 = .ok (.if_icmp .lt 27, 3) := by decide +kernel
theorem dX2_isFit_22 : decode cX2_isFit 22 = .ok (.aload_n 0, 1) := by decide +kernel
theorem dX2_isFit_23 : decode cX2_isFit 23 = .ok (.getfield 18, 3) := by decide +kernel
theorem dX2_isFit_26 : decode cX2_isFit 26 = .ok (.iload_n 1, 1) := by decide +kernel
theorem dX2_isFit_27 : decode cX2_isFit 27 = .ok (.iaload, 1) := by decide +kernel
theorem dX2_isFit_28 : decode cX2_isFit 28 = .ok (.iload_n 3, 1) := by decide +kernel
theorem dX2_isFit_29 : decode cX2_isFit 29 = .ok (.if_icmp .gt 17, 3) := by decide +kernel
theorem dX2_isFit_32 : decode cX2_isFit 32 = .ok (.aload_n 0, 1) := by decide +kernel
theorem dX2_isFit_33 : decode cX2_isFit 33 = .ok (.getfield 24, 3) := by decide +kernel
theorem dX2_isFit_36 : decode cX2_isFit 36 = .ok (.iload_n 1, 1) := by decide +kernel
theorem dX2_isFit_37 : decode cX2_isFit 37 = .ok (.iaload, 1) := by decide +kernel
theorem dX2_isFit_38 : decode cX2_isFit 38 = .ok (.iconst (-1), 1) := by decide +kernel
theorem dX2_isFit_39 : decode cX2_isFit 39 = .ok (.if_icmp .ne 7, 3) := by decide +kernel
theorem dX2_isFit_42 : decode cX2_isFit 42 = .ok (.iconst 1, 1) := by decide +kernel
theorem dX2_isFit_43 : decode cX2_isFit 43 = .ok (.goto 4, 3) := by decide +kernel
theorem dX2_isFit_46 : decode cX2_isFit 46 = .ok (.iconst 0, 1) := by decide +kernel
theorem dX2_isFit_47 : decode cX2_isFit 47 = .ok (.ireturn, 1) := by decide +kernel
theorem dX2_fillPlaces_0 : decode cX2_fillPlaces 0 = .ok (.iconst 0, 1) := by decide +kernel
theorem dX2_fillPlaces_1 : decode cX2_fillPlaces 1 = .ok (.istore_n 3, 1) := by decide +kernel
theorem dX2_fillPlaces_2 : decode cX2_fillPlaces 2 = .ok (.iconst 0, 1) := by decide +kernel
theorem dX2_fillPlaces_3 : decode cX2_fillPlaces 3 = .ok (.istore 4, 2) := by decide +kernel
theorem dX2_fillPlaces_5 : decode cX2_fillPlaces 5 = .ok (.iload 4, 2) := by decide +kernel
theorem dX2_fillPlaces_7 : decode cX2_fillPlaces 7 = .ok (.aload_n 1, 1) := by decide +kernel
theorem dX2_fillPlaces_8 : decode cX2_fillPlaces 8 = .ok (.invokevirtual 59, 3) := by decide +kernel
theorem dX2_fillPlaces_11 : decode cX2_fillPlaces 11 = .ok (.if_icmp .ge 55, 3) := by decide +kernel
theorem dX2_fillPlaces_14 : decode cX2_fillPlaces 14 = .ok (.iload 4, 2) := by decide +kernel
theorem dX2_fillPlaces_16 : decode cX2_fillPlaces 16 = .ok (.aload_n 0, 1) := by decide +kernel
theorem dX2_fillPlaces_17 : decode cX2_fillPlaces 17 = .ok (.getfield 30, 3) := by decide +kernel
theorem dX2_fillPlaces_20 : decode cX2_fillPlaces 20 = .ok (.arraylength, 1) := by decide +kernel
theorem dX2_fillPlaces_21 : decode cX2_fillPlaces 21 = .ok (.if_icmp .ge 45, 3) := by decide +kernel
theorem dX2_fillPlaces_24 : decode cX2_fillPlaces 24 = .ok (.aload_n 0, 1) := by decide +kernel
theorem dX2_fillPlaces_25 : decode cX2_fillPlaces 25 = .ok (.getfield 30, 3) := by decide +kernel
theorem dX2_fillPlaces_28 : decode cX2_fillPlaces 28 = .ok (.iload 4, 2) := by decide +kernel
theorem dX2_fillPlaces_30 : decode cX2_fillPlaces 30 = .ok (.iconst 0, 1) := by decide +kernel
theorem dX2_fillPlaces_31 : decode cX2_fillPlaces 31 = .ok (.iastore, 1) := by decide +kernel
theorem dX2_fillPlaces_32 : decode cX2_fillPlaces 32 = .ok (.aload_n 0, 1) := by decide +kernel
theorem dX2_fillPlaces_33 : decode cX2_fillPlaces 33 = .ok (.aload_n 1, 1) := by decide +kernel
theorem dX2_fillPlaces_34 : decode cX2_fillPlaces 34 = .ok (.iload_n 2, 1) := by decide +kernel
theorem dX2_fillPlaces_35 : decode cX2_fillPlaces 35 = .ok (.invokevirtual 63, 3) := by decide +kernel
theorem dX2_fillPlaces_38 : decode cX2_fillPlaces 38 = .ok (.istore 5, 2) := by decide +kernel
theorem dX2_fillPlaces_40 : decode cX2_fillPlaces 40 = .ok (.iload 5, 2) := by decide +kernel
theorem dX2_fillPlaces_42 : decode cX2_fillPlaces 42 = .ok (.iconst (-1), 1) := by decide +kernel
theorem dX2_fillPlaces_43 : decode cX2_fillPlaces 43 = .ok (.if_icmp .ne 9, 3) := by decide +kernel
theorem dX2_fillPlaces_46 : decode cX2_fillPlaces 46 = .ok (.iinc 3 1, 3) := by decide +kernel
theorem dX2_fillPlaces_49 : decode cX2_fillPlaces 49 = .ok (.goto 11, 3) := by decide +kernel
theorem dX2_fillPlaces_52 : decode cX2_fillPlaces 52 = .ok (.aload_n 0, 1) := by decide +kernel
theorem dX2_fillPlaces_53 : decode cX2_fillPlaces 53 = .ok (.iload 5, 2) := by decide +kernel
theorem dX2_fillPlaces_55 : decode cX2_fillPlaces 55 = .ok (.iload 4, 2) := by decide +kernel
theorem dX2_fillPlaces_57 : decode cX2_fillPlaces 57 = .ok (.invokevirtual 67, 3) := by decide +kernel
theorem dX2_fillPlaces_60 : decode cX2_fillPlaces 60 = .ok (.iinc 4 1, 3) := by decide +kernel
theorem dX2_fillPlaces_63 : decode cX2_fillPlaces 63 = .ok (.goto (-58), 3) := by decide +kernel
theorem dX2_fillPlaces_66 : decode cX2_fillPlaces 66 = .ok (.iload_n 3, 1) := by decide +kernel
theorem dX2_fillPlaces_67 : decode cX2_fillPlaces 67 = .ok (.ireturn, 1) := by decide +kernel
theorem dX2_richestFit_0 : decode cX2_richestFit 0 = .ok (.iconst (-1), 1) := by decide +kernel
theorem dX2_richestFit_1 : decode cX2_richestFit 1 = .ok (.istore_n 3, 1) := by decide +kernel
theorem dX2_richestFit_2 : decode cX2_richestFit 2 = .ok (.iconst 0, 1) := by decide +kernel
theorem dX2_richestFit_3 : decode cX2_richestFit 3 = .ok (.istore 4, 2) := by decide +kernel
theorem dX2_richestFit_5 : decode cX2_richestFit 5 = .ok (.iload 4, 2) := by decide +kernel
theorem dX2_richestFit_7 : decode cX2_richestFit 7 = .ok (.aload_n 0, 1) := by decide +kernel
theorem dX2_richestFit_8 : decode cX2_richestFit 8 = .ok (.getfield 33, 3) := by decide +kernel
theorem dX2_richestFit_11 : decode cX2_richestFit 11 = .ok (.if_icmp .ge 42, 3) := by decide +kernel
theorem dX2_richestFit_14 : decode cX2_richestFit 14 = .ok (.aload_n 0, 1) := by decide +kernel
theorem dX2_richestFit_15 : decode cX2_richestFit 15 = .ok (.iload 4, 2) := by decide +kernel
theorem dX2_richestFit_17 : decode cX2_richestFit 17 = .ok (.aload_n 1, 1) := by decide +kernel
theorem dX2_richestFit_18 : decode cX2_richestFit 18 = .ok (.iload_n 2, 1) := by decide +kernel
theorem dX2_richestFit_19 : decode cX2_richestFit 19 = .ok (.invokevirtual 71, 3) := by decide +kernel
theorem dX2_richestFit_22 : decode cX2_richestFit 22 = .ok (.ifCond .eq 25, 3) := by decide +kernel
theorem dX2_richestFit_25 : decode cX2_richestFit 25 = .ok (.iload_n 3, 1) := by decide +kernel
theorem dX2_richestFit_26 : decode cX2_richestFit 26 = .ok (.iconst (-1), 1) := by decide +kernel
theorem dX2_richestFit_27 : decode cX2_richestFit 27 = .ok (.if_icmp .eq 17, 3) := by decide +kernel
theorem dX2_richestFit_30 : decode cX2_richestFit 30 = .ok (.aload_n 0, 1) := by decide +kernel
theorem dX2_richestFit_31 : decode cX2_richestFit 31 = .ok (.iload 4, 2) := by decide +kernel
theorem dX2_richestFit_33 : decode cX2_richestFit 33 = .ok (.invokevirtual 41, 3) := by decide +kernel
theorem dX2_richestFit_36 : decode cX2_richestFit 36 = .ok (.aload_n 0, 1) := by decide +kernel
theorem dX2_richestFit_37 : decode cX2_richestFit 37 = .ok (.iload_n 3, 1) := by decide +kernel
theorem dX2_richestFit_38 : decode cX2_richestFit 38 = .ok (.invokevirtual 41, 3) := by decide +kernel
theorem dX2_richestFit_41 : decode cX2_richestFit 41 = .ok (.if_icmp .le 6, 3) := by decide +kernel
theorem dX2_richestFit_44 : decode cX2_richestFit 44 = .ok (.iload 4, 2) := by decide +kernel
theorem dX2_richestFit_46 : decode cX2_richestFit 46 = .ok (.istore_n 3, 1) := by decide +kernel
theorem dX2_richestFit_47 : decode cX2_richestFit 47 = .ok (.iinc 4 1, 3) := by decide +kernel
theorem dX2_richestFit_50 : decode cX2_richestFit 50 = .ok (.goto (-45), 3) := by decide +kernel
theorem dX2_richestFit_53 : decode cX2_richestFit 53 = .ok (.iload_n 3, 1) := by decide +kernel
theorem dX2_richestFit_54 : decode cX2_richestFit 54 = .ok (.ireturn, 1) := by decide +kernel
theorem dX2_handOver_0 : decode cX2_handOver 0 = .ok (.aload_n 0, 1) := by decide +kernel
theorem dX2_handOver_1 : decode cX2_handOver 1 = .ok (.iload_n 2, 1) := by decide +kernel
theorem dX2_handOver_2 : decode cX2_handOver 2 = .ok (.invokevirtual 37, 3) := by decide +kernel
theorem dX2_handOver_5 : decode cX2_handOver 5 = .ok (.ifCond .eq 10, 3) := by decide +kernel
theorem dX2_handOver_8 : decode cX2_handOver 8 = .ok (.aload_n 0, 1) := by decide +kernel
theorem dX2_handOver_9 : decode cX2_handOver 9 = .ok (.getfield 24, 3) := by decide +kernel
theorem dX2_handOver_12 : decode cX2_handOver 12 = .ok (.iload_n 2, 1) := by decide +kernel
theorem dX2_handOver_13 : decode cX2_handOver 13 = .ok (.iconst (-1), 1) := by decide +kernel
theorem dX2_handOver_14 : decode cX2_handOver 14 = .ok (.iastore, 1) := by decide +kernel
theorem dX2_handOver_15 : decode cX2_handOver 15 = .ok (.aload_n 0, 1) := by decide +kernel
theorem dX2_handOver_16 : decode cX2_handOver 16 = .ok (.iload_n 3, 1) := by decide +kernel
theorem dX2_handOver_17 : decode cX2_handOver 17 = .ok (.iload_n 1, 1) := by decide +kernel
theorem dX2_handOver_18 : decode cX2_handOver 18 = .ok (.invokevirtual 67, 3) := by decide +kernel
theorem dX2_handOver_21 : decode cX2_handOver 21 = .ok (.return_, 1) := by decide +kernel
theorem dX2_layOn_0 : decode cX2_layOn 0 = .ok (.aload_n 0, 1) := by decide +kernel
theorem dX2_layOn_1 : decode cX2_layOn 1 = .ok (.iload_n 1, 1) := by decide +kernel
theorem dX2_layOn_2 : decode cX2_layOn 2 = .ok (.invokevirtual 37, 3) := by decide +kernel
theorem dX2_layOn_5 : decode cX2_layOn 5 = .ok (.ifCond .eq 36, 3) := by decide +kernel
theorem dX2_layOn_8 : decode cX2_layOn 8 = .ok (.iload_n 2, 1) := by decide +kernel
theorem dX2_layOn_9 : decode cX2_layOn 9 = .ok (.invokestatic 48, 3) := by decide +kernel
theorem dX2_layOn_12 : decode cX2_layOn 12 = .ok (.ifCond .eq 29, 3) := by decide +kernel
theorem dX2_layOn_15 : decode cX2_layOn 15 = .ok (.aload_n 0, 1) := by decide +kernel
theorem dX2_layOn_16 : decode cX2_layOn 16 = .ok (.getfield 24, 3) := by decide +kernel
theorem dX2_layOn_19 : decode cX2_layOn 19 = .ok (.iload_n 1, 1) := by decide +kernel
theorem dX2_layOn_20 : decode cX2_layOn 20 = .ok (.iload_n 2, 1) := by decide +kernel
theorem dX2_layOn_21 : decode cX2_layOn 21 = .ok (.iastore, 1) := by decide +kernel
theorem dX2_layOn_22 : decode cX2_layOn 22 = .ok (.aload_n 0, 1) := by decide +kernel
theorem dX2_layOn_23 : decode cX2_layOn 23 = .ok (.getfield 27, 3) := by decide +kernel
theorem dX2_layOn_26 : decode cX2_layOn 26 = .ok (.iload_n 2, 1) := by decide +kernel
theorem dX2_layOn_27 : decode cX2_layOn 27 = .ok (.iload_n 1, 1) := by decide +kernel
theorem dX2_layOn_28 : decode cX2_layOn 28 = .ok (.iastore, 1) := by decide +kernel
theorem dX2_layOn_29 : decode cX2_layOn 29 = .ok (.aload_n 0, 1) := by decide +kernel
theorem dX2_layOn_30 : decode cX2_layOn 30 = .ok (.getfield 30, 3) := by decide +kernel
theorem dX2_layOn_33 : decode cX2_layOn 33 = .ok (.iload_n 2, 1) := by decide +kernel
theorem dX2_layOn_34 : decode cX2_layOn 34 = .ok (.dup2, 1) := by decide +kernel
theorem dX2_layOn_35 : decode cX2_layOn 35 = .ok (.iaload, 1) := by decide +kernel
theorem dX2_layOn_36 : decode cX2_layOn 36 = .ok (.iconst 1, 1) := by decide +kernel
theorem dX2_layOn_37 : decode cX2_layOn 37 = .ok (.iload_n 1, 1) := by decide +kernel
theorem dX2_layOn_38 : decode cX2_layOn 38 = .ok (.ishl, 1) := by decide +kernel
theorem dX2_layOn_39 : decode cX2_layOn 39 = .ok (.ior, 1) := by decide +kernel
theorem dX2_layOn_40 : decode cX2_layOn 40 = .ok (.iastore, 1) := by decide +kernel
theorem dX2_layOn_41 : decode cX2_layOn 41 = .ok (.return_, 1) := by decide +kernel
theorem dX2_partAt_0 : decode cX2_partAt 0 = .ok (.aload_n 1, 1) := by decide +kernel
theorem dX2_partAt_1 : decode cX2_partAt 1 = .ok (.iload_n 2, 1) := by decide +kernel
theorem dX2_partAt_2 : decode cX2_partAt 2 = .ok (.invokevirtual 75, 3) := by decide +kernel
theorem dX2_partAt_5 : decode cX2_partAt 5 = .ok (.istore_n 3, 1) := by decide +kernel
theorem dX2_partAt_6 : decode cX2_partAt 6 = .ok (.iconst 0, 1) := by decide +kernel
theorem dX2_partAt_7 : decode cX2_partAt 7 = .ok (.istore 4, 2) := by decide +kernel
theorem dX2_partAt_9 : decode cX2_partAt 9 = .ok (.iconst 0, 1) := by decide +kernel
theorem dX2_partAt_10 : decode cX2_partAt 10 = .ok (.istore 5, 2) := by decide +kernel
theorem dX2_partAt_12 : decode cX2_partAt 12 = .ok (.iload 5, 2) := by decide +kernel
theorem dX2_partAt_14 : decode cX2_partAt 14 = .ok (.iload_n 2, 1) := by decide +kernel
theorem dX2_partAt_15 : decode cX2_partAt 15 = .ok (.if_icmp .ge 43, 3) := by decide +kernel
theorem dX2_partAt_18 : decode cX2_partAt 18 = .ok (.iload 5, 2) := by decide +kernel
theorem dX2_partAt_20 : decode cX2_partAt 20 = .ok (.aload_n 0, 1) := by decide +kernel
theorem dX2_partAt_21 : decode cX2_partAt 21 = .ok (.getfield 27, 3) := by decide +kernel
theorem dX2_partAt_24 : decode cX2_partAt 24 = .ok (.arraylength, 1) := by decide +kernel
theorem dX2_partAt_25 : decode cX2_partAt 25 = .ok (.if_icmp .ge 33, 3) := by decide +kernel
theorem dX2_partAt_28 : decode cX2_partAt 28 = .ok (.aload_n 1, 1) := by decide +kernel
theorem dX2_partAt_29 : decode cX2_partAt 29 = .ok (.iload 5, 2) := by decide +kernel
theorem dX2_partAt_31 : decode cX2_partAt 31 = .ok (.invokevirtual 75, 3) := by decide +kernel
theorem dX2_partAt_34 : decode cX2_partAt 34 = .ok (.iload_n 3, 1) := by decide +kernel
theorem dX2_partAt_35 : decode cX2_partAt 35 = .ok (.if_icmp .ne 17, 3) := by decide +kernel
theorem dX2_partAt_38 : decode cX2_partAt 38 = .ok (.aload_n 0, 1) := by decide +kernel
theorem dX2_partAt_39 : decode cX2_partAt 39 = .ok (.getfield 27, 3) := by decide +kernel
theorem dX2_partAt_42 : decode cX2_partAt 42 = .ok (.iload 5, 2) := by decide +kernel
theorem dX2_partAt_44 : decode cX2_partAt 44 = .ok (.iaload, 1) := by decide +kernel
theorem dX2_partAt_45 : decode cX2_partAt 45 = .ok (.iconst (-1), 1) := by decide +kernel
theorem dX2_partAt_46 : decode cX2_partAt 46 = .ok (.if_icmp .eq 6, 3) := by decide +kernel
theorem dX2_partAt_49 : decode cX2_partAt 49 = .ok (.iinc 4 1, 3) := by decide +kernel
theorem dX2_partAt_52 : decode cX2_partAt 52 = .ok (.iinc 5 1, 3) := by decide +kernel
theorem dX2_partAt_55 : decode cX2_partAt 55 = .ok (.goto (-43), 3) := by decide +kernel
theorem dX2_partAt_58 : decode cX2_partAt 58 = .ok (.aload_n 1, 1) := by decide +kernel
theorem dX2_partAt_59 : decode cX2_partAt 59 = .ok (.iload_n 3, 1) := by decide +kernel
theorem dX2_partAt_60 : decode cX2_partAt 60 = .ok (.iload 4, 2) := by decide +kernel
theorem dX2_partAt_62 : decode cX2_partAt 62 = .ok (.invokevirtual 78, 3) := by decide +kernel
theorem dX2_partAt_65 : decode cX2_partAt 65 = .ok (.ireturn, 1) := by decide +kernel
theorem dX2_settle_0 : decode cX2_settle 0 = .ok (.iconst 0, 1) := by decide +kernel
theorem dX2_settle_1 : decode cX2_settle 1 = .ok (.istore_n 3, 1) := by decide +kernel
theorem dX2_settle_2 : decode cX2_settle 2 = .ok (.iconst 0, 1) := by decide +kernel
theorem dX2_settle_3 : decode cX2_settle 3 = .ok (.istore 4, 2) := by decide +kernel
theorem dX2_settle_5 : decode cX2_settle 5 = .ok (.iload 4, 2) := by decide +kernel
theorem dX2_settle_7 : decode cX2_settle 7 = .ok (.aload_n 1, 1) := by decide +kernel
theorem dX2_settle_8 : decode cX2_settle 8 = .ok (.invokevirtual 59, 3) := by decide +kernel
theorem dX2_settle_11 : decode cX2_settle 11 = .ok (.if_icmp .ge 79, 3) := by decide +kernel
theorem dX2_settle_14 : decode cX2_settle 14 = .ok (.aload_n 0, 1) := by decide +kernel
theorem dX2_settle_15 : decode cX2_settle 15 = .ok (.iload 4, 2) := by decide +kernel
theorem dX2_settle_17 : decode cX2_settle 17 = .ok (.invokevirtual 82, 3) := by decide +kernel
theorem dX2_settle_20 : decode cX2_settle 20 = .ok (.istore 5, 2) := by decide +kernel
theorem dX2_settle_22 : decode cX2_settle 22 = .ok (.aload_n 0, 1) := by decide +kernel
theorem dX2_settle_23 : decode cX2_settle 23 = .ok (.iload 5, 2) := by decide +kernel
theorem dX2_settle_25 : decode cX2_settle 25 = .ok (.invokevirtual 37, 3) := by decide +kernel
theorem dX2_settle_28 : decode cX2_settle 28 = .ok (.ifCond .eq 56, 3) := by decide +kernel
theorem dX2_settle_31 : decode cX2_settle 31 = .ok (.aload_n 0, 1) := by decide +kernel
theorem dX2_settle_32 : decode cX2_settle 32 = .ok (.aload_n 1, 1) := by decide +kernel
theorem dX2_settle_33 : decode cX2_settle 33 = .ok (.iload 4, 2) := by decide +kernel
theorem dX2_settle_35 : decode cX2_settle 35 = .ok (.invokevirtual 84, 3) := by decide +kernel
theorem dX2_settle_38 : decode cX2_settle 38 = .ok (.istore 6, 2) := by decide +kernel
theorem dX2_settle_40 : decode cX2_settle 40 = .ok (.aload_n 0, 1) := by decide +kernel
theorem dX2_settle_41 : decode cX2_settle 41 = .ok (.getfield 9, 3) := by decide +kernel
theorem dX2_settle_44 : decode cX2_settle 44 = .ok (.iload 5, 2) := by decide +kernel
theorem dX2_settle_46 : decode cX2_settle 46 = .ok (.dup2, 1) := by decide +kernel
theorem dX2_settle_47 : decode cX2_settle 47 = .ok (.iaload, 1) := by decide +kernel
theorem dX2_settle_48 : decode cX2_settle 48 = .ok (.iload 6, 2) := by decide +kernel
theorem dX2_settle_50 : decode cX2_settle 50 = .ok (.isub, 1) := by decide +kernel
theorem dX2_settle_51 : decode cX2_settle 51 = .ok (.iastore, 1) := by decide +kernel
theorem dX2_settle_52 : decode cX2_settle 52 = .ok (.iload_n 3, 1) := by decide +kernel
theorem dX2_settle_53 : decode cX2_settle 53 = .ok (.iload 6, 2) := by decide +kernel
theorem dX2_settle_55 : decode cX2_settle 55 = .ok (.iadd, 1) := by decide +kernel
theorem dX2_settle_56 : decode cX2_settle 56 = .ok (.istore_n 3, 1) := by decide +kernel
theorem dX2_settle_57 : decode cX2_settle 57 = .ok (.aload_n 0, 1) := by decide +kernel
theorem dX2_settle_58 : decode cX2_settle 58 = .ok (.getfield 21, 3) := by decide +kernel
theorem dX2_settle_61 : decode cX2_settle 61 = .ok (.iload 5, 2) := by decide +kernel
theorem dX2_settle_63 : decode cX2_settle 63 = .ok (.dup2, 1) := by decide +kernel
theorem dX2_settle_64 : decode cX2_settle 64 = .ok (.iaload, 1) := by decide +kernel
theorem dX2_settle_65 : decode cX2_settle 65 = .ok (.iconst 1, 1) := by decide +kernel
theorem dX2_settle_66 : decode cX2_settle 66 = .ok (.iadd, 1) := by decide +kernel
theorem dX2_settle_67 : decode cX2_settle 67 = .ok (.iastore, 1) := by decide +kernel
theorem dX2_settle_68 : decode cX2_settle 68 = .ok (.aload_n 0, 1) := by decide +kernel
theorem dX2_settle_69 : decode cX2_settle 69 = .ok (.getfield 18, 3) := by decide +kernel
theorem dX2_settle_72 : decode cX2_settle 72 = .ok (.iload 5, 2) := by decide +kernel
theorem dX2_settle_74 : decode cX2_settle 74 = .ok (.iload_n 2, 1) := by decide +kernel
theorem dX2_settle_75 : decode cX2_settle 75 = .ok (.iconst 1, 1) := by decide +kernel
theorem dX2_settle_76 : decode cX2_settle 76 = .ok (.iadd, 1) := by decide +kernel
theorem dX2_settle_77 : decode cX2_settle 77 = .ok (.aload_n 1, 1) := by decide +kernel
theorem dX2_settle_78 : decode cX2_settle 78 = .ok (.iconst 0, 1) := by decide +kernel
theorem dX2_settle_79 : decode cX2_settle 79 = .ok (.invokevirtual 54, 3) := by decide +kernel
theorem dX2_settle_82 : decode cX2_settle 82 = .ok (.iadd, 1) := by decide +kernel
theorem dX2_settle_83 : decode cX2_settle 83 = .ok (.iastore, 1) := by decide +kernel
theorem dX2_settle_84 : decode cX2_settle 84 = .ok (.iinc 4 1, 3) := by decide +kernel
theorem dX2_settle_87 : decode cX2_settle 87 = .ok (.goto (-82), 3) := by decide +kernel
theorem dX2_settle_90 : decode cX2_settle 90 = .ok (.aload_n 0, 1) := by decide +kernel
theorem dX2_settle_91 : decode cX2_settle 91 = .ok (.invokevirtual 87, 3) := by decide +kernel
theorem dX2_settle_94 : decode cX2_settle 94 = .ok (.iload_n 3, 1) := by decide +kernel
theorem dX2_settle_95 : decode cX2_settle 95 = .ok (.ireturn, 1) := by decide +kernel
theorem dX2_layDownAll_0 : decode cX2_layDownAll 0 = .ok (.iconst 0, 1) := by decide +kernel
theorem dX2_layDownAll_1 : decode cX2_layDownAll 1 = .ok (.istore_n 1, 1) := by decide +kernel
theorem dX2_layDownAll_2 : decode cX2_layDownAll 2 = .ok (.iload_n 1, 1) := by decide +kernel
theorem dX2_layDownAll_3 : decode cX2_layDownAll 3 = .ok (.aload_n 0, 1) := by decide +kernel
theorem dX2_layDownAll_4 : decode cX2_layDownAll 4 = .ok (.getfield 24, 3) := by decide +kernel
theorem dX2_layDownAll_7 : decode cX2_layDownAll 7 = .ok (.arraylength, 1) := by decide +kernel
theorem dX2_layDownAll_8 : decode cX2_layDownAll 8 = .ok (.if_icmp .ge 16, 3) := by decide +kernel
theorem dX2_layDownAll_11 : decode cX2_layDownAll 11 = .ok (.aload_n 0, 1) := by decide +kernel
theorem dX2_layDownAll_12 : decode cX2_layDownAll 12 = .ok (.getfield 24, 3) := by decide +kernel
theorem dX2_layDownAll_15 : decode cX2_layDownAll 15 = .ok (.iload_n 1, 1) := by decide +kernel
theorem dX2_layDownAll_16 : decode cX2_layDownAll 16 = .ok (.iconst (-1), 1) := by decide +kernel
theorem dX2_layDownAll_17 : decode cX2_layDownAll 17 = .ok (.iastore, 1) := by decide +kernel
theorem dX2_layDownAll_18 : decode cX2_layDownAll 18 = .ok (.iinc 1 1, 3) := by decide +kernel
theorem dX2_layDownAll_21 : decode cX2_layDownAll 21 = .ok (.goto (-19), 3) := by decide +kernel
theorem dX2_layDownAll_24 : decode cX2_layDownAll 24 = .ok (.iconst 0, 1) := by decide +kernel
theorem dX2_layDownAll_25 : decode cX2_layDownAll 25 = .ok (.istore_n 1, 1) := by decide +kernel
theorem dX2_layDownAll_26 : decode cX2_layDownAll 26 = .ok (.iload_n 1, 1) := by decide +kernel
theorem dX2_layDownAll_27 : decode cX2_layDownAll 27 = .ok (.aload_n 0, 1) := by decide +kernel
theorem dX2_layDownAll_28 : decode cX2_layDownAll 28 = .ok (.getfield 27, 3) := by decide +kernel
theorem dX2_layDownAll_31 : decode cX2_layDownAll 31 = .ok (.arraylength, 1) := by decide +kernel
theorem dX2_layDownAll_32 : decode cX2_layDownAll 32 = .ok (.if_icmp .ge 16, 3) := by decide +kernel
theorem dX2_layDownAll_35 : decode cX2_layDownAll 35 = .ok (.aload_n 0, 1) := by decide +kernel
theorem dX2_layDownAll_36 : decode cX2_layDownAll 36 = .ok (.getfield 27, 3) := by decide +kernel
theorem dX2_layDownAll_39 : decode cX2_layDownAll 39 = .ok (.iload_n 1, 1) := by decide +kernel
theorem dX2_layDownAll_40 : decode cX2_layDownAll 40 = .ok (.iconst (-1), 1) := by decide +kernel
theorem dX2_layDownAll_41 : decode cX2_layDownAll 41 = .ok (.iastore, 1) := by decide +kernel
theorem dX2_layDownAll_42 : decode cX2_layDownAll 42 = .ok (.iinc 1 1, 3) := by decide +kernel
theorem dX2_layDownAll_45 : decode cX2_layDownAll 45 = .ok (.goto (-19), 3) := by decide +kernel
theorem dX2_layDownAll_48 : decode cX2_layDownAll 48 = .ok (.return_, 1) := by decide +kernel
theorem dX2_isPlace_0 : decode cX2_isPlace 0 = .ok (.iload_n 0, 1) := by decide +kernel
theorem dX2_isPlace_1 : decode cX2_isPlace 1 = .ok (.ifCond .lt 13, 3) := by decide +kernel
theorem dX2_isPlace_4 : decode cX2_isPlace 4 = .ok (.iload_n 0, 1) := by decide +kernel
theorem dX2_isPlace_5 : decode cX2_isPlace 5 = .ok (.bipush 24, 2) := by decide +kernel
theorem dX2_isPlace_7 : decode cX2_isPlace 7 = .ok (.if_icmp .ge 7, 3) := by decide +kernel
theorem dX2_isPlace_10 : decode cX2_isPlace 10 = .ok (.iconst 1, 1) := by decide +kernel
theorem dX2_isPlace_11 : decode cX2_isPlace 11 = .ok (.goto 4, 3) := by decide +kernel
theorem dX2_isPlace_14 : decode cX2_isPlace 14 = .ok (.iconst 0, 1) := by decide +kernel
theorem dX2_isPlace_15 : decode cX2_isPlace 15 = .ok (.ireturn, 1) := by decide +kernel
theorem dX3_init_0 : decode cX3_init 0 = .ok (.aload_n 0, 1) := by decide +kernel
theorem dX3_init_1 : decode cX3_init 1 = .ok (.invokespecial 3, 3) := by decide +kernel
theorem dX3_init_4 : decode cX3_init 4 = .ok (.aload_n 0, 1) := by decide +kernel
theorem dX3_init_5 : decode cX3_init 5 = .ok (.bipush 6, 2) := by decide +kernel
theorem dX3_init_7 : decode cX3_init 7 = .ok (.newarray .int, 2) := by decide +kernel
theorem dX3_init_9 : decode cX3_init 9 = .ok (.putfield 9, 3) := by decide +kernel
theorem dX3_init_12 : decode cX3_init 12 = .ok (.aload_n 0, 1) := by decide +kernel
theorem dX3_init_13 : decode cX3_init 13 = .ok (.bipush 6, 2) := by decide +kernel
theorem dX3_init_15 : decode cX3_init 15 = .ok (.newarray .int, 2) := by decide +kernel
theorem dX3_init_17 : decode cX3_init 17 = .ok (.putfield 15, 3) := by decide +kernel
theorem dX3_init_20 : decode cX3_init 20 = .ok (.aload_n 0, 1) := by decide +kernel
theorem dX3_init_21 : decode cX3_init 21 = .ok (.iconst 4, 1) := by decide +kernel
theorem dX3_init_22 : decode cX3_init 22 = .ok (.newarray .int, 2) := by decide +kernel
theorem dX3_init_24 : decode cX3_init 24 = .ok (.putfield 18, 3) := by decide +kernel
theorem dX3_init_27 : decode cX3_init 27 = .ok (.aload_n 0, 1) := by decide +kernel
theorem dX3_init_28 : decode cX3_init 28 = .ok (.bipush 24, 2) := by decide +kernel
theorem dX3_init_30 : decode cX3_init 30 = .ok (.newarray .int, 2) := by decide +kernel
theorem dX3_init_32 : decode cX3_init 32 = .ok (.putfield 21, 3) := by decide +kernel
theorem dX3_init_35 : decode cX3_init 35 = .ok (.aload_n 0, 1) := by decide +kernel
theorem dX3_init_36 : decode cX3_init 36 = .ok (.iconst 0, 1) := by decide +kernel
theorem dX3_init_37 : decode cX3_init 37 = .ok (.putfield 24, 3) := by decide +kernel
theorem dX3_init_40 : decode cX3_init 40 = .ok (.return_, 1) := by decide +kernel
theorem dX3_clear_0 : decode cX3_clear 0 = .ok (.iconst 0, 1) := by decide +kernel
theorem dX3_clear_1 : decode cX3_clear 1 = .ok (.istore_n 1, 1) := by decide +kernel
theorem dX3_clear_2 : decode cX3_clear 2 = .ok (.iload_n 1, 1) := by decide +kernel
theorem dX3_clear_3 : decode cX3_clear 3 = .ok (.aload_n 0, 1) := by decide +kernel
theorem dX3_clear_4 : decode cX3_clear 4 = .ok (.getfield 9, 3) := by decide +kernel
theorem dX3_clear_7 : decode cX3_clear 7 = .ok (.arraylength, 1) := by decide +kernel
theorem dX3_clear_8 : decode cX3_clear 8 = .ok (.if_icmp .ge 16, 3) := by decide +kernel
theorem dX3_clear_11 : decode cX3_clear 11 = .ok (.aload_n 0, 1) := by decide +kernel
theorem dX3_clear_12 : decode cX3_clear 12 = .ok (.getfield 9, 3) := by decide +kernel
theorem dX3_clear_15 : decode cX3_clear 15 = .ok (.iload_n 1, 1) := by decide +kernel
theorem dX3_clear_16 : decode cX3_clear 16 = .ok (.iconst 0, 1) := by decide +kernel
theorem dX3_clear_17 : decode cX3_clear 17 = .ok (.iastore, 1) := by decide +kernel
theorem dX3_clear_18 : decode cX3_clear 18 = .ok (.iinc 1 1, 3) := by decide +kernel
theorem dX3_clear_21 : decode cX3_clear 21 = .ok (.goto (-19), 3) := by decide +kernel
theorem dX3_clear_24 : decode cX3_clear 24 = .ok (.iconst 0, 1) := by decide +kernel
theorem dX3_clear_25 : decode cX3_clear 25 = .ok (.istore_n 1, 1) := by decide +kernel
theorem dX3_clear_26 : decode cX3_clear 26 = .ok (.iload_n 1, 1) := by decide +kernel
theorem dX3_clear_27 : decode cX3_clear 27 = .ok (.aload_n 0, 1) := by decide +kernel
theorem dX3_clear_28 : decode cX3_clear 28 = .ok (.getfield 15, 3) := by decide +kernel
theorem dX3_clear_31 : decode cX3_clear 31 = .ok (.arraylength, 1) := by decide +kernel
theorem dX3_clear_32 : decode cX3_clear 32 = .ok (.if_icmp .ge 16, 3) := by decide +kernel
theorem dX3_clear_35 : decode cX3_clear 35 = .ok (.aload_n 0, 1) := by decide +kernel
theorem dX3_clear_36 : decode cX3_clear 36 = .ok (.getfield 15, 3) := by decide +kernel
theorem dX3_clear_39 : decode cX3_clear 39 = .ok (.iload_n 1, 1) := by decide +kernel
theorem dX3_clear_40 : decode cX3_clear 40 = .ok (.iconst 0, 1) := by decide +kernel
theorem dX3_clear_41 : decode cX3_clear 41 = .ok (.iastore, 1) := by decide +kernel
theorem dX3_clear_42 : decode cX3_clear 42 = .ok (.iinc 1 1, 3) := by decide +kernel
theorem dX3_clear_45 : decode cX3_clear 45 = .ok (.goto (-19), 3) := by decide +kernel
theorem dX3_clear_48 : decode cX3_clear 48 = .ok (.iconst 0, 1) := by decide +kernel
theorem dX3_clear_49 : decode cX3_clear 49 = .ok (.istore_n 1, 1) := by decide +kernel
theorem dX3_clear_50 : decode cX3_clear 50 = .ok (.iload_n 1, 1) := by decide +kernel
theorem dX3_clear_51 : decode cX3_clear 51 = .ok (.aload_n 0, 1) := by decide +kernel
theorem dX3_clear_52 : decode cX3_clear 52 = .ok (.getfield 18, 3) := by decide +kernel
theorem dX3_clear_55 : decode cX3_clear 55 = .ok (.arraylength, 1) := by decide +kernel
theorem dX3_clear_56 : decode cX3_clear 56 = .ok (.if_icmp .ge 16, 3) := by decide +kernel
theorem dX3_clear_59 : decode cX3_clear 59 = .ok (.aload_n 0, 1) := by decide +kernel
theorem dX3_clear_60 : decode cX3_clear 60 = .ok (.getfield 18, 3) := by decide +kernel
theorem dX3_clear_63 : decode cX3_clear 63 = .ok (.iload_n 1, 1) := by decide +kernel
theorem dX3_clear_64 : decode cX3_clear 64 = .ok (.iconst 0, 1) := by decide +kernel
theorem dX3_clear_65 : decode cX3_clear 65 = .ok (.iastore, 1) := by decide +kernel
theorem dX3_clear_66 : decode cX3_clear 66 = .ok (.iinc 1 1, 3) := by decide +kernel
theorem dX3_clear_69 : decode cX3_clear 69 = .ok (.goto (-19), 3) := by decide +kernel
theorem dX3_clear_72 : decode cX3_clear 72 = .ok (.aload_n 0, 1) := by decide +kernel
theorem dX3_clear_73 : decode cX3_clear 73 = .ok (.iconst 0, 1) := by decide +kernel
theorem dX3_clear_74 : decode cX3_clear 74 = .ok (.putfield 24, 3) := by decide +kernel
theorem dX3_clear_77 : decode cX3_clear 77 = .ok (.return_, 1) := by decide +kernel
theorem dX3_hasBurden_0 : decode cX3_hasBurden 0 = .ok (.aload_n 0, 1) := by decide +kernel
theorem dX3_hasBurden_1 : decode cX3_hasBurden 1 = .ok (.iload_n 1, 1) := by decide +kernel
theorem dX3_hasBurden_2 : decode cX3_hasBurden 2 = .ok (.invokevirtual 28, 3) := by decide +kernel
theorem dX3_hasBurden_5 : decode cX3_hasBurden 5 = .ok (.ifCond .le 7, 3) := by decide +kernel
theorem dX3_hasBurden_8 : decode cX3_hasBurden 8 = .ok (.iconst 1, 1) := by decide +kernel
theorem dX3_hasBurden_9 : decode cX3_hasBurden 9 = .ok (.goto 4, 3) := by decide +kernel
theorem dX3_hasBurden_12 : decode cX3_hasBurden 12 = .ok (.iconst 0, 1) := by decide +kernel
theorem dX3_hasBurden_13 : decode cX3_hasBurden 13 = .ok (.ireturn, 1) := by decide +kernel
theorem dX3_tellBurden_0 : decode cX3_tellBurden 0 = .ok (.iload_n 1, 1) := by decide +kernel
theorem dX3_tellBurden_1 : decode cX3_tellBurden 1 = .ok (.ifCond .lt 35, 3) := by decide +kernel
theorem dX3_tellBurden_4 : decode cX3_tellBurden 4 = .ok (.iload_n 1, 1) := by decide +kernel
theorem dX3_tellBurden_5 : decode cX3_tellBurden 5 = .ok (.aload_n 0, 1) := by decide +kernel
theorem dX3_tellBurden_6 : decode cX3_tellBurden 6 = .ok (.getfield 9, 3) := by decide +kernel
theorem dX3_tellBurden_9 : decode cX3_tellBurden 9 = .ok (.arraylength, 1) := by decide +kernel
theorem dX3_tellBurden_10 : decode cX3_tellBurden 10 = .ok (.if_icmp .ge 26, 3) := by decide +kernel
theorem dX3_tellBurden_13 : decode cX3_tellBurden 13 = .ok (.iload_n 1, 1) := by decide +kernel
theorem dX3_tellBurden_14 : decode cX3_tellBurden 14 = .ok (.aload_n 0, 1) := by decide +kernel
theorem dX3_tellBurden_15 : decode cX3_tellBurden 15 = .ok (.getfield 15, 3) := by decide +kernel
theorem dX3_tellBurden_18 : decode cX3_tellBurden 18 = .ok (.arraylength, 1) := by decide +kernel
theorem dX3_tellBurden_19 : decode cX3_tellBurden 19 = .ok (.if_icmp .ge 17, 3) := by decide +kernel
theorem dX3_tellBurden_22 : decode cX3_tellBurden 22 = .ok (.aload_n 0, 1) := by decide +kernel
theorem dX3_tellBurden_23 : decode cX3_tellBurden 23 = .ok (.getfield 9, 3) := by decide +kernel
theorem dX3_tellBurden_26 : decode cX3_tellBurden 26 = .ok (.iload_n 1, 1) := by decide +kernel
theorem dX3_tellBurden_27 : decode cX3_tellBurden 27 = .ok (.iload_n 2, 1) := by decide +kernel
theorem dX3_tellBurden_28 : decode cX3_tellBurden 28 = .ok (.iastore, 1) := by decide +kernel
theorem dX3_tellBurden_29 : decode cX3_tellBurden 29 = .ok (.aload_n 0, 1) := by decide +kernel
theorem dX3_tellBurden_30 : decode cX3_tellBurden 30 = .ok (.getfield 15, 3) := by decide +kernel
theorem dX3_tellBurden_33 : decode cX3_tellBurden 33 = .ok (.iload_n 1, 1) := by decide +kernel
theorem dX3_tellBurden_34 : decode cX3_tellBurden 34 = .ok (.iload_n 3, 1) := by decide +kernel
theorem dX3_tellBurden_35 : decode cX3_tellBurden 35 = .ok (.iastore, 1) := by decide +kernel
theorem dX3_tellBurden_36 : decode cX3_tellBurden 36 = .ok (.return_, 1) := by decide +kernel
theorem dX3_tellSetting_0 : decode cX3_tellSetting 0 = .ok (.iload_n 1, 1) := by decide +kernel
theorem dX3_tellSetting_1 : decode cX3_tellSetting 1 = .ok (.ifCond .lt 19, 3) := by decide +kernel
theorem dX3_tellSetting_4 : decode cX3_tellSetting 4 = .ok (.iload_n 1, 1) := by decide +kernel
theorem dX3_tellSetting_5 : decode cX3_tellSetting 5 = .ok (.aload_n 0, 1) := by decide +kernel
theorem dX3_tellSetting_6 : decode cX3_tellSetting 6 = .ok (.getfield 18, 3) := by decide +kernel
theorem dX3_tellSetting_9 : decode cX3_tellSetting 9 = .ok (.arraylength, 1) := by decide +kernel
theorem dX3_tellSetting_10 : decode cX3_tellSetting 10 = .ok (.if_icmp .ge 10, 3) := by decide +kernel
theorem dX3_tellSetting_13 : decode cX3_tellSetting 13 = .ok (.aload_n 0, 1) := by decide +kernel
theorem dX3_tellSetting_14 : decode cX3_tellSetting 14 = .ok (.getfield 18, 3) := by decide +kernel
theorem dX3_tellSetting_17 : decode cX3_tellSetting 17 = .ok (.iload_n 1, 1) := by decide +kernel
theorem dX3_tellSetting_18 : decode cX3_tellSetting 18 = .ok (.iload_n 2, 1) := by decide +kernel
theorem dX3_tellSetting_19 : decode cX3_tellSetting 19 = .ok (.iastore, 1) := by decide +kernel
theorem dX3_tellSetting_20 : decode cX3_tellSetting 20 = .ok (.return_, 1) := by decide +kernel
theorem dX3_numberPlaces_0 : decode cX3_numberPlaces 0 = .ok (.aload_n 0, 1) := by decide +kernel
theorem dX3_numberPlaces_1 : decode cX3_numberPlaces 1 = .ok (.iconst 0, 1) := by decide +kernel
theorem dX3_numberPlaces_2 : decode cX3_numberPlaces 2 = .ok (.putfield 24, 3) := by decide +kernel
theorem dX3_numberPlaces_5 : decode cX3_numberPlaces 5 = .ok (.iconst 0, 1) := by decide +kernel
theorem dX3_numberPlaces_6 : decode cX3_numberPlaces 6 = .ok (.istore_n 1, 1) := by decide +kernel
theorem dX3_numberPlaces_7 : decode cX3_numberPlaces 7 = .ok (.iload_n 1, 1) := by decide +kernel
theorem dX3_numberPlaces_8 : decode cX3_numberPlaces 8 = .ok (.aload_n 0, 1) := by decide +kernel
theorem dX3_numberPlaces_9 : decode cX3_numberPlaces 9 = .ok (.getfield 15, 3) := by decide +kernel
theorem dX3_numberPlaces_12 : decode cX3_numberPlaces 12 = .ok (.arraylength, 1) := by decide +kernel
theorem dX3_numberPlaces_13 : decode cX3_numberPlaces 13 = .ok (.if_icmp .ge 59, 3) := by decide +kernel
theorem dX3_numberPlaces_16 : decode cX3_numberPlaces 16 = .ok (.iconst 0, 1) := by decide +kernel
theorem dX3_numberPlaces_17 : decode cX3_numberPlaces 17 = .ok (.istore_n 2, 1) := by decide +kernel
theorem dX3_numberPlaces_18 : decode cX3_numberPlaces 18 = .ok (.iload_n 2, 1) := by decide +kernel
theorem dX3_numberPlaces_19 : decode cX3_numberPlaces 19 = .ok (.aload_n 0, 1) := by decide +kernel
theorem dX3_numberPlaces_20 : decode cX3_numberPlaces 20 = .ok (.getfield 15, 3) := by decide +kernel
theorem dX3_numberPlaces_23 : decode cX3_numberPlaces 23 = .ok (.iload_n 1, 1) := by decide +kernel
theorem dX3_numberPlaces_24 : decode cX3_numberPlaces 24 = .ok (.iaload, 1) := by decide +kernel
theorem dX3_numberPlaces_25 : decode cX3_numberPlaces 25 = .ok (.if_icmp .ge 41, 3) := by decide +kernel
theorem dX3_numberPlaces_28 : decode cX3_numberPlaces 28 = .ok (.aload_n 0, 1) := by decide +kernel
theorem dX3_numberPlaces_29 : decode cX3_numberPlaces 29 = .ok (.getfield 24, 3) := by decide +kernel
theorem dX3_numberPlaces_32 : decode cX3_numberPlaces 32 = .ok (.aload_n 0, 1) := by decide +kernel
theorem dX3_numberPlaces_33 : decode cX3_numberPlaces 33 = .ok (.getfield 21, 3) := by decide +kernel
theorem dX3_numberPlaces_36 : decode cX3_numberPlaces 36 = .ok (.arraylength, 1) := by decide +kernel
theorem dX3_numberPlaces_37 : decode cX3_numberPlaces 37 = .ok (.if_icmp .ge 29, 3) := by decide +kernel
theorem dX3_numberPlaces_40 : decode cX3_numberPlaces 40 = .ok (.aload_n 0, 1) := by decide +kernel
theorem dX3_numberPlaces_41 : decode cX3_numberPlaces 41 = .ok (.getfield 21, 3) := by decide +kernel
theorem dX3_numberPlaces_44 : decode cX3_numberPlaces 44 = .ok (.aload_n 0, 1) := by decide +kernel
theorem dX3_numberPlaces_45 : decode cX3_numberPlaces 45 = .ok (.getfield 24, 3) := by decide +kernel
theorem dX3_numberPlaces_48 : decode cX3_numberPlaces 48 = .ok (.iload_n 1, 1) := by decide +kernel
theorem dX3_numberPlaces_49 : decode cX3_numberPlaces 49 = .ok (.iastore, 1) := by decide +kernel
theorem dX3_numberPlaces_50 : decode cX3_numberPlaces 50 = .ok (.aload_n 0, 1) := by decide +kernel
theorem dX3_numberPlaces_51 : decode cX3_numberPlaces 51 = .ok (.dup, 1) := by decide +kernel
theorem dX3_numberPlaces_52 : decode cX3_numberPlaces 52 = .ok (.getfield 24, 3) := by decide +kernel
theorem dX3_numberPlaces_55 : decode cX3_numberPlaces 55 = .ok (.iconst 1, 1) := by decide +kernel
theorem dX3_numberPlaces_56 : decode cX3_numberPlaces 56 = .ok (.iadd, 1) := by decide +kernel
theorem dX3_numberPlaces_57 : decode cX3_numberPlaces 57 = .ok (.putfield 24, 3) := by decide +kernel
theorem dX3_numberPlaces_60 : decode cX3_numberPlaces 60 = .ok (.iinc 2 1, 3) := by decide +kernel
theorem dX3_numberPlaces_63 : decode cX3_numberPlaces 63 = .ok (.goto (-45), 3) := by decide +kernel
theorem dX3_numberPlaces_66 : decode cX3_numberPlaces 66 = .ok (.iinc 1 1, 3) := by decide +kernel
theorem dX3_numberPlaces_69 : decode cX3_numberPlaces 69 = .ok (.goto (-62), 3) := by decide +kernel
theorem dX3_numberPlaces_72 : decode cX3_numberPlaces 72 = .ok (.return_, 1) := by decide +kernel
theorem dX3_setting_0 : decode cX3_setting 0 = .ok (.iload_n 1, 1) := by decide +kernel
theorem dX3_setting_1 : decode cX3_setting 1 = .ok (.ifCond .lt 21, 3) := by decide +kernel
theorem dX3_setting_4 : decode cX3_setting 4 = .ok (.iload_n 1, 1) := by decide +kernel
theorem dX3_setting_5 : decode cX3_setting 5 = .ok (.aload_n 0, 1) := by decide +kernel
theorem dX3_setting_6 : decode cX3_setting 6 = .ok (.getfield 18, 3) := by decide +kernel
theorem dX3_setting_9 : decode cX3_setting 9 = .ok (.arraylength, 1) := by decide +kernel
theorem dX3_setting_10 : decode cX3_setting 10 = .ok (.if_icmp .ge 12, 3) := by decide +kernel
theorem dX3_setting_13 : decode cX3_setting 13 = .ok (.aload_n 0, 1) := by decide +kernel
theorem dX3_setting_14 : decode cX3_setting 14 = .ok (.getfield 18, 3) := by decide +kernel
theorem dX3_setting_17 : decode cX3_setting 17 = .ok (.iload_n 1, 1) := by decide +kernel
theorem dX3_setting_18 : decode cX3_setting 18 = .ok (.iaload, 1) := by decide +kernel
theorem dX3_setting_19 : decode cX3_setting 19 = .ok (.goto 4, 3) := by decide +kernel
theorem dX3_setting_22 : decode cX3_setting 22 = .ok (.iconst 0, 1) := by decide +kernel
theorem dX3_setting_23 : decode cX3_setting 23 = .ok (.ireturn, 1) := by decide +kernel
theorem dX3_places_0 : decode cX3_places 0 = .ok (.aload_n 0, 1) := by decide +kernel
theorem dX3_places_1 : decode cX3_places 1 = .ok (.getfield 24, 3) := by decide +kernel
theorem dX3_places_4 : decode cX3_places 4 = .ok (.ireturn, 1) := by decide +kernel
theorem dX3_hasPlace_0 : decode cX3_hasPlace 0 = .ok (.iload_n 1, 1) := by decide +kernel
theorem dX3_hasPlace_1 : decode cX3_hasPlace 1 = .ok (.ifCond .lt 24, 3) := by decide +kernel
theorem dX3_hasPlace_4 : decode cX3_hasPlace 4 = .ok (.iload_n 1, 1) := by decide +kernel
theorem dX3_hasPlace_5 : decode cX3_hasPlace 5 = .ok (.aload_n 0, 1) := by decide +kernel
theorem dX3_hasPlace_6 : decode cX3_hasPlace 6 = .ok (.getfield 24, 3) := by decide +kernel
theorem dX3_hasPlace_9 : decode cX3_hasPlace 9 = .ok (.if_icmp .ge 16, 3) := by decide +kernel
theorem dX3_hasPlace_12 : decode cX3_hasPlace 12 = .ok (.iload_n 1, 1) := by decide +kernel
theorem dX3_hasPlace_13 : decode cX3_hasPlace 13 = .ok (.aload_n 0, 1) := by decide +kernel
theorem dX3_hasPlace_14 : decode cX3_hasPlace 14 = .ok (.getfield 21, 3) := by decide +kernel
theorem dX3_hasPlace_17 : decode cX3_hasPlace 17 = .ok (.arraylength, 1) := by decide +kernel
theorem dX3_hasPlace_18 : decode cX3_hasPlace 18 = .ok (.if_icmp .ge 7, 3) := by decide +kernel
theorem dX3_hasPlace_21 : decode cX3_hasPlace 21 = .ok (.iconst 1, 1) := by decide +kernel
theorem dX3_hasPlace_22 : decode cX3_hasPlace 22 = .ok (.goto 4, 3) := by decide +kernel
theorem dX3_hasPlace_25 : decode cX3_hasPlace 25 = .ok (.iconst 0, 1) := by decide +kernel
theorem dX3_hasPlace_26 : decode cX3_hasPlace 26 = .ok (.ireturn, 1) := by decide +kernel
theorem dX3_burdenAt_0 : decode cX3_burdenAt 0 = .ok (.aload_n 0, 1) := by decide +kernel
theorem dX3_burdenAt_1 : decode cX3_burdenAt 1 = .ok (.iload_n 1, 1) := by decide +kernel
theorem dX3_burdenAt_2 : decode cX3_burdenAt 2 = .ok (.invokevirtual 32, 3) := by decide +kernel
theorem dX3_burdenAt_5 : decode cX3_burdenAt 5 = .ok (.ifCond .eq 12, 3) := by decide +kernel
theorem dX3_burdenAt_8 : decode cX3_burdenAt 8 = .ok (.aload_n 0, 1) := by decide +kernel
theorem dX3_burdenAt_9 : decode cX3_burdenAt 9 = .ok (.getfield 21, 3) := by decide +kernel
theorem dX3_burdenAt_12 : decode cX3_burdenAt 12 = .ok (.iload_n 1, 1) := by decide +kernel
end
section
theorem dX3_burdenAt_13 : decode cX3_burdenAt 13 = .ok (.iaload, 1) := by decide +kernel
theorem dX3_burdenAt_14 : decode cX3_burdenAt 14 = .ok (.goto 4, 3) := by decide +kernel
theorem dX3_burdenAt_17 : decode cX3_burdenAt 17 = .ok (.iconst (-1), 1) := by decide +kernel
theorem dX3_burdenAt_18 : decode cX3_burdenAt 18 = .ok (.ireturn, 1) := by decide +kernel
theorem dX3_partBehind_0 : decode cX3_partBehind 0 = .ok (.aload_n 0, 1) := by decide +kernel
theorem dX3_partBehind_1 : decode cX3_partBehind 1 = .ok (.iload_n 1, 1) := by decide +kernel
theorem dX3_partBehind_2 : decode cX3_partBehind 2 = .ok (.invokevirtual 28, 3) := by decide +kernel
theorem dX3_partBehind_5 : decode cX3_partBehind 5 = .ok (.istore_n 3, 1) := by decide +kernel
theorem dX3_partBehind_6 : decode cX3_partBehind 6 = .ok (.iload_n 3, 1) := by decide +kernel
theorem dX3_partBehind_7 : decode cX3_partBehind 7 = .ok (.ifCond .gt 5, 3) := by decide +kernel
theorem dX3_partBehind_10 : decode cX3_partBehind 10 = .ok (.iconst 0, 1) := by decide +kernel
theorem dX3_partBehind_11 : decode cX3_partBehind 11 = .ok (.ireturn, 1) := by decide +kernel
theorem dX3_partBehind_12 : decode cX3_partBehind 12 = .ok (.iload_n 2, 1) := by decide +kernel
theorem dX3_partBehind_13 : decode cX3_partBehind 13 = .ok (.aload_n 0, 1) := by decide +kernel
theorem dX3_partBehind_14 : decode cX3_partBehind 14 = .ok (.getfield 9, 3) := by decide +kernel
theorem dX3_partBehind_17 : decode cX3_partBehind 17 = .ok (.iload_n 1, 1) := by decide +kernel
theorem dX3_partBehind_18 : decode cX3_partBehind 18 = .ok (.iaload, 1) := by decide +kernel
theorem dX3_partBehind_19 : decode cX3_partBehind 19 = .ok (.iload_n 3, 1) := by decide +kernel
theorem dX3_partBehind_20 : decode cX3_partBehind 20 = .ok (.irem, 1) := by decide +kernel
theorem dX3_partBehind_21 : decode cX3_partBehind 21 = .ok (.if_icmp .ge 7, 3) := by decide +kernel
theorem dX3_partBehind_24 : decode cX3_partBehind 24 = .ok (.iconst 1, 1) := by decide +kernel
theorem dX3_partBehind_25 : decode cX3_partBehind 25 = .ok (.goto 4, 3) := by decide +kernel
theorem dX3_partBehind_28 : decode cX3_partBehind 28 = .ok (.iconst 0, 1) := by decide +kernel
theorem dX3_partBehind_29 : decode cX3_partBehind 29 = .ok (.istore 4, 2) := by decide +kernel
theorem dX3_partBehind_31 : decode cX3_partBehind 31 = .ok (.aload_n 0, 1) := by decide +kernel
theorem dX3_partBehind_32 : decode cX3_partBehind 32 = .ok (.getfield 9, 3) := by decide +kernel
theorem dX3_partBehind_35 : decode cX3_partBehind 35 = .ok (.iload_n 1, 1) := by decide +kernel
theorem dX3_partBehind_36 : decode cX3_partBehind 36 = .ok (.iaload, 1) := by decide +kernel
theorem dX3_partBehind_37 : decode cX3_partBehind 37 = .ok (.iload_n 3, 1) := by decide +kernel
theorem dX3_partBehind_38 : decode cX3_partBehind 38 = .ok (.idiv, 1) := by decide +kernel
theorem dX3_partBehind_39 : decode cX3_partBehind 39 = .ok (.iload 4, 2) := by decide +kernel
theorem dX3_partBehind_41 : decode cX3_partBehind 41 = .ok (.iadd, 1) := by decide +kernel
theorem dX3_partBehind_42 : decode cX3_partBehind 42 = .ok (.ireturn, 1) := by decide +kernel
theorem dX3_shareOf_0 : decode cX3_shareOf 0 = .ok (.iload_n 1, 1) := by decide +kernel
theorem dX3_shareOf_1 : decode cX3_shareOf 1 = .ok (.ifCond .lt 30, 3) := by decide +kernel
theorem dX3_shareOf_4 : decode cX3_shareOf 4 = .ok (.iload_n 1, 1) := by decide +kernel
theorem dX3_shareOf_5 : decode cX3_shareOf 5 = .ok (.aload_n 0, 1) := by decide +kernel
theorem dX3_shareOf_6 : decode cX3_shareOf 6 = .ok (.getfield 15, 3) := by decide +kernel
theorem dX3_shareOf_9 : decode cX3_shareOf 9 = .ok (.arraylength, 1) := by decide +kernel
theorem dX3_shareOf_10 : decode cX3_shareOf 10 = .ok (.if_icmp .ge 21, 3) := by decide +kernel
theorem dX3_shareOf_13 : decode cX3_shareOf 13 = .ok (.iload_n 1, 1) := by decide +kernel
theorem dX3_shareOf_14 : decode cX3_shareOf 14 = .ok (.aload_n 0, 1) := by decide +kernel
theorem dX3_shareOf_15 : decode cX3_shareOf 15 = .ok (.getfield 9, 3) := by decide +kernel
theorem dX3_shareOf_18 : decode cX3_shareOf 18 = .ok (.arraylength, 1) := by decide +kernel
theorem dX3_shareOf_19 : decode cX3_shareOf 19 = .ok (.if_icmp .ge 12, 3) := by decide +kernel
theorem dX3_shareOf_22 : decode cX3_shareOf 22 = .ok (.aload_n 0, 1) := by decide +kernel
theorem dX3_shareOf_23 : decode cX3_shareOf 23 = .ok (.getfield 15, 3) := by decide +kernel
theorem dX3_shareOf_26 : decode cX3_shareOf 26 = .ok (.iload_n 1, 1) := by decide +kernel
theorem dX3_shareOf_27 : decode cX3_shareOf 27 = .ok (.iaload, 1) := by decide +kernel
theorem dX3_shareOf_28 : decode cX3_shareOf 28 = .ok (.goto 4, 3) := by decide +kernel
theorem dX3_shareOf_31 : decode cX3_shareOf 31 = .ok (.iconst 0, 1) := by decide +kernel
theorem dX3_shareOf_32 : decode cX3_shareOf 32 = .ok (.ireturn, 1) := by decide +kernel
theorem dX4_init_0 : decode cX4_init 0 = .ok (.aload_n 0, 1) := by decide +kernel
theorem dX4_init_1 : decode cX4_init 1 = .ok (.invokespecial 3, 3) := by decide +kernel
theorem dX4_init_4 : decode cX4_init 4 = .ok (.aload_n 0, 1) := by decide +kernel
theorem dX4_init_5 : decode cX4_init 5 = .ok (.sipush 600, 3) := by decide +kernel
theorem dX4_init_8 : decode cX4_init 8 = .ok (.newarray .byte, 2) := by decide +kernel
theorem dX4_init_10 : decode cX4_init 10 = .ok (.putfield 9, 3) := by decide +kernel
theorem dX4_init_13 : decode cX4_init 13 = .ok (.aload_n 0, 1) := by decide +kernel
theorem dX4_init_14 : decode cX4_init 14 = .ok (.iconst 0, 1) := by decide +kernel
theorem dX4_init_15 : decode cX4_init 15 = .ok (.putfield 15, 3) := by decide +kernel
theorem dX4_init_18 : decode cX4_init 18 = .ok (.return_, 1) := by decide +kernel
theorem dX4_length_0 : decode cX4_length 0 = .ok (.aload_n 0, 1) := by decide +kernel
theorem dX4_length_1 : decode cX4_length 1 = .ok (.getfield 15, 3) := by decide +kernel
theorem dX4_length_4 : decode cX4_length 4 = .ok (.ireturn, 1) := by decide +kernel
theorem dX4_hasRoom_0 : decode cX4_hasRoom 0 = .ok (.aload_n 0, 1) := by decide +kernel
theorem dX4_hasRoom_1 : decode cX4_hasRoom 1 = .ok (.getfield 15, 3) := by decide +kernel
theorem dX4_hasRoom_4 : decode cX4_hasRoom 4 = .ok (.iload_n 1, 1) := by decide +kernel
theorem dX4_hasRoom_5 : decode cX4_hasRoom 5 = .ok (.iadd, 1) := by decide +kernel
theorem dX4_hasRoom_6 : decode cX4_hasRoom 6 = .ok (.aload_n 0, 1) := by decide +kernel
theorem dX4_hasRoom_7 : decode cX4_hasRoom 7 = .ok (.getfield 9, 3) := by decide +kernel
theorem dX4_hasRoom_10 : decode cX4_hasRoom 10 = .ok (.arraylength, 1) := by decide +kernel
theorem dX4_hasRoom_11 : decode cX4_hasRoom 11 = .ok (.if_icmp .gt 7, 3) := by decide +kernel
theorem dX4_hasRoom_14 : decode cX4_hasRoom 14 = .ok (.iconst 1, 1) := by decide +kernel
theorem dX4_hasRoom_15 : decode cX4_hasRoom 15 = .ok (.goto 4, 3) := by decide +kernel
theorem dX4_hasRoom_18 : decode cX4_hasRoom 18 = .ok (.iconst 0, 1) := by decide +kernel
theorem dX4_hasRoom_19 : decode cX4_hasRoom 19 = .ok (.ireturn, 1) := by decide +kernel
theorem dX4_append_0 : decode cX4_append 0 = .ok (.bipush 24, 2) := by decide +kernel
theorem dX4_append_2 : decode cX4_append 2 = .ok (.istore_n 2, 1) := by decide +kernel
theorem dX4_append_3 : decode cX4_append 3 = .ok (.iload_n 2, 1) := by decide +kernel
theorem dX4_append_4 : decode cX4_append 4 = .ok (.ifCond .lt 51, 3) := by decide +kernel
theorem dX4_append_7 : decode cX4_append 7 = .ok (.aload_n 0, 1) := by decide +kernel
theorem dX4_append_8 : decode cX4_append 8 = .ok (.getfield 15, 3) := by decide +kernel
theorem dX4_append_11 : decode cX4_append 11 = .ok (.ifCond .lt 38, 3) := by decide +kernel
theorem dX4_append_14 : decode cX4_append 14 = .ok (.aload_n 0, 1) := by decide +kernel
theorem dX4_append_15 : decode cX4_append 15 = .ok (.getfield 15, 3) := by decide +kernel
theorem dX4_append_18 : decode cX4_append 18 = .ok (.aload_n 0, 1) := by decide +kernel
theorem dX4_append_19 : decode cX4_append 19 = .ok (.getfield 9, 3) := by decide +kernel
theorem dX4_append_22 : decode cX4_append 22 = .ok (.arraylength, 1) := by decide +kernel
theorem dX4_append_23 : decode cX4_append 23 = .ok (.if_icmp .ge 26, 3) := by decide +kernel
theorem dX4_append_26 : decode cX4_append 26 = .ok (.aload_n 0, 1) := by decide +kernel
theorem dX4_append_27 : decode cX4_append 27 = .ok (.getfield 9, 3) := by decide +kernel
theorem dX4_append_30 : decode cX4_append 30 = .ok (.aload_n 0, 1) := by decide +kernel
theorem dX4_append_31 : decode cX4_append 31 = .ok (.getfield 15, 3) := by decide +kernel
theorem dX4_append_34 : decode cX4_append 34 = .ok (.iload_n 1, 1) := by decide +kernel
theorem dX4_append_35 : decode cX4_append 35 = .ok (.iload_n 2, 1) := by decide +kernel
theorem dX4_append_36 : decode cX4_append 36 = .ok (.ishr, 1) := by decide +kernel
theorem dX4_append_37 : decode cX4_append 37 = .ok (.i2b, 1) := by decide +kernel
theorem dX4_append_38 : decode cX4_append 38 = .ok (.bastore, 1) := by decide +kernel
theorem dX4_append_39 : decode cX4_append 39 = .ok (.aload_n 0, 1) := by decide +kernel
theorem dX4_append_40 : decode cX4_append 40 = .ok (.dup, 1) := by decide +kernel
theorem dX4_append_41 : decode cX4_append 41 = .ok (.getfield 15, 3) := by decide +kernel
theorem dX4_append_44 : decode cX4_append 44 = .ok (.iconst 1, 1) := by decide +kernel
theorem dX4_append_45 : decode cX4_append 45 = .ok (.iadd, 1) := by decide +kernel
theorem dX4_append_46 : decode cX4_append 46 = .ok (.putfield 15, 3) := by decide +kernel
theorem dX4_append_49 : decode cX4_append 49 = .ok (.iinc 2 (-8), 3) := by decide +kernel
theorem dX4_append_52 : decode cX4_append 52 = .ok (.goto (-49), 3) := by decide +kernel
theorem dX4_append_55 : decode cX4_append 55 = .ok (.return_, 1) := by decide +kernel
theorem dX4_at_0 : decode cX4_at 0 = .ok (.iload_n 1, 1) := by decide +kernel
theorem dX4_at_1 : decode cX4_at 1 = .ok (.ifCond .lt 25, 3) := by decide +kernel
theorem dX4_at_4 : decode cX4_at 4 = .ok (.iload_n 1, 1) := by decide +kernel
theorem dX4_at_5 : decode cX4_at 5 = .ok (.aload_n 0, 1) := by decide +kernel
theorem dX4_at_6 : decode cX4_at 6 = .ok (.getfield 9, 3) := by decide +kernel
theorem dX4_at_9 : decode cX4_at 9 = .ok (.arraylength, 1) := by decide +kernel
theorem dX4_at_10 : decode cX4_at 10 = .ok (.if_icmp .ge 16, 3) := by decide +kernel
theorem dX4_at_13 : decode cX4_at 13 = .ok (.aload_n 0, 1) := by decide +kernel
theorem dX4_at_14 : decode cX4_at 14 = .ok (.getfield 9, 3) := by decide +kernel
theorem dX4_at_17 : decode cX4_at 17 = .ok (.iload_n 1, 1) := by decide +kernel
theorem dX4_at_18 : decode cX4_at 18 = .ok (.baload, 1) := by decide +kernel
theorem dX4_at_19 : decode cX4_at 19 = .ok (.sipush 255, 3) := by decide +kernel
theorem dX4_at_22 : decode cX4_at 22 = .ok (.iand, 1) := by decide +kernel
theorem dX4_at_23 : decode cX4_at 23 = .ok (.goto 4, 3) := by decide +kernel
theorem dX4_at_26 : decode cX4_at 26 = .ok (.iconst (-1), 1) := by decide +kernel
theorem dX4_at_27 : decode cX4_at 27 = .ok (.ireturn, 1) := by decide +kernel
theorem dX4_clear_0 : decode cX4_clear 0 = .ok (.aload_n 0, 1) := by decide +kernel
theorem dX4_clear_1 : decode cX4_clear 1 = .ok (.iconst 0, 1) := by decide +kernel
theorem dX4_clear_2 : decode cX4_clear 2 = .ok (.putfield 15, 3) := by decide +kernel
theorem dX4_clear_5 : decode cX4_clear 5 = .ok (.return_, 1) := by decide +kernel
theorem dX5_init_0 : decode cX5_init 0 = .ok (.aload_n 0, 1) := by decide +kernel
theorem dX5_init_1 : decode cX5_init 1 = .ok (.invokespecial 1, 3) := by decide +kernel
theorem dX5_init_4 : decode cX5_init 4 = .ok (.new 7, 3) := by decide +kernel
theorem dX5_init_7 : decode cX5_init 7 = .ok (.dup, 1) := by decide +kernel
theorem dX5_init_8 : decode cX5_init 8 = .ok (.invokespecial 9, 3) := by decide +kernel
theorem dX5_init_11 : decode cX5_init 11 = .ok (.astore_n 1, 1) := by decide +kernel
theorem dX5_init_12 : decode cX5_init 12 = .ok (.aload_n 0, 1) := by decide +kernel
theorem dX5_init_13 : decode cX5_init 13 = .ok (.aload_n 1, 1) := by decide +kernel
theorem dX5_init_14 : decode cX5_init 14 = .ok (.putfield 10, 3) := by decide +kernel
theorem dX5_init_17 : decode cX5_init 17 = .ok (.aload_n 0, 1) := by decide +kernel
theorem dX5_init_18 : decode cX5_init 18 = .ok (.new 16, 3) := by decide +kernel
theorem dX5_init_21 : decode cX5_init 21 = .ok (.dup, 1) := by decide +kernel
theorem dX5_init_22 : decode cX5_init 22 = .ok (.aload_n 1, 1) := by decide +kernel
theorem dX5_init_23 : decode cX5_init 23 = .ok (.invokespecial 18, 3) := by decide +kernel
theorem dX5_init_26 : decode cX5_init 26 = .ok (.putfield 21, 3) := by decide +kernel
theorem dX5_init_29 : decode cX5_init 29 = .ok (.aload_n 0, 1) := by decide +kernel
theorem dX5_init_30 : decode cX5_init 30 = .ok (.new 25, 3) := by decide +kernel
theorem dX5_init_33 : decode cX5_init 33 = .ok (.dup, 1) := by decide +kernel
theorem dX5_init_34 : decode cX5_init 34 = .ok (.invokespecial 27, 3) := by decide +kernel
theorem dX5_init_37 : decode cX5_init 37 = .ok (.putfield 28, 3) := by decide +kernel
theorem dX5_init_40 : decode cX5_init 40 = .ok (.aload_n 0, 1) := by decide +kernel
theorem dX5_init_41 : decode cX5_init 41 = .ok (.new 25, 3) := by decide +kernel
theorem dX5_init_44 : decode cX5_init 44 = .ok (.dup, 1) := by decide +kernel
theorem dX5_init_45 : decode cX5_init 45 = .ok (.invokespecial 27, 3) := by decide +kernel
theorem dX5_init_48 : decode cX5_init 48 = .ok (.putfield 32, 3) := by decide +kernel
theorem dX5_init_51 : decode cX5_init 51 = .ok (.aload_n 0, 1) := by decide +kernel
theorem dX5_init_52 : decode cX5_init 52 = .ok (.new 35, 3) := by decide +kernel
theorem dX5_init_55 : decode cX5_init 55 = .ok (.dup, 1) := by decide +kernel
theorem dX5_init_56 : decode cX5_init 56 = .ok (.invokespecial 37, 3) := by decide +kernel
theorem dX5_init_59 : decode cX5_init 59 = .ok (.putfield 38, 3) := by decide +kernel
theorem dX5_init_62 : decode cX5_init 62 = .ok (.aload_n 0, 1) := by decide +kernel
theorem dX5_init_63 : decode cX5_init 63 = .ok (.new 42, 3) := by decide +kernel
theorem dX5_init_66 : decode cX5_init 66 = .ok (.dup, 1) := by decide +kernel
theorem dX5_init_67 : decode cX5_init 67 = .ok (.invokespecial 44, 3) := by decide +kernel
theorem dX5_init_70 : decode cX5_init 70 = .ok (.putfield 45, 3) := by decide +kernel
theorem dX5_init_73 : decode cX5_init 73 = .ok (.aload_n 0, 1) := by decide +kernel
theorem dX5_init_74 : decode cX5_init 74 = .ok (.new 42, 3) := by decide +kernel
theorem dX5_init_77 : decode cX5_init 77 = .ok (.dup, 1) := by decide +kernel
theorem dX5_init_78 : decode cX5_init 78 = .ok (.invokespecial 44, 3) := by decide +kernel
theorem dX5_init_81 : decode cX5_init 81 = .ok (.putfield 49, 3) := by decide +kernel
theorem dX5_init_84 : decode cX5_init 84 = .ok (.aload_n 0, 1) := by decide +kernel
theorem dX5_init_85 : decode cX5_init 85 = .ok (.iconst 0, 1) := by decide +kernel
theorem dX5_init_86 : decode cX5_init 86 = .ok (.putfield 52, 3) := by decide +kernel
theorem dX5_init_89 : decode cX5_init 89 = .ok (.aload_n 0, 1) := by decide +kernel
theorem dX5_init_90 : decode cX5_init 90 = .ok (.iconst 0, 1) := by decide +kernel
theorem dX5_init_91 : decode cX5_init 91 = .ok (.putfield 56, 3) := by decide +kernel
theorem dX5_init_94 : decode cX5_init 94 = .ok (.aload_n 0, 1) := by decide +kernel
theorem dX5_init_95 : decode cX5_init 95 = .ok (.iconst 0, 1) := by decide +kernel
theorem dX5_init_96 : decode cX5_init 96 = .ok (.putfield 60, 3) := by decide +kernel
theorem dX5_init_99 : decode cX5_init 99 = .ok (.aload_n 0, 1) := by decide +kernel
theorem dX5_init_100 : decode cX5_init 100 = .ok (.iconst 0, 1) := by decide +kernel
theorem dX5_init_101 : decode cX5_init 101 = .ok (.putfield 63, 3) := by decide +kernel
theorem dX5_init_104 : decode cX5_init 104 = .ok (.return_, 1) := by decide +kernel
theorem dX5_feed_0 : decode cX5_feed 0 = .ok (.aload_n 0, 1) := by decide +kernel
theorem dX5_feed_1 : decode cX5_feed 1 = .ok (.getfield 10, 3) := by decide +kernel
theorem dX5_feed_4 : decode cX5_feed 4 = .ok (.bipush 20, 2) := by decide +kernel
theorem dX5_feed_6 : decode cX5_feed 6 = .ok (.invokevirtual 66, 3) := by decide +kernel
theorem dX5_feed_9 : decode cX5_feed 9 = .ok (.ifCond .ne 5, 3) := by decide +kernel
theorem dX5_feed_12 : decode cX5_feed 12 = .ok (.iconst (-1), 1) := by decide +kernel
theorem dX5_feed_13 : decode cX5_feed 13 = .ok (.ireturn, 1) := by decide +kernel
theorem dX5_feed_14 : decode cX5_feed 14 = .ok (.aload_n 0, 1) := by decide +kernel
theorem dX5_feed_15 : decode cX5_feed 15 = .ok (.getfield 10, 3) := by decide +kernel
theorem dX5_feed_18 : decode cX5_feed 18 = .ok (.iload_n 1, 1) := by decide +kernel
theorem dX5_feed_19 : decode cX5_feed 19 = .ok (.invokevirtual 70, 3) := by decide +kernel
theorem dX5_feed_22 : decode cX5_feed 22 = .ok (.aload_n 0, 1) := by decide +kernel
theorem dX5_feed_23 : decode cX5_feed 23 = .ok (.getfield 10, 3) := by decide +kernel
theorem dX5_feed_26 : decode cX5_feed 26 = .ok (.iload_n 2, 1) := by decide +kernel
theorem dX5_feed_27 : decode cX5_feed 27 = .ok (.invokevirtual 70, 3) := by decide +kernel
theorem dX5_feed_30 : decode cX5_feed 30 = .ok (.aload_n 0, 1) := by decide +kernel
theorem dX5_feed_31 : decode cX5_feed 31 = .ok (.getfield 10, 3) := by decide +kernel
theorem dX5_feed_34 : decode cX5_feed 34 = .ok (.iload_n 3, 1) := by decide +kernel
theorem dX5_feed_35 : decode cX5_feed 35 = .ok (.invokevirtual 70, 3) := by decide +kernel
theorem dX5_feed_38 : decode cX5_feed 38 = .ok (.aload_n 0, 1) := by decide +kernel
theorem dX5_feed_39 : decode cX5_feed 39 = .ok (.getfield 10, 3) := by decide +kernel
theorem dX5_feed_42 : decode cX5_feed 42 = .ok (.iload 4, 2) := by decide +kernel
theorem dX5_feed_44 : decode cX5_feed 44 = .ok (.invokevirtual 70, 3) := by decide +kernel
theorem dX5_feed_47 : decode cX5_feed 47 = .ok (.aload_n 0, 1) := by decide +kernel
theorem dX5_feed_48 : decode cX5_feed 48 = .ok (.getfield 10, 3) := by decide +kernel
theorem dX5_feed_51 : decode cX5_feed 51 = .ok (.iload 5, 2) := by decide +kernel
theorem dX5_feed_53 : decode cX5_feed 53 = .ok (.invokevirtual 70, 3) := by decide +kernel
theorem dX5_feed_56 : decode cX5_feed 56 = .ok (.aload_n 0, 1) := by decide +kernel
theorem dX5_feed_57 : decode cX5_feed 57 = .ok (.getfield 10, 3) := by decide +kernel
theorem dX5_feed_60 : decode cX5_feed 60 = .ok (.invokevirtual 74, 3) := by decide +kernel
theorem dX5_feed_63 : decode cX5_feed 63 = .ok (.ireturn, 1) := by decide +kernel
theorem dX5_statutes_0 : decode cX5_statutes 0 = .ok (.aload_n 0, 1) := by decide +kernel
theorem dX5_statutes_1 : decode cX5_statutes 1 = .ok (.getfield 52, 3) := by decide +kernel
theorem dX5_statutes_4 : decode cX5_statutes 4 = .ok (.ifCond .ne 18, 3) := by decide +kernel
theorem dX5_statutes_7 : decode cX5_statutes 7 = .ok (.iload_n 1, 1) := by decide +kernel
theorem dX5_statutes_8 : decode cX5_statutes 8 = .ok (.ifCond .lt 14, 3) := by decide +kernel
theorem dX5_statutes_11 : decode cX5_statutes 11 = .ok (.iload_n 1, 1) := by decide +kernel
theorem dX5_statutes_12 : decode cX5_statutes 12 = .ok (.aload_n 0, 1) := by decide +kernel
theorem dX5_statutes_13 : decode cX5_statutes 13 = .ok (.getfield 10, 3) := by decide +kernel
theorem dX5_statutes_16 : decode cX5_statutes 16 = .ok (.invokevirtual 74, 3) := by decide +kernel
theorem dX5_statutes_19 : decode cX5_statutes 19 = .ok (.if_icmp .le 6, 3) := by decide +kernel
theorem dX5_statutes_22 : decode cX5_statutes 22 = .ok (.bipush (-2), 2) := by decide +kernel
theorem dX5_statutes_24 : decode cX5_statutes 24 = .ok (.ireturn, 1) := by decide +kernel
theorem dX5_statutes_25 : decode cX5_statutes 25 = .ok (.aload_n 0, 1) := by decide +kernel
theorem dX5_statutes_26 : decode cX5_statutes 26 = .ok (.getfield 21, 3) := by decide +kernel
theorem dX5_statutes_29 : decode cX5_statutes 29 = .ok (.iload_n 1, 1) := by decide +kernel
theorem dX5_statutes_30 : decode cX5_statutes 30 = .ok (.aload_n 0, 1) := by decide +kernel
theorem dX5_statutes_31 : decode cX5_statutes 31 = .ok (.getfield 49, 3) := by decide +kernel
theorem dX5_statutes_34 : decode cX5_statutes 34 = .ok (.invokevirtual 78, 3) := by decide +kernel
theorem dX5_statutes_37 : decode cX5_statutes 37 = .ok (.istore_n 2, 1) := by decide +kernel
theorem dX5_statutes_38 : decode cX5_statutes 38 = .ok (.aload_n 0, 1) := by decide +kernel
theorem dX5_statutes_39 : decode cX5_statutes 39 = .ok (.getfield 10, 3) := by decide +kernel
theorem dX5_statutes_42 : decode cX5_statutes 42 = .ok (.invokevirtual 82, 3) := by decide +kernel
theorem dX5_statutes_45 : decode cX5_statutes 45 = .ok (.iload_n 2, 1) := by decide +kernel
theorem dX5_statutes_46 : decode cX5_statutes 46 = .ok (.ifCond .ne 5, 3) := by decide +kernel
theorem dX5_statutes_49 : decode cX5_statutes 49 = .ok (.iconst (-1), 1) := by decide +kernel
theorem dX5_statutes_50 : decode cX5_statutes 50 = .ok (.ireturn, 1) := by decide +kernel
theorem dX5_statutes_51 : decode cX5_statutes 51 = .ok (.aload_n 0, 1) := by decide +kernel
theorem dX5_statutes_52 : decode cX5_statutes 52 = .ok (.getfield 45, 3) := by decide +kernel
theorem dX5_statutes_55 : decode cX5_statutes 55 = .ok (.astore_n 3, 1) := by decide +kernel
theorem dX5_statutes_56 : decode cX5_statutes 56 = .ok (.aload_n 0, 1) := by decide +kernel
theorem dX5_statutes_57 : decode cX5_statutes 57 = .ok (.aload_n 0, 1) := by decide +kernel
theorem dX5_statutes_58 : decode cX5_statutes 58 = .ok (.getfield 49, 3) := by decide +kernel
theorem dX5_statutes_61 : decode cX5_statutes 61 = .ok (.putfield 45, 3) := by decide +kernel
theorem dX5_statutes_64 : decode cX5_statutes 64 = .ok (.aload_n 0, 1) := by decide +kernel
theorem dX5_statutes_65 : decode cX5_statutes 65 = .ok (.aload_n 3, 1) := by decide +kernel
theorem dX5_statutes_66 : decode cX5_statutes 66 = .ok (.putfield 49, 3) := by decide +kernel
theorem dX5_statutes_69 : decode cX5_statutes 69 = .ok (.aload_n 0, 1) := by decide +kernel
theorem dX5_statutes_70 : decode cX5_statutes 70 = .ok (.getfield 45, 3) := by decide +kernel
theorem dX5_statutes_73 : decode cX5_statutes 73 = .ok (.invokevirtual 85, 3) := by decide +kernel
theorem dX5_statutes_76 : decode cX5_statutes 76 = .ok (.ireturn, 1) := by decide +kernel
theorem dX5_fault_0 : decode cX5_fault 0 = .ok (.iload_n 1, 1) := by decide +kernel
theorem dX5_fault_1 : decode cX5_fault 1 = .ok (.lookupswitch 43 #[(0, 27), (1, 35)], 27) := by decide +kernel
theorem dX5_fault_28 : decode cX5_fault 28 = .ok (.aload_n 0, 1) := by decide +kernel
theorem dX5_fault_29 : decode cX5_fault 29 = .ok (.getfield 21, 3) := by decide +kernel
theorem dX5_fault_32 : decode cX5_fault 32 = .ok (.invokevirtual 88, 3) := by decide +kernel
theorem dX5_fault_35 : decode cX5_fault 35 = .ok (.ireturn, 1) := by decide +kernel
theorem dX5_fault_36 : decode cX5_fault 36 = .ok (.aload_n 0, 1) := by decide +kernel
theorem dX5_fault_37 : decode cX5_fault 37 = .ok (.getfield 21, 3) := by decide +kernel
theorem dX5_fault_40 : decode cX5_fault 40 = .ok (.invokevirtual 91, 3) := by decide +kernel
theorem dX5_fault_43 : decode cX5_fault 43 = .ok (.ireturn, 1) := by decide +kernel
theorem dX5_fault_44 : decode cX5_fault 44 = .ok (.iconst (-1), 1) := by decide +kernel
theorem dX5_fault_45 : decode cX5_fault 45 = .ok (.ireturn, 1) := by decide +kernel
theorem dX5_man_0 : decode cX5_man 0 = .ok (.iload_n 1, 1) := by decide +kernel
theorem dX5_man_1 : decode cX5_man 1 = .ok (.invokestatic 94, 3) := by decide +kernel
theorem dX5_man_4 : decode cX5_man 4 = .ok (.ifCond .eq 10, 3) := by decide +kernel
theorem dX5_man_7 : decode cX5_man 7 = .ok (.iload_n 2, 1) := by decide +kernel
theorem dX5_man_8 : decode cX5_man 8 = .ok (.invokestatic 94, 3) := by decide +kernel
theorem dX5_man_11 : decode cX5_man 11 = .ok (.ifCond .ne 5, 3) := by decide +kernel
theorem dX5_man_14 : decode cX5_man 14 = .ok (.iconst (-1), 1) := by decide +kernel
theorem dX5_man_15 : decode cX5_man 15 = .ok (.ireturn, 1) := by decide +kernel
theorem dX5_man_16 : decode cX5_man 16 = .ok (.aload_n 0, 1) := by decide +kernel
theorem dX5_man_17 : decode cX5_man 17 = .ok (.getfield 28, 3) := by decide +kernel
theorem dX5_man_20 : decode cX5_man 20 = .ok (.iload_n 1, 1) := by decide +kernel
theorem dX5_man_21 : decode cX5_man 21 = .ok (.iload_n 2, 1) := by decide +kernel
theorem dX5_man_22 : decode cX5_man 22 = .ok (.invokevirtual 97, 3) := by decide +kernel
theorem dX5_man_25 : decode cX5_man 25 = .ok (.ireturn, 1) := by decide +kernel
theorem dX5_found_0 : decode cX5_found 0 = .ok (.aload_n 0, 1) := by decide +kernel
theorem dX5_found_1 : decode cX5_found 1 = .ok (.getfield 28, 3) := by decide +kernel
theorem dX5_found_4 : decode cX5_found 4 = .ok (.iload_n 1, 1) := by decide +kernel
theorem dX5_found_5 : decode cX5_found 5 = .ok (.invokevirtual 101, 3) := by decide +kernel
theorem dX5_found_8 : decode cX5_found 8 = .ok (.ifCond .eq 20, 3) := by decide +kernel
theorem dX5_found_11 : decode cX5_found 11 = .ok (.iload_n 2, 1) := by decide +kernel
theorem dX5_found_12 : decode cX5_found 12 = .ok (.iconst 1, 1) := by decide +kernel
theorem dX5_found_13 : decode cX5_found 13 = .ok (.if_icmp .lt 15, 3) := by decide +kernel
theorem dX5_found_16 : decode cX5_found 16 = .ok (.iload_n 2, 1) := by decide +kernel
theorem dX5_found_17 : decode cX5_found 17 = .ok (.aload_n 0, 1) := by decide +kernel
theorem dX5_found_18 : decode cX5_found 18 = .ok (.getfield 28, 3) := by decide +kernel
theorem dX5_found_21 : decode cX5_found 21 = .ok (.iload_n 1, 1) := by decide +kernel
theorem dX5_found_22 : decode cX5_found 22 = .ok (.invokevirtual 104, 3) := by decide +kernel
theorem dX5_found_25 : decode cX5_found 25 = .ok (.if_icmp .le 5, 3) := by decide +kernel
theorem dX5_found_28 : decode cX5_found 28 = .ok (.iconst 0, 1) := by decide +kernel
theorem dX5_found_29 : decode cX5_found 29 = .ok (.ireturn, 1) := by decide +kernel
theorem dX5_found_30 : decode cX5_found 30 = .ok (.aload_n 0, 1) := by decide +kernel
theorem dX5_found_31 : decode cX5_found 31 = .ok (.getfield 28, 3) := by decide +kernel
theorem dX5_found_34 : decode cX5_found 34 = .ok (.iload_n 1, 1) := by decide +kernel
theorem dX5_found_35 : decode cX5_found 35 = .ok (.iload_n 2, 1) := by decide +kernel
theorem dX5_found_36 : decode cX5_found 36 = .ok (.invokevirtual 108, 3) := by decide +kernel
theorem dX5_found_39 : decode cX5_found 39 = .ok (.iconst 1, 1) := by decide +kernel
theorem dX5_found_40 : decode cX5_found 40 = .ok (.ireturn, 1) := by decide +kernel
theorem dX5_look_0 : decode cX5_look 0 = .ok (.aload_n 0, 1) := by decide +kernel
theorem dX5_look_1 : decode cX5_look 1 = .ok (.getfield 28, 3) := by decide +kernel
theorem dX5_look_4 : decode cX5_look 4 = .ok (.iload_n 1, 1) := by decide +kernel
theorem dX5_look_5 : decode cX5_look 5 = .ok (.invokevirtual 101, 3) := by decide +kernel
theorem dX5_look_8 : decode cX5_look 8 = .ok (.ifCond .ne 13, 3) := by decide +kernel
theorem dX5_look_11 : decode cX5_look 11 = .ok (.new 112, 3) := by decide +kernel
theorem dX5_look_14 : decode cX5_look 14 = .ok (.dup, 1) := by decide +kernel
theorem dX5_look_15 : decode cX5_look 15 = .ok (.ldc 114, 2) := by decide +kernel
theorem dX5_look_17 : decode cX5_look 17 = .ok (.invokespecial 116, 3) := by decide +kernel
theorem dX5_look_20 : decode cX5_look 20 = .ok (.athrow, 1) := by decide +kernel
theorem dX5_look_21 : decode cX5_look 21 = .ok (.iload_n 2, 1) := by decide +kernel
theorem dX5_look_22 : decode cX5_look 22 = .ok (.tableswitch 97 0 5 #[38, 47, 56, 65, 74, 83], 38) := by decide +kernel
theorem dX5_look_60 : decode cX5_look 60 = .ok (.aload_n 0, 1) := by decide +kernel
theorem dX5_look_61 : decode cX5_look 61 = .ok (.getfield 28, 3) := by decide +kernel
theorem dX5_look_64 : decode cX5_look 64 = .ok (.iload_n 1, 1) := by decide +kernel
theorem dX5_look_65 : decode cX5_look 65 = .ok (.invokevirtual 119, 3) := by decide +kernel
theorem dX5_look_68 : decode cX5_look 68 = .ok (.ireturn, 1) := by decide +kernel
theorem dX5_look_69 : decode cX5_look 69 = .ok (.aload_n 0, 1) := by decide +kernel
theorem dX5_look_70 : decode cX5_look 70 = .ok (.getfield 28, 3) := by decide +kernel
theorem dX5_look_73 : decode cX5_look 73 = .ok (.iload_n 1, 1) := by decide +kernel
theorem dX5_look_74 : decode cX5_look 74 = .ok (.invokevirtual 104, 3) := by decide +kernel
theorem dX5_look_77 : decode cX5_look 77 = .ok (.ireturn, 1) := by decide +kernel
theorem dX5_look_78 : decode cX5_look 78 = .ok (.aload_n 0, 1) := by decide +kernel
theorem dX5_look_79 : decode cX5_look 79 = .ok (.getfield 28, 3) := by decide +kernel
theorem dX5_look_82 : decode cX5_look 82 = .ok (.iload_n 1, 1) := by decide +kernel
theorem dX5_look_83 : decode cX5_look 83 = .ok (.invokevirtual 122, 3) := by decide +kernel
theorem dX5_look_86 : decode cX5_look 86 = .ok (.ireturn, 1) := by decide +kernel
theorem dX5_look_87 : decode cX5_look 87 = .ok (.aload_n 0, 1) := by decide +kernel
theorem dX5_look_88 : decode cX5_look 88 = .ok (.getfield 28, 3) := by decide +kernel
theorem dX5_look_91 : decode cX5_look 91 = .ok (.iload_n 1, 1) := by decide +kernel
theorem dX5_look_92 : decode cX5_look 92 = .ok (.invokevirtual 125, 3) := by decide +kernel
theorem dX5_look_95 : decode cX5_look 95 = .ok (.ireturn, 1) := by decide +kernel
theorem dX5_look_96 : decode cX5_look 96 = .ok (.aload_n 0, 1) := by decide +kernel
theorem dX5_look_97 : decode cX5_look 97 = .ok (.getfield 28, 3) := by decide +kernel
theorem dX5_look_100 : decode cX5_look 100 = .ok (.iload_n 1, 1) := by decide +kernel
theorem dX5_look_101 : decode cX5_look 101 = .ok (.invokevirtual 128, 3) := by decide +kernel
theorem dX5_look_104 : decode cX5_look 104 = .ok (.ireturn, 1) := by decide +kernel
theorem dX5_look_105 : decode cX5_look 105 = .ok (.aload_n 0, 1) := by decide +kernel
theorem dX5_look_106 : decode cX5_look 106 = .ok (.iload_n 1, 1) := by decide +kernel
theorem dX5_look_107 : decode cX5_look 107 = .ok (.invokevirtual 131, 3) := by decide +kernel
theorem dX5_look_110 : decode cX5_look 110 = .ok (.ifCond .eq 7, 3) := by decide +kernel
theorem dX5_look_113 : decode cX5_look 113 = .ok (.iconst 1, 1) := by decide +kernel
theorem dX5_look_114 : decode cX5_look 114 = .ok (.goto 4, 3) := by decide +kernel
theorem dX5_look_117 : decode cX5_look 117 = .ok (.iconst 0, 1) := by decide +kernel
theorem dX5_look_118 : decode cX5_look 118 = .ok (.ireturn, 1) := by decide +kernel
theorem dX5_look_119 : decode cX5_look 119 = .ok (.new 134, 3) := by decide +kernel
theorem dX5_look_122 : decode cX5_look 122 = .ok (.dup, 1) := by decide +kernel
theorem dX5_look_123 : decode cX5_look 123 = .ok (.ldc 136, 2) := by decide +kernel
theorem dX5_look_125 : decode cX5_look 125 = .ok (.invokespecial 138, 3) := by decide +kernel
theorem dX5_look_128 : decode cX5_look 128 = .ok (.athrow, 1) := by decide +kernel
theorem dX5_richest_0 : decode cX5_richest 0 = .ok (.aload_n 0, 1) := by decide +kernel
theorem dX5_richest_1 : decode cX5_richest 1 = .ok (.getfield 28, 3) := by decide +kernel
theorem dX5_richest_4 : decode cX5_richest 4 = .ok (.iload_n 1, 1) := by decide +kernel
theorem dX5_richest_5 : decode cX5_richest 5 = .ok (.invokevirtual 139, 3) := by decide +kernel
theorem dX5_richest_8 : decode cX5_richest 8 = .ok (.ireturn, 1) := by decide +kernel
theorem dX5_place_0 : decode cX5_place 0 = .ok (.aload_n 0, 1) := by decide +kernel
theorem dX5_place_1 : decode cX5_place 1 = .ok (.getfield 45, 3) := by decide +kernel
theorem dX5_place_4 : decode cX5_place 4 = .ok (.iload_n 1, 1) := by decide +kernel
theorem dX5_place_5 : decode cX5_place 5 = .ok (.invokevirtual 142, 3) := by decide +kernel
theorem dX5_place_8 : decode cX5_place 8 = .ok (.ifCond .ne 6, 3) := by decide +kernel
theorem dX5_place_11 : decode cX5_place 11 = .ok (.bipush (-2), 2) := by decide +kernel
theorem dX5_place_13 : decode cX5_place 13 = .ok (.ireturn, 1) := by decide +kernel
theorem dX5_place_14 : decode cX5_place 14 = .ok (.iload_n 2, 1) := by decide +kernel
theorem dX5_place_15 : decode cX5_place 15 = .ok (.lookupswitch 43 #[(0, 25), (1, 34)], 25) := by decide +kernel
theorem dX5_place_40 : decode cX5_place 40 = .ok (.aload_n 0, 1) := by decide +kernel
theorem dX5_place_41 : decode cX5_place 41 = .ok (.getfield 45, 3) := by decide +kernel
theorem dX5_place_44 : decode cX5_place 44 = .ok (.iload_n 1, 1) := by decide +kernel
theorem dX5_place_45 : decode cX5_place 45 = .ok (.invokevirtual 145, 3) := by decide +kernel
theorem dX5_place_48 : decode cX5_place 48 = .ok (.ireturn, 1) := by decide +kernel
theorem dX5_place_49 : decode cX5_place 49 = .ok (.aload_n 0, 1) := by decide +kernel
theorem dX5_place_50 : decode cX5_place 50 = .ok (.getfield 28, 3) := by decide +kernel
theorem dX5_place_53 : decode cX5_place 53 = .ok (.iload_n 1, 1) := by decide +kernel
theorem dX5_place_54 : decode cX5_place 54 = .ok (.invokevirtual 148, 3) := by decide +kernel
theorem dX5_place_57 : decode cX5_place 57 = .ok (.ireturn, 1) := by decide +kernel
theorem dX5_place_58 : decode cX5_place 58 = .ok (.bipush (-2), 2) := by decide +kernel
theorem dX5_place_60 : decode cX5_place 60 = .ok (.ireturn, 1) := by decide +kernel
theorem dX5_begin_0 : decode cX5_begin 0 = .ok (.aload_n 0, 1) := by decide +kernel
theorem dX5_begin_1 : decode cX5_begin 1 = .ok (.getfield 52, 3) := by decide +kernel
theorem dX5_begin_4 : decode cX5_begin 4 = .ok (.ifCond .ne 12, 3) := by decide +kernel
theorem dX5_begin_7 : decode cX5_begin 7 = .ok (.aload_n 0, 1) := by decide +kernel
theorem dX5_begin_8 : decode cX5_begin 8 = .ok (.getfield 56, 3) := by decide +kernel
theorem dX5_begin_11 : decode cX5_begin 11 = .ok (.bipush 40, 2) := by decide +kernel
theorem dX5_begin_13 : decode cX5_begin 13 = .ok (.if_icmp .lt 5, 3) := by decide +kernel
theorem dX5_begin_16 : decode cX5_begin 16 = .ok (.iconst (-1), 1) := by decide +kernel
theorem dX5_begin_17 : decode cX5_begin 17 = .ok (.ireturn, 1) := by decide +kernel
theorem dX5_begin_18 : decode cX5_begin 18 = .ok (.aload_n 0, 1) := by decide +kernel
theorem dX5_begin_19 : decode cX5_begin 19 = .ok (.getfield 56, 3) := by decide +kernel
theorem dX5_begin_22 : decode cX5_begin 22 = .ok (.istore_n 1, 1) := by decide +kernel
theorem dX5_begin_23 : decode cX5_begin 23 = .ok (.aload_n 0, 1) := by decide +kernel
theorem dX5_begin_24 : decode cX5_begin 24 = .ok (.dup, 1) := by decide +kernel
theorem dX5_begin_25 : decode cX5_begin 25 = .ok (.getfield 56, 3) := by decide +kernel
theorem dX5_begin_28 : decode cX5_begin 28 = .ok (.iconst 1, 1) := by decide +kernel
theorem dX5_begin_29 : decode cX5_begin 29 = .ok (.iadd, 1) := by decide +kernel
theorem dX5_begin_30 : decode cX5_begin 30 = .ok (.putfield 56, 3) := by decide +kernel
theorem dX5_begin_33 : decode cX5_begin 33 = .ok (.aload_n 0, 1) := by decide +kernel
theorem dX5_begin_34 : decode cX5_begin 34 = .ok (.iconst 1, 1) := by decide +kernel
theorem dX5_begin_35 : decode cX5_begin 35 = .ok (.putfield 52, 3) := by decide +kernel
theorem dX5_begin_38 : decode cX5_begin 38 = .ok (.aload_n 0, 1) := by decide +kernel
theorem dX5_begin_39 : decode cX5_begin 39 = .ok (.iconst 0, 1) := by decide +kernel
theorem dX5_begin_40 : decode cX5_begin 40 = .ok (.putfield 60, 3) := by decide +kernel
theorem dX5_begin_43 : decode cX5_begin 43 = .ok (.aload_n 0, 1) := by decide +kernel
theorem dX5_begin_44 : decode cX5_begin 44 = .ok (.getfield 38, 3) := by decide +kernel
theorem dX5_begin_47 : decode cX5_begin 47 = .ok (.invokevirtual 151, 3) := by decide +kernel
theorem dX5_begin_50 : decode cX5_begin 50 = .ok (.aload_n 0, 1) := by decide +kernel
theorem dX5_begin_51 : decode cX5_begin 51 = .ok (.getfield 28, 3) := by decide +kernel
theorem dX5_begin_54 : decode cX5_begin 54 = .ok (.aload_n 0, 1) := by decide +kernel
theorem dX5_begin_55 : decode cX5_begin 55 = .ok (.getfield 45, 3) := by decide +kernel
theorem dX5_begin_58 : decode cX5_begin 58 = .ok (.iload_n 1, 1) := by decide +kernel
theorem dX5_begin_59 : decode cX5_begin 59 = .ok (.invokevirtual 152, 3) := by decide +kernel
theorem dX5_begin_62 : decode cX5_begin 62 = .ok (.ireturn, 1) := by decide +kernel
theorem dX5_pass_0 : decode cX5_pass 0 = .ok (.aload_n 0, 1) := by decide +kernel
theorem dX5_pass_1 : decode cX5_pass 1 = .ok (.getfield 52, 3) := by decide +kernel
theorem dX5_pass_4 : decode cX5_pass 4 = .ok (.ifCond .eq 26, 3) := by decide +kernel
theorem dX5_pass_7 : decode cX5_pass 7 = .ok (.iload_n 1, 1) := by decide +kernel
theorem dX5_pass_8 : decode cX5_pass 8 = .ok (.ifCond .lt 22, 3) := by decide +kernel
theorem dX5_pass_11 : decode cX5_pass 11 = .ok (.iload_n 1, 1) := by decide +kernel
theorem dX5_pass_12 : decode cX5_pass 12 = .ok (.sipush 400, 3) := by decide +kernel
theorem dX5_pass_15 : decode cX5_pass 15 = .ok (.if_icmp .gt 15, 3) := by decide +kernel
theorem dX5_pass_18 : decode cX5_pass 18 = .ok (.aload_n 0, 1) := by decide +kernel
theorem dX5_pass_19 : decode cX5_pass 19 = .ok (.getfield 60, 3) := by decide +kernel
theorem dX5_pass_22 : decode cX5_pass 22 = .ok (.iload_n 1, 1) := by decide +kernel
theorem dX5_pass_23 : decode cX5_pass 23 = .ok (.iadd, 1) := by decide +kernel
theorem dX5_pass_24 : decode cX5_pass 24 = .ok (.sipush 400, 3) := by decide +kernel
theorem dX5_pass_27 : decode cX5_pass 27 = .ok (.if_icmp .le 5, 3) := by decide +kernel
theorem dX5_pass_30 : decode cX5_pass 30 = .ok (.iconst (-1), 1) := by decide +kernel
theorem dX5_pass_31 : decode cX5_pass 31 = .ok (.ireturn, 1) := by decide +kernel
theorem dX5_pass_32 : decode cX5_pass 32 = .ok (.aload_n 0, 1) := by decide +kernel
theorem dX5_pass_33 : decode cX5_pass 33 = .ok (.dup, 1) := by decide +kernel
theorem dX5_pass_34 : decode cX5_pass 34 = .ok (.getfield 60, 3) := by decide +kernel
theorem dX5_pass_37 : decode cX5_pass 37 = .ok (.iload_n 1, 1) := by decide +kernel
theorem dX5_pass_38 : decode cX5_pass 38 = .ok (.iadd, 1) := by decide +kernel
theorem dX5_pass_39 : decode cX5_pass 39 = .ok (.putfield 60, 3) := by decide +kernel
theorem dX5_pass_42 : decode cX5_pass 42 = .ok (.aload_n 0, 1) := by decide +kernel
theorem dX5_pass_43 : decode cX5_pass 43 = .ok (.getfield 38, 3) := by decide +kernel
theorem dX5_pass_46 : decode cX5_pass 46 = .ok (.aload_n 0, 1) := by decide +kernel
theorem dX5_pass_47 : decode cX5_pass 47 = .ok (.getfield 60, 3) := by decide +kernel
theorem dX5_pass_50 : decode cX5_pass 50 = .ok (.aload_n 0, 1) := by decide +kernel
theorem dX5_pass_51 : decode cX5_pass 51 = .ok (.getfield 28, 3) := by decide +kernel
theorem dX5_pass_54 : decode cX5_pass 54 = .ok (.invokevirtual 156, 3) := by decide +kernel
theorem dX5_pass_57 : decode cX5_pass 57 = .ok (.aload_n 0, 1) := by decide +kernel
theorem dX5_pass_58 : decode cX5_pass 58 = .ok (.getfield 60, 3) := by decide +kernel
theorem dX5_pass_61 : decode cX5_pass 61 = .ok (.ireturn, 1) := by decide +kernel
theorem dX5_challenge_0 : decode cX5_challenge 0 = .ok (.aload_n 0, 1) := by decide +kernel
theorem dX5_challenge_1 : decode cX5_challenge 1 = .ok (.getfield 52, 3) := by decide +kernel
theorem dX5_challenge_4 : decode cX5_challenge 4 = .ok (.ifCond .eq 35, 3) := by decide +kernel
theorem dX5_challenge_7 : decode cX5_challenge 7 = .ok (.aload_n 0, 1) := by decide +kernel
theorem dX5_challenge_8 : decode cX5_challenge 8 = .ok (.getfield 38, 3) := by decide +kernel
theorem dX5_challenge_11 : decode cX5_challenge 11 = .ok (.invokevirtual 160, 3) := by decide +kernel
theorem dX5_challenge_14 : decode cX5_challenge 14 = .ok (.ifCond .eq 25, 3) := by decide +kernel
theorem dX5_challenge_17 : decode cX5_challenge 17 = .ok (.aload_n 0, 1) := by decide +kernel
theorem dX5_challenge_18 : decode cX5_challenge 18 = .ok (.getfield 28, 3) := by decide +kernel
theorem dX5_challenge_21 : decode cX5_challenge 21 = .ok (.iload_n 1, 1) := by decide +kernel
theorem dX5_challenge_22 : decode cX5_challenge 22 = .ok (.invokevirtual 101, 3) := by decide +kernel
theorem dX5_challenge_25 : decode cX5_challenge 25 = .ok (.ifCond .eq 14, 3) := by decide +kernel
theorem dX5_challenge_28 : decode cX5_challenge 28 = .ok (.aload_n 0, 1) := by decide +kernel
theorem dX5_challenge_29 : decode cX5_challenge 29 = .ok (.getfield 28, 3) := by decide +kernel
theorem dX5_challenge_32 : decode cX5_challenge 32 = .ok (.iload_n 2, 1) := by decide +kernel
theorem dX5_challenge_33 : decode cX5_challenge 33 = .ok (.invokevirtual 101, 3) := by decide +kernel
theorem dX5_challenge_36 : decode cX5_challenge 36 = .ok (.ifCond .ne 5, 3) := by decide +kernel
theorem dX5_challenge_39 : decode cX5_challenge 39 = .ok (.iconst (-1), 1) := by decide +kernel
theorem dX5_challenge_40 : decode cX5_challenge 40 = .ok (.ireturn, 1) := by decide +kernel
theorem dX5_challenge_41 : decode cX5_challenge 41 = .ok (.aload_n 0, 1) := by decide +kernel
theorem dX5_challenge_42 : decode cX5_challenge 42 = .ok (.getfield 28, 3) := by decide +kernel
theorem dX5_challenge_45 : decode cX5_challenge 45 = .ok (.iload_n 1, 1) := by decide +kernel
theorem dX5_challenge_46 : decode cX5_challenge 46 = .ok (.invokevirtual 122, 3) := by decide +kernel
theorem dX5_challenge_49 : decode cX5_challenge 49 = .ok (.istore_n 3, 1) := by decide +kernel
theorem dX5_challenge_50 : decode cX5_challenge 50 = .ok (.iload_n 3, 1) := by decide +kernel
theorem dX5_challenge_51 : decode cX5_challenge 51 = .ok (.iconst (-1), 1) := by decide +kernel
theorem dX5_challenge_52 : decode cX5_challenge 52 = .ok (.if_icmp .eq 33, 3) := by decide +kernel
theorem dX5_challenge_55 : decode cX5_challenge 55 = .ok (.aload_n 0, 1) := by decide +kernel
theorem dX5_challenge_56 : decode cX5_challenge 56 = .ok (.iload_n 2, 1) := by decide +kernel
theorem dX5_challenge_57 : decode cX5_challenge 57 = .ok (.invokevirtual 131, 3) := by decide +kernel
theorem dX5_challenge_60 : decode cX5_challenge 60 = .ok (.ifCond .eq 25, 3) := by decide +kernel
theorem dX5_challenge_63 : decode cX5_challenge 63 = .ok (.aload_n 0, 1) := by decide +kernel
theorem dX5_challenge_64 : decode cX5_challenge 64 = .ok (.getfield 38, 3) := by decide +kernel
theorem dX5_challenge_67 : decode cX5_challenge 67 = .ok (.iload_n 1, 1) := by decide +kernel
theorem dX5_challenge_68 : decode cX5_challenge 68 = .ok (.invokevirtual 163, 3) := by decide +kernel
theorem dX5_challenge_71 : decode cX5_challenge 71 = .ok (.ifCond .ne 14, 3) := by decide +kernel
theorem dX5_challenge_74 : decode cX5_challenge 74 = .ok (.aload_n 0, 1) := by decide +kernel
theorem dX5_challenge_75 : decode cX5_challenge 75 = .ok (.getfield 38, 3) := by decide +kernel
theorem dX5_challenge_78 : decode cX5_challenge 78 = .ok (.iload_n 2, 1) := by decide +kernel
theorem dX5_challenge_79 : decode cX5_challenge 79 = .ok (.invokevirtual 163, 3) := by decide +kernel
theorem dX5_challenge_82 : decode cX5_challenge 82 = .ok (.ifCond .eq 5, 3) := by decide +kernel
theorem dX5_challenge_85 : decode cX5_challenge 85 = .ok (.iconst (-1), 1) := by decide +kernel
theorem dX5_challenge_86 : decode cX5_challenge 86 = .ok (.ireturn, 1) := by decide +kernel
theorem dX5_challenge_87 : decode cX5_challenge 87 = .ok (.aload_n 0, 1) := by decide +kernel
theorem dX5_challenge_88 : decode cX5_challenge 88 = .ok (.getfield 28, 3) := by decide +kernel
theorem dX5_challenge_91 : decode cX5_challenge 91 = .ok (.iload_n 2, 1) := by decide +kernel
theorem dX5_challenge_92 : decode cX5_challenge 92 = .ok (.iload_n 3, 1) := by decide +kernel
theorem dX5_challenge_93 : decode cX5_challenge 93 = .ok (.invokevirtual 166, 3) := by decide +kernel
theorem dX5_challenge_96 : decode cX5_challenge 96 = .ok (.ifCond .eq 6, 3) := by decide +kernel
theorem dX5_challenge_99 : decode cX5_challenge 99 = .ok (.bipush (-3), 2) := by decide +kernel
theorem dX5_challenge_101 : decode cX5_challenge 101 = .ok (.ireturn, 1) := by decide +kernel
theorem dX5_challenge_102 : decode cX5_challenge 102 = .ok (.aload_n 0, 1) := by decide +kernel
theorem dX5_challenge_103 : decode cX5_challenge 103 = .ok (.getfield 38, 3) := by decide +kernel
theorem dX5_challenge_106 : decode cX5_challenge 106 = .ok (.iload_n 1, 1) := by decide +kernel
theorem dX5_challenge_107 : decode cX5_challenge 107 = .ok (.iload_n 2, 1) := by decide +kernel
theorem dX5_challenge_108 : decode cX5_challenge 108 = .ok (.iload_n 3, 1) := by decide +kernel
theorem dX5_challenge_109 : decode cX5_challenge 109 = .ok (.aload_n 0, 1) := by decide +kernel
theorem dX5_challenge_110 : decode cX5_challenge 110 = .ok (.getfield 60, 3) := by decide +kernel
theorem dX5_challenge_113 : decode cX5_challenge 113 = .ok (.aload_n 0, 1) := by decide +kernel
theorem dX5_challenge_114 : decode cX5_challenge 114 = .ok (.getfield 45, 3) := by decide +kernel
theorem dX5_challenge_117 : decode cX5_challenge 117 = .ok (.iconst 2, 1) := by decide +kernel
theorem dX5_challenge_118 : decode cX5_challenge 118 = .ok (.invokevirtual 170, 3) := by decide +kernel
theorem dX5_challenge_121 : decode cX5_challenge 121 = .ok (.invokevirtual 173, 3) := by decide +kernel
theorem dX5_challenge_124 : decode cX5_challenge 124 = .ok (.ireturn, 1) := by decide +kernel
theorem dX5_answer_0 : decode cX5_answer 0 = .ok (.aload_n 0, 1) := by decide +kernel
theorem dX5_answer_1 : decode cX5_answer 1 = .ok (.getfield 38, 3) := by decide +kernel
theorem dX5_answer_4 : decode cX5_answer 4 = .ok (.iload_n 1, 1) := by decide +kernel
theorem dX5_answer_5 : decode cX5_answer 5 = .ok (.invokevirtual 176, 3) := by decide +kernel
theorem dX5_answer_8 : decode cX5_answer 8 = .ok (.ifCond .eq 5, 3) := by decide +kernel
theorem dX5_answer_11 : decode cX5_answer 11 = .ok (.iconst 0, 1) := by decide +kernel
theorem dX5_answer_12 : decode cX5_answer 12 = .ok (.ireturn, 1) := by decide +kernel
theorem dX5_answer_13 : decode cX5_answer 13 = .ok (.iload_n 2, 1) := by decide +kernel
theorem dX5_answer_14 : decode cX5_answer 14 = .ok (.ifCond .eq 18, 3) := by decide +kernel
theorem dX5_answer_17 : decode cX5_answer 17 = .ok (.aload_n 0, 1) := by decide +kernel
theorem dX5_answer_18 : decode cX5_answer 18 = .ok (.getfield 38, 3) := by decide +kernel
theorem dX5_answer_21 : decode cX5_answer 21 = .ok (.iload_n 1, 1) := by decide +kernel
theorem dX5_answer_22 : decode cX5_answer 22 = .ok (.aload_n 0, 1) := by decide +kernel
theorem dX5_answer_23 : decode cX5_answer 23 = .ok (.getfield 28, 3) := by decide +kernel
theorem dX5_answer_26 : decode cX5_answer 26 = .ok (.invokevirtual 179, 3) := by decide +kernel
theorem dX5_answer_29 : decode cX5_answer 29 = .ok (.goto 24, 3) := by decide +kernel
theorem dX5_answer_32 : decode cX5_answer 32 = .ok (.aload_n 0, 1) := by decide +kernel
theorem dX5_answer_33 : decode cX5_answer 33 = .ok (.getfield 38, 3) := by decide +kernel
theorem dX5_answer_36 : decode cX5_answer 36 = .ok (.iload_n 1, 1) := by decide +kernel
theorem dX5_answer_37 : decode cX5_answer 37 = .ok (.aload_n 0, 1) := by decide +kernel
theorem dX5_answer_38 : decode cX5_answer 38 = .ok (.getfield 60, 3) := by decide +kernel
theorem dX5_answer_41 : decode cX5_answer 41 = .ok (.aload_n 0, 1) := by decide +kernel
theorem dX5_answer_42 : decode cX5_answer 42 = .ok (.getfield 45, 3) := by decide +kernel
theorem dX5_answer_45 : decode cX5_answer 45 = .ok (.iconst 3, 1) := by decide +kernel
theorem dX5_answer_46 : decode cX5_answer 46 = .ok (.invokevirtual 170, 3) := by decide +kernel
theorem dX5_answer_49 : decode cX5_answer 49 = .ok (.iadd, 1) := by decide +kernel
theorem dX5_answer_50 : decode cX5_answer 50 = .ok (.invokevirtual 182, 3) := by decide +kernel
theorem dX5_answer_53 : decode cX5_answer 53 = .ok (.iconst 1, 1) := by decide +kernel
theorem dX5_answer_54 : decode cX5_answer 54 = .ok (.ireturn, 1) := by decide +kernel
theorem dX5_swear_0 : decode cX5_swear 0 = .ok (.aload_n 0, 1) := by decide +kernel
theorem dX5_swear_1 : decode cX5_swear 1 = .ok (.getfield 38, 3) := by decide +kernel
theorem dX5_swear_4 : decode cX5_swear 4 = .ok (.iload_n 1, 1) := by decide +kernel
theorem dX5_swear_5 : decode cX5_swear 5 = .ok (.invokevirtual 176, 3) := by decide +kernel
theorem dX5_swear_8 : decode cX5_swear 8 = .ok (.iconst 1, 1) := by decide +kernel
theorem dX5_swear_9 : decode cX5_swear 9 = .ok (.if_icmp .ne 15, 3) := by decide +kernel
theorem dX5_swear_12 : decode cX5_swear 12 = .ok (.aload_n 0, 1) := by decide +kernel
theorem dX5_swear_13 : decode cX5_swear 13 = .ok (.getfield 38, 3) := by decide +kernel
theorem dX5_swear_16 : decode cX5_swear 16 = .ok (.iload_n 1, 1) := by decide +kernel
theorem dX5_swear_17 : decode cX5_swear 17 = .ok (.iload_n 2, 1) := by decide +kernel
theorem dX5_swear_18 : decode cX5_swear 18 = .ok (.invokevirtual 185, 3) := by decide +kernel
theorem dX5_swear_21 : decode cX5_swear 21 = .ok (.ifCond .eq 5, 3) := by decide +kernel
theorem dX5_swear_24 : decode cX5_swear 24 = .ok (.iconst 0, 1) := by decide +kernel
theorem dX5_swear_25 : decode cX5_swear 25 = .ok (.ireturn, 1) := by decide +kernel
theorem dX5_swear_26 : decode cX5_swear 26 = .ok (.aload_n 0, 1) := by decide +kernel
theorem dX5_swear_27 : decode cX5_swear 27 = .ok (.getfield 38, 3) := by decide +kernel
theorem dX5_swear_30 : decode cX5_swear 30 = .ok (.iload_n 1, 1) := by decide +kernel
theorem dX5_swear_31 : decode cX5_swear 31 = .ok (.iload_n 2, 1) := by decide +kernel
theorem dX5_swear_32 : decode cX5_swear 32 = .ok (.aload_n 0, 1) := by decide +kernel
theorem dX5_swear_33 : decode cX5_swear 33 = .ok (.getfield 28, 3) := by decide +kernel
theorem dX5_swear_36 : decode cX5_swear 36 = .ok (.invokevirtual 189, 3) := by decide +kernel
theorem dX5_swear_39 : decode cX5_swear 39 = .ok (.iconst 1, 1) := by decide +kernel
theorem dX5_swear_40 : decode cX5_swear 40 = .ok (.ireturn, 1) := by decide +kernel
theorem dX5_told_0 : decode cX5_told 0 = .ok (.iload_n 2, 1) := by decide +kernel
theorem dX5_told_1 : decode cX5_told 1 = .ok (.tableswitch 93 0 5 #[39, 48, 57, 66, 75, 84], 39) := by decide +kernel
theorem dX5_told_40 : decode cX5_told 40 = .ok (.aload_n 0, 1) := by decide +kernel
theorem dX5_told_41 : decode cX5_told 41 = .ok (.getfield 38, 3) := by decide +kernel
theorem dX5_told_44 : decode cX5_told 44 = .ok (.iload_n 1, 1) := by decide +kernel
theorem dX5_told_45 : decode cX5_told 45 = .ok (.invokevirtual 193, 3) := by decide +kernel
theorem dX5_told_48 : decode cX5_told 48 = .ok (.ireturn, 1) := by decide +kernel
theorem dX5_told_49 : decode cX5_told 49 = .ok (.aload_n 0, 1) := by decide +kernel
theorem dX5_told_50 : decode cX5_told 50 = .ok (.getfield 38, 3) := by decide +kernel
theorem dX5_told_53 : decode cX5_told 53 = .ok (.iload_n 1, 1) := by decide +kernel
theorem dX5_told_54 : decode cX5_told 54 = .ok (.invokevirtual 196, 3) := by decide +kernel
theorem dX5_told_57 : decode cX5_told 57 = .ok (.ireturn, 1) := by decide +kernel
theorem dX5_told_58 : decode cX5_told 58 = .ok (.aload_n 0, 1) := by decide +kernel
theorem dX5_told_59 : decode cX5_told 59 = .ok (.getfield 38, 3) := by decide +kernel
theorem dX5_told_62 : decode cX5_told 62 = .ok (.iload_n 1, 1) := by decide +kernel
theorem dX5_told_63 : decode cX5_told 63 = .ok (.invokevirtual 199, 3) := by decide +kernel
theorem dX5_told_66 : decode cX5_told 66 = .ok (.ireturn, 1) := by decide +kernel
theorem dX5_told_67 : decode cX5_told 67 = .ok (.aload_n 0, 1) := by decide +kernel
theorem dX5_told_68 : decode cX5_told 68 = .ok (.getfield 38, 3) := by decide +kernel
theorem dX5_told_71 : decode cX5_told 71 = .ok (.iload_n 1, 1) := by decide +kernel
theorem dX5_told_72 : decode cX5_told 72 = .ok (.invokevirtual 202, 3) := by decide +kernel
theorem dX5_told_75 : decode cX5_told 75 = .ok (.ireturn, 1) := by decide +kernel
theorem dX5_told_76 : decode cX5_told 76 = .ok (.aload_n 0, 1) := by decide +kernel
theorem dX5_told_77 : decode cX5_told 77 = .ok (.getfield 38, 3) := by decide +kernel
theorem dX5_told_80 : decode cX5_told 80 = .ok (.iload_n 1, 1) := by decide +kernel
theorem dX5_told_81 : decode cX5_told 81 = .ok (.invokevirtual 176, 3) := by decide +kernel
theorem dX5_told_84 : decode cX5_told 84 = .ok (.ireturn, 1) := by decide +kernel
theorem dX5_told_85 : decode cX5_told 85 = .ok (.aload_n 0, 1) := by decide +kernel
theorem dX5_told_86 : decode cX5_told 86 = .ok (.getfield 38, 3) := by decide +kernel
theorem dX5_told_89 : decode cX5_told 89 = .ok (.iload_n 1, 1) := by decide +kernel
theorem dX5_told_90 : decode cX5_told 90 = .ok (.invokevirtual 205, 3) := by decide +kernel
theorem dX5_told_93 : decode cX5_told 93 = .ok (.ireturn, 1) := by decide +kernel
theorem dX5_told_94 : decode cX5_told 94 = .ok (.iconst (-1), 1) := by decide +kernel
theorem dX5_told_95 : decode cX5_told 95 = .ok (.ireturn, 1) := by decide +kernel
theorem dX5_end_0 : decode cX5_end 0 = .ok (.aload_n 0, 1) := by decide +kernel
theorem dX5_end_1 : decode cX5_end 1 = .ok (.getfield 52, 3) := by decide +kernel
theorem dX5_end_4 : decode cX5_end 4 = .ok (.ifCond .ne 5, 3) := by decide +kernel
theorem dX5_end_7 : decode cX5_end 7 = .ok (.iconst (-1), 1) := by decide +kernel
theorem dX5_end_8 : decode cX5_end 8 = .ok (.ireturn, 1) := by decide +kernel
theorem dX5_end_9 : decode cX5_end 9 = .ok (.aload_n 0, 1) := by decide +kernel
theorem dX5_end_10 : decode cX5_end 10 = .ok (.getfield 38, 3) := by decide +kernel
theorem dX5_end_13 : decode cX5_end 13 = .ok (.aload_n 0, 1) := by decide +kernel
theorem dX5_end_14 : decode cX5_end 14 = .ok (.getfield 28, 3) := by decide +kernel
theorem dX5_end_17 : decode cX5_end 17 = .ok (.invokevirtual 208, 3) := by decide +kernel
theorem dX5_end_20 : decode cX5_end 20 = .ok (.aload_n 0, 1) := by decide +kernel
theorem dX5_end_21 : decode cX5_end 21 = .ok (.getfield 28, 3) := by decide +kernel
theorem dX5_end_24 : decode cX5_end 24 = .ok (.aload_n 0, 1) := by decide +kernel
theorem dX5_end_25 : decode cX5_end 25 = .ok (.getfield 45, 3) := by decide +kernel
theorem dX5_end_28 : decode cX5_end 28 = .ok (.aload_n 0, 1) := by decide +kernel
theorem dX5_end_29 : decode cX5_end 29 = .ok (.getfield 56, 3) := by decide +kernel
theorem dX5_end_32 : decode cX5_end 32 = .ok (.iconst 1, 1) := by decide +kernel
theorem dX5_end_33 : decode cX5_end 33 = .ok (.isub, 1) := by decide +kernel
theorem dX5_end_34 : decode cX5_end 34 = .ok (.invokevirtual 212, 3) := by decide +kernel
theorem dX5_end_37 : decode cX5_end 37 = .ok (.istore_n 1, 1) := by decide +kernel
theorem dX5_end_38 : decode cX5_end 38 = .ok (.aload_n 0, 1) := by decide +kernel
theorem dX5_end_39 : decode cX5_end 39 = .ok (.dup, 1) := by decide +kernel
theorem dX5_end_40 : decode cX5_end 40 = .ok (.getfield 63, 3) := by decide +kernel
theorem dX5_end_43 : decode cX5_end 43 = .ok (.iload_n 1, 1) := by decide +kernel
theorem dX5_end_44 : decode cX5_end 44 = .ok (.iadd, 1) := by decide +kernel
theorem dX5_end_45 : decode cX5_end 45 = .ok (.putfield 63, 3) := by decide +kernel
theorem dX5_end_48 : decode cX5_end 48 = .ok (.aload_n 0, 1) := by decide +kernel
theorem dX5_end_49 : decode cX5_end 49 = .ok (.iconst 0, 1) := by decide +kernel
theorem dX5_end_50 : decode cX5_end 50 = .ok (.putfield 52, 3) := by decide +kernel
theorem dX5_end_53 : decode cX5_end 53 = .ok (.iload_n 1, 1) := by decide +kernel
theorem dX5_end_54 : decode cX5_end 54 = .ok (.ireturn, 1) := by decide +kernel
theorem dX5_part_0 : decode cX5_part 0 = .ok (.aload_n 0, 1) := by decide +kernel
theorem dX5_part_1 : decode cX5_part 1 = .ok (.getfield 45, 3) := by decide +kernel
theorem dX5_part_4 : decode cX5_part 4 = .ok (.iload_n 1, 1) := by decide +kernel
theorem dX5_part_5 : decode cX5_part 5 = .ok (.invokevirtual 142, 3) := by decide +kernel
theorem dX5_part_8 : decode cX5_part 8 = .ok (.ifCond .eq 15, 3) := by decide +kernel
theorem dX5_part_11 : decode cX5_part 11 = .ok (.aload_n 0, 1) := by decide +kernel
theorem dX5_part_12 : decode cX5_part 12 = .ok (.getfield 28, 3) := by decide +kernel
theorem dX5_part_15 : decode cX5_part 15 = .ok (.iload_n 1, 1) := by decide +kernel
theorem dX5_part_16 : decode cX5_part 16 = .ok (.invokevirtual 148, 3) := by decide +kernel
theorem dX5_part_19 : decode cX5_part 19 = .ok (.iconst (-1), 1) := by decide +kernel
theorem dX5_part_20 : decode cX5_part 20 = .ok (.if_icmp .ne 5, 3) := by decide +kernel
theorem dX5_part_23 : decode cX5_part 23 = .ok (.iconst (-1), 1) := by decide +kernel
theorem dX5_part_24 : decode cX5_part 24 = .ok (.ireturn, 1) := by decide +kernel
theorem dX5_part_25 : decode cX5_part 25 = .ok (.aload_n 0, 1) := by decide +kernel
theorem dX5_part_26 : decode cX5_part 26 = .ok (.getfield 28, 3) := by decide +kernel
theorem dX5_part_29 : decode cX5_part 29 = .ok (.aload_n 0, 1) := by decide +kernel
theorem dX5_part_30 : decode cX5_part 30 = .ok (.getfield 45, 3) := by decide +kernel
theorem dX5_part_33 : decode cX5_part 33 = .ok (.iload_n 1, 1) := by decide +kernel
theorem dX5_part_34 : decode cX5_part 34 = .ok (.invokevirtual 215, 3) := by decide +kernel
theorem dX5_part_37 : decode cX5_part 37 = .ok (.ireturn, 1) := by decide +kernel
theorem dX5_gain_0 : decode cX5_gain 0 = .ok (.aload_n 0, 1) := by decide +kernel
theorem dX5_gain_1 : decode cX5_gain 1 = .ok (.getfield 28, 3) := by decide +kernel
theorem dX5_gain_4 : decode cX5_gain 4 = .ok (.iload_n 1, 1) := by decide +kernel
theorem dX5_gain_5 : decode cX5_gain 5 = .ok (.invokevirtual 101, 3) := by decide +kernel
theorem dX5_gain_8 : decode cX5_gain 8 = .ok (.ifCond .eq 31, 3) := by decide +kernel
theorem dX5_gain_11 : decode cX5_gain 11 = .ok (.aload_n 0, 1) := by decide +kernel
theorem dX5_gain_12 : decode cX5_gain 12 = .ok (.getfield 28, 3) := by decide +kernel
theorem dX5_gain_15 : decode cX5_gain 15 = .ok (.iload_n 2, 1) := by decide +kernel
theorem dX5_gain_16 : decode cX5_gain 16 = .ok (.invokevirtual 101, 3) := by decide +kernel
theorem dX5_gain_19 : decode cX5_gain 19 = .ok (.ifCond .eq 20, 3) := by decide +kernel
theorem dX5_gain_22 : decode cX5_gain 22 = .ok (.iload_n 1, 1) := by decide +kernel
theorem dX5_gain_23 : decode cX5_gain 23 = .ok (.iload_n 2, 1) := by decide +kernel
theorem dX5_gain_24 : decode cX5_gain 24 = .ok (.if_icmp .eq 15, 3) := by decide +kernel
theorem dX5_gain_27 : decode cX5_gain 27 = .ok (.aload_n 0, 1) := by decide +kernel
theorem dX5_gain_28 : decode cX5_gain 28 = .ok (.getfield 28, 3) := by decide +kernel
theorem dX5_gain_31 : decode cX5_gain 31 = .ok (.iload_n 1, 1) := by decide +kernel
theorem dX5_gain_32 : decode cX5_gain 32 = .ok (.invokevirtual 122, 3) := by decide +kernel
theorem dX5_gain_35 : decode cX5_gain 35 = .ok (.iconst (-1), 1) := by decide +kernel
theorem dX5_gain_36 : decode cX5_gain 36 = .ok (.if_icmp .ne 6, 3) := by decide +kernel
theorem dX5_gain_39 : decode cX5_gain 39 = .ok (.ldc 220, 2) := by decide +kernel
theorem dX5_gain_41 : decode cX5_gain 41 = .ok (.ireturn, 1) := by decide +kernel
theorem dX5_gain_42 : decode cX5_gain 42 = .ok (.aload_n 0, 1) := by decide +kernel
theorem dX5_gain_43 : decode cX5_gain 43 = .ok (.getfield 28, 3) := by decide +kernel
theorem dX5_gain_46 : decode cX5_gain 46 = .ok (.aload_n 0, 1) := by decide +kernel
theorem dX5_gain_47 : decode cX5_gain 47 = .ok (.getfield 45, 3) := by decide +kernel
theorem dX5_gain_50 : decode cX5_gain 50 = .ok (.aload_n 0, 1) := by decide +kernel
theorem dX5_gain_51 : decode cX5_gain 51 = .ok (.getfield 28, 3) := by decide +kernel
theorem dX5_gain_54 : decode cX5_gain 54 = .ok (.iload_n 1, 1) := by decide +kernel
theorem dX5_gain_55 : decode cX5_gain 55 = .ok (.invokevirtual 122, 3) := by decide +kernel
theorem dX5_gain_58 : decode cX5_gain 58 = .ok (.invokevirtual 215, 3) := by decide +kernel
theorem dX5_gain_61 : decode cX5_gain 61 = .ok (.istore_n 3, 1) := by decide +kernel
theorem dX5_gain_62 : decode cX5_gain 62 = .ok (.aload_n 0, 1) := by decide +kernel
theorem dX5_gain_63 : decode cX5_gain 63 = .ok (.getfield 28, 3) := by decide +kernel
theorem dX5_gain_66 : decode cX5_gain 66 = .ok (.iload_n 1, 1) := by decide +kernel
theorem dX5_gain_67 : decode cX5_gain 67 = .ok (.invokevirtual 221, 3) := by decide +kernel
theorem dX5_gain_70 : decode cX5_gain 70 = .ok (.istore 4, 2) := by decide +kernel
theorem dX5_gain_72 : decode cX5_gain 72 = .ok (.aload_n 0, 1) := by decide +kernel
theorem dX5_gain_73 : decode cX5_gain 73 = .ok (.getfield 28, 3) := by decide +kernel
theorem dX5_gain_76 : decode cX5_gain 76 = .ok (.iload_n 2, 1) := by decide +kernel
theorem dX5_gain_77 : decode cX5_gain 77 = .ok (.invokevirtual 221, 3) := by decide +kernel
theorem dX5_gain_80 : decode cX5_gain 80 = .ok (.istore 5, 2) := by decide +kernel
theorem dX5_gain_82 : decode cX5_gain 82 = .ok (.iload 5, 2) := by decide +kernel
theorem dX5_gain_84 : decode cX5_gain 84 = .ok (.iload_n 3, 1) := by decide +kernel
theorem dX5_gain_85 : decode cX5_gain 85 = .ok (.isub, 1) := by decide +kernel
theorem dX5_gain_86 : decode cX5_gain 86 = .ok (.iload 4, 2) := by decide +kernel
theorem dX5_gain_88 : decode cX5_gain 88 = .ok (.if_icmp .lt 7, 3) := by decide +kernel
theorem dX5_gain_91 : decode cX5_gain 91 = .ok (.iconst 1, 1) := by decide +kernel
theorem dX5_gain_92 : decode cX5_gain 92 = .ok (.goto 4, 3) := by decide +kernel
theorem dX5_gain_95 : decode cX5_gain 95 = .ok (.iconst 0, 1) := by decide +kernel
theorem dX5_gain_96 : decode cX5_gain 96 = .ok (.istore 6, 2) := by decide +kernel
theorem dX5_gain_98 : decode cX5_gain 98 = .ok (.iload 6, 2) := by decide +kernel
theorem dX5_gain_100 : decode cX5_gain 100 = .ok (.ifCond .eq 8, 3) := by decide +kernel
theorem dX5_gain_103 : decode cX5_gain 103 = .ok (.iload 4, 2) := by decide +kernel
theorem dX5_gain_105 : decode cX5_gain 105 = .ok (.goto 7, 3) := by decide +kernel
theorem dX5_gain_108 : decode cX5_gain 108 = .ok (.iload 5, 2) := by decide +kernel
theorem dX5_gain_110 : decode cX5_gain 110 = .ok (.iload_n 3, 1) := by decide +kernel
theorem dX5_gain_111 : decode cX5_gain 111 = .ok (.isub, 1) := by decide +kernel
theorem dX5_gain_112 : decode cX5_gain 112 = .ok (.istore 7, 2) := by decide +kernel
theorem dX5_gain_114 : decode cX5_gain 114 = .ok (.iload 4, 2) := by decide +kernel
theorem dX5_gain_116 : decode cX5_gain 116 = .ok (.iload_n 3, 1) := by decide +kernel
theorem dX5_gain_117 : decode cX5_gain 117 = .ok (.isub, 1) := by decide +kernel
theorem dX5_gain_118 : decode cX5_gain 118 = .ok (.istore 8, 2) := by decide +kernel
theorem dX5_gain_120 : decode cX5_gain 120 = .ok (.iload 7, 2) := by decide +kernel
theorem dX5_gain_122 : decode cX5_gain 122 = .ok (.iload 8, 2) := by decide +kernel
theorem dX5_gain_124 : decode cX5_gain 124 = .ok (.isub, 1) := by decide +kernel
theorem dX5_gain_125 : decode cX5_gain 125 = .ok (.ireturn, 1) := by decide +kernel
theorem dX5_ahead_0 : decode cX5_ahead 0 = .ok (.iload_n 1, 1) := by decide +kernel
theorem dX5_ahead_1 : decode cX5_ahead 1 = .ok (.ifCond .lt 9, 3) := by decide +kernel
theorem dX5_ahead_4 : decode cX5_ahead 4 = .ok (.iload_n 1, 1) := by decide +kernel
theorem dX5_ahead_5 : decode cX5_ahead 5 = .ok (.bipush 20, 2) := by decide +kernel
theorem dX5_ahead_7 : decode cX5_ahead 7 = .ok (.if_icmp .le 5, 3) := by decide +kernel
theorem dX5_ahead_10 : decode cX5_ahead 10 = .ok (.iconst (-1), 1) := by decide +kernel
theorem dX5_ahead_11 : decode cX5_ahead 11 = .ok (.ireturn, 1) := by decide +kernel
theorem dX5_ahead_12 : decode cX5_ahead 12 = .ok (.aload_n 0, 1) := by decide +kernel
theorem dX5_ahead_13 : decode cX5_ahead 13 = .ok (.getfield 32, 3) := by decide +kernel
theorem dX5_ahead_16 : decode cX5_ahead 16 = .ok (.aload_n 0, 1) := by decide +kernel
theorem dX5_ahead_17 : decode cX5_ahead 17 = .ok (.getfield 28, 3) := by decide +kernel
theorem dX5_ahead_20 : decode cX5_ahead 20 = .ok (.invokevirtual 224, 3) := by decide +kernel
theorem dX5_ahead_23 : decode cX5_ahead 23 = .ok (.aload_n 0, 1) := by decide +kernel
theorem dX5_ahead_24 : decode cX5_ahead 24 = .ok (.getfield 52, 3) := by decide +kernel
theorem dX5_ahead_27 : decode cX5_ahead 27 = .ok (.ifCond .eq 32, 3) := by decide +kernel
theorem dX5_ahead_30 : decode cX5_ahead 30 = .ok (.aload_n 0, 1) := by decide +kernel
theorem dX5_ahead_31 : decode cX5_ahead 31 = .ok (.getfield 38, 3) := by decide +kernel
theorem dX5_ahead_34 : decode cX5_ahead 34 = .ok (.aload_n 0, 1) := by decide +kernel
theorem dX5_ahead_35 : decode cX5_ahead 35 = .ok (.getfield 32, 3) := by decide +kernel
theorem dX5_ahead_38 : decode cX5_ahead 38 = .ok (.invokevirtual 227, 3) := by decide +kernel
theorem dX5_ahead_41 : decode cX5_ahead 41 = .ok (.aload_n 0, 1) := by decide +kernel
theorem dX5_ahead_42 : decode cX5_ahead 42 = .ok (.getfield 32, 3) := by decide +kernel
theorem dX5_ahead_45 : decode cX5_ahead 45 = .ok (.aload_n 0, 1) := by decide +kernel
theorem dX5_ahead_46 : decode cX5_ahead 46 = .ok (.getfield 45, 3) := by decide +kernel
theorem dX5_ahead_49 : decode cX5_ahead 49 = .ok (.aload_n 0, 1) := by decide +kernel
theorem dX5_ahead_50 : decode cX5_ahead 50 = .ok (.getfield 56, 3) := by decide +kernel
theorem dX5_ahead_53 : decode cX5_ahead 53 = .ok (.iconst 1, 1) := by decide +kernel
theorem dX5_ahead_54 : decode cX5_ahead 54 = .ok (.isub, 1) := by decide +kernel
theorem dX5_ahead_55 : decode cX5_ahead 55 = .ok (.invokevirtual 212, 3) := by decide +kernel
theorem dX5_ahead_58 : decode cX5_ahead 58 = .ok (.pop, 1) := by decide +kernel
theorem dX5_ahead_59 : decode cX5_ahead 59 = .ok (.iconst 0, 1) := by decide +kernel
theorem dX5_ahead_60 : decode cX5_ahead 60 = .ok (.istore_n 2, 1) := by decide +kernel
theorem dX5_ahead_61 : decode cX5_ahead 61 = .ok (.iload_n 2, 1) := by decide +kernel
theorem dX5_ahead_62 : decode cX5_ahead 62 = .ok (.iload_n 1, 1) := by decide +kernel
theorem dX5_ahead_63 : decode cX5_ahead 63 = .ok (.if_icmp .ge 45, 3) := by decide +kernel
theorem dX5_ahead_66 : decode cX5_ahead 66 = .ok (.aload_n 0, 1) := by decide +kernel
theorem dX5_ahead_67 : decode cX5_ahead 67 = .ok (.getfield 32, 3) := by decide +kernel
theorem dX5_ahead_70 : decode cX5_ahead 70 = .ok (.aload_n 0, 1) := by decide +kernel
theorem dX5_ahead_71 : decode cX5_ahead 71 = .ok (.getfield 45, 3) := by decide +kernel
theorem dX5_ahead_74 : decode cX5_ahead 74 = .ok (.aload_n 0, 1) := by decide +kernel
theorem dX5_ahead_75 : decode cX5_ahead 75 = .ok (.getfield 56, 3) := by decide +kernel
theorem dX5_ahead_78 : decode cX5_ahead 78 = .ok (.iload_n 2, 1) := by decide +kernel
theorem dX5_ahead_79 : decode cX5_ahead 79 = .ok (.iadd, 1) := by decide +kernel
theorem dX5_ahead_80 : decode cX5_ahead 80 = .ok (.invokevirtual 152, 3) := by decide +kernel
theorem dX5_ahead_83 : decode cX5_ahead 83 = .ok (.pop, 1) := by decide +kernel
theorem dX5_ahead_84 : decode cX5_ahead 84 = .ok (.aload_n 0, 1) := by decide +kernel
theorem dX5_ahead_85 : decode cX5_ahead 85 = .ok (.getfield 32, 3) := by decide +kernel
theorem dX5_ahead_88 : decode cX5_ahead 88 = .ok (.aload_n 0, 1) := by decide +kernel
theorem dX5_ahead_89 : decode cX5_ahead 89 = .ok (.getfield 45, 3) := by decide +kernel
theorem dX5_ahead_92 : decode cX5_ahead 92 = .ok (.aload_n 0, 1) := by decide +kernel
theorem dX5_ahead_93 : decode cX5_ahead 93 = .ok (.getfield 56, 3) := by decide +kernel
theorem dX5_ahead_96 : decode cX5_ahead 96 = .ok (.iload_n 2, 1) := by decide +kernel
theorem dX5_ahead_97 : decode cX5_ahead 97 = .ok (.iadd, 1) := by decide +kernel
theorem dX5_ahead_98 : decode cX5_ahead 98 = .ok (.invokevirtual 212, 3) := by decide +kernel
theorem dX5_ahead_101 : decode cX5_ahead 101 = .ok (.pop, 1) := by decide +kernel
theorem dX5_ahead_102 : decode cX5_ahead 102 = .ok (.iinc 2 1, 3) := by decide +kernel
theorem dX5_ahead_105 : decode cX5_ahead 105 = .ok (.goto (-44), 3) := by decide +kernel
theorem dX5_ahead_108 : decode cX5_ahead 108 = .ok (.aload_n 0, 1) := by decide +kernel
theorem dX5_ahead_109 : decode cX5_ahead 109 = .ok (.getfield 32, 3) := by decide +kernel
theorem dX5_ahead_112 : decode cX5_ahead 112 = .ok (.aload_n 0, 1) := by decide +kernel
theorem dX5_ahead_113 : decode cX5_ahead 113 = .ok (.getfield 45, 3) := by decide +kernel
theorem dX5_ahead_116 : decode cX5_ahead 116 = .ok (.aload_n 0, 1) := by decide +kernel
theorem dX5_ahead_117 : decode cX5_ahead 117 = .ok (.getfield 56, 3) := by decide +kernel
theorem dX5_ahead_120 : decode cX5_ahead 120 = .ok (.iload_n 1, 1) := by decide +kernel
theorem dX5_ahead_121 : decode cX5_ahead 121 = .ok (.iadd, 1) := by decide +kernel
theorem dX5_ahead_122 : decode cX5_ahead 122 = .ok (.invokevirtual 152, 3) := by decide +kernel
theorem dX5_ahead_125 : decode cX5_ahead 125 = .ok (.ireturn, 1) := by decide +kernel
theorem dX5_count_0 : decode cX5_count 0 = .ok (.iload_n 1, 1) := by decide +kernel
theorem dX5_count_1 : decode cX5_count 1 = .ok (.tableswitch 89 0 5 #[39, 47, 55, 60, 76, 84], 39) := by decide +kernel
theorem dX5_count_40 : decode cX5_count 40 = .ok (.aload_n 0, 1) := by decide +kernel
theorem dX5_count_41 : decode cX5_count 41 = .ok (.getfield 28, 3) := by decide +kernel
theorem dX5_count_44 : decode cX5_count 44 = .ok (.invokevirtual 230, 3) := by decide +kernel
theorem dX5_count_47 : decode cX5_count 47 = .ok (.ireturn, 1) := by decide +kernel
theorem dX5_count_48 : decode cX5_count 48 = .ok (.aload_n 0, 1) := by decide +kernel
theorem dX5_count_49 : decode cX5_count 49 = .ok (.getfield 45, 3) := by decide +kernel
theorem dX5_count_52 : decode cX5_count 52 = .ok (.invokevirtual 85, 3) := by decide +kernel
theorem dX5_count_55 : decode cX5_count 55 = .ok (.ireturn, 1) := by decide +kernel
theorem dX5_count_56 : decode cX5_count 56 = .ok (.aload_n 0, 1) := by decide +kernel
theorem dX5_count_57 : decode cX5_count 57 = .ok (.getfield 56, 3) := by decide +kernel
theorem dX5_count_60 : decode cX5_count 60 = .ok (.ireturn, 1) := by decide +kernel
theorem dX5_count_61 : decode cX5_count 61 = .ok (.aload_n 0, 1) := by decide +kernel
theorem dX5_count_62 : decode cX5_count 62 = .ok (.getfield 52, 3) := by decide +kernel
theorem dX5_count_65 : decode cX5_count 65 = .ok (.ifCond .eq 10, 3) := by decide +kernel
theorem dX5_count_68 : decode cX5_count 68 = .ok (.aload_n 0, 1) := by decide +kernel
theorem dX5_count_69 : decode cX5_count 69 = .ok (.getfield 60, 3) := by decide +kernel
theorem dX5_count_72 : decode cX5_count 72 = .ok (.goto 4, 3) := by decide +kernel
theorem dX5_count_75 : decode cX5_count 75 = .ok (.iconst (-1), 1) := by decide +kernel
theorem dX5_count_76 : decode cX5_count 76 = .ok (.ireturn, 1) := by decide +kernel
theorem dX5_count_77 : decode cX5_count 77 = .ok (.aload_n 0, 1) := by decide +kernel
theorem dX5_count_78 : decode cX5_count 78 = .ok (.getfield 38, 3) := by decide +kernel
theorem dX5_count_81 : decode cX5_count 81 = .ok (.invokevirtual 233, 3) := by decide +kernel
theorem dX5_count_84 : decode cX5_count 84 = .ok (.ireturn, 1) := by decide +kernel
theorem dX5_count_85 : decode cX5_count 85 = .ok (.aload_n 0, 1) := by decide +kernel
theorem dX5_count_86 : decode cX5_count 86 = .ok (.getfield 63, 3) := by decide +kernel
theorem dX5_count_89 : decode cX5_count 89 = .ok (.ireturn, 1) := by decide +kernel
theorem dX5_count_90 : decode cX5_count 90 = .ok (.iconst (-1), 1) := by decide +kernel
theorem dX5_count_91 : decode cX5_count 91 = .ok (.ireturn, 1) := by decide +kernel
theorem dX5_areCoins_0 : decode cX5_areCoins 0 = .ok (.iload_n 0, 1) := by decide +kernel
theorem dX5_areCoins_1 : decode cX5_areCoins 1 = .ok (.ifCond .lt 13, 3) := by decide +kernel
theorem dX5_areCoins_4 : decode cX5_areCoins 4 = .ok (.iload_n 0, 1) := by decide +kernel
theorem dX5_areCoins_5 : decode cX5_areCoins 5 = .ok (.ldc 234, 2) := by decide +kernel
theorem dX5_areCoins_7 : decode cX5_areCoins 7 = .ok (.if_icmp .gt 7, 3) := by decide +kernel
theorem dX5_areCoins_10 : decode cX5_areCoins 10 = .ok (.iconst 1, 1) := by decide +kernel
theorem dX5_areCoins_11 : decode cX5_areCoins 11 = .ok (.goto 4, 3) := by decide +kernel
theorem dX5_areCoins_14 : decode cX5_areCoins 14 = .ok (.iconst 0, 1) := by decide +kernel
theorem dX5_areCoins_15 : decode cX5_areCoins 15 = .ok (.ireturn, 1) := by decide +kernel
theorem dX5_isFitNow_0 : decode cX5_isFitNow 0 = .ok (.aload_n 0, 1) := by decide +kernel
theorem dX5_isFitNow_1 : decode cX5_isFitNow 1 = .ok (.getfield 52, 3) := by decide +kernel
theorem dX5_isFitNow_4 : decode cX5_isFitNow 4 = .ok (.ifCond .eq 28, 3) := by decide +kernel
theorem dX5_isFitNow_7 : decode cX5_isFitNow 7 = .ok (.aload_n 0, 1) := by decide +kernel
theorem dX5_isFitNow_8 : decode cX5_isFitNow 8 = .ok (.getfield 28, 3) := by decide +kernel
theorem dX5_isFitNow_11 : decode cX5_isFitNow 11 = .ok (.iload_n 1, 1) := by decide +kernel
theorem dX5_isFitNow_12 : decode cX5_isFitNow 12 = .ok (.aload_n 0, 1) := by decide +kernel
theorem dX5_isFitNow_13 : decode cX5_isFitNow 13 = .ok (.getfield 45, 3) := by decide +kernel
theorem dX5_isFitNow_16 : decode cX5_isFitNow 16 = .ok (.aload_n 0, 1) := by decide +kernel
theorem dX5_isFitNow_17 : decode cX5_isFitNow 17 = .ok (.getfield 56, 3) := by decide +kernel
theorem dX5_isFitNow_20 : decode cX5_isFitNow 20 = .ok (.iconst 1, 1) := by decide +kernel
theorem dX5_isFitNow_21 : decode cX5_isFitNow 21 = .ok (.isub, 1) := by decide +kernel
theorem dX5_isFitNow_22 : decode cX5_isFitNow 22 = .ok (.invokevirtual 235, 3) := by decide +kernel
theorem dX5_isFitNow_25 : decode cX5_isFitNow 25 = .ok (.ifCond .eq 7, 3) := by decide +kernel
theorem dX5_isFitNow_28 : decode cX5_isFitNow 28 = .ok (.iconst 1, 1) := by decide +kernel
theorem dX5_isFitNow_29 : decode cX5_isFitNow 29 = .ok (.goto 4, 3) := by decide +kernel
theorem dX5_isFitNow_32 : decode cX5_isFitNow 32 = .ok (.iconst 0, 1) := by decide +kernel
theorem dX5_isFitNow_33 : decode cX5_isFitNow 33 = .ok (.ireturn, 1) := by decide +kernel
theorem dX6_init_0 : decode cX6_init 0 = .ok (.aload_n 0, 1) := by decide +kernel
theorem dX6_init_1 : decode cX6_init 1 = .ok (.invokespecial 1, 3) := by decide +kernel
theorem dX6_init_4 : decode cX6_init 4 = .ok (.aload_n 0, 1) := by decide +kernel
theorem dX6_init_5 : decode cX6_init 5 = .ok (.sipush 600, 3) := by decide +kernel
theorem dX6_init_8 : decode cX6_init 8 = .ok (.newarray .int, 2) := by decide +kernel
theorem dX6_init_10 : decode cX6_init 10 = .ok (.putfield 7, 3) := by decide +kernel
theorem dX6_init_13 : decode cX6_init 13 = .ok (.aload_n 0, 1) := by decide +kernel
theorem dX6_init_14 : decode cX6_init 14 = .ok (.bipush 12, 2) := by decide +kernel
theorem dX6_init_16 : decode cX6_init 16 = .ok (.newarray .int, 2) := by decide +kernel
theorem dX6_init_18 : decode cX6_init 18 = .ok (.putfield 13, 3) := by decide +kernel
theorem dX6_init_21 : decode cX6_init 21 = .ok (.aload_n 0, 1) := by decide +kernel
theorem dX6_init_22 : decode cX6_init 22 = .ok (.bipush 12, 2) := by decide +kernel
theorem dX6_init_24 : decode cX6_init 24 = .ok (.newarray .int, 2) := by decide +kernel
theorem dX6_init_26 : decode cX6_init 26 = .ok (.putfield 16, 3) := by decide +kernel
theorem dX6_init_29 : decode cX6_init 29 = .ok (.aload_n 0, 1) := by decide +kernel
theorem dX6_init_30 : decode cX6_init 30 = .ok (.bipush 8, 2) := by decide +kernel
theorem dX6_init_32 : decode cX6_init 32 = .ok (.newarray .int, 2) := by decide +kernel
theorem dX6_init_34 : decode cX6_init 34 = .ok (.putfield 19, 3) := by decide +kernel
theorem dX6_init_37 : decode cX6_init 37 = .ok (.aload_n 0, 1) := by decide +kernel
theorem dX6_init_38 : decode cX6_init 38 = .ok (.bipush 24, 2) := by decide +kernel
theorem dX6_init_40 : decode cX6_init 40 = .ok (.newarray .int, 2) := by decide +kernel
theorem dX6_init_42 : decode cX6_init 42 = .ok (.putfield 22, 3) := by decide +kernel
theorem dX6_init_45 : decode cX6_init 45 = .ok (.aload_n 0, 1) := by decide +kernel
theorem dX6_init_46 : decode cX6_init 46 = .ok (.iconst (-1), 1) := by decide +kernel
theorem dX6_init_47 : decode cX6_init 47 = .ok (.putfield 25, 3) := by decide +kernel
theorem dX6_init_50 : decode cX6_init 50 = .ok (.aload_n 0, 1) := by decide +kernel
theorem dX6_init_51 : decode cX6_init 51 = .ok (.bipush 24, 2) := by decide +kernel
theorem dX6_init_53 : decode cX6_init 53 = .ok (.newarray .int, 2) := by decide +kernel
theorem dX6_init_55 : decode cX6_init 55 = .ok (.putfield 29, 3) := by decide +kernel
theorem dX6_init_58 : decode cX6_init 58 = .ok (.aload_n 0, 1) := by decide +kernel
theorem dX6_init_59 : decode cX6_init 59 = .ok (.bipush 24, 2) := by decide +kernel
theorem dX6_init_61 : decode cX6_init 61 = .ok (.newarray .int, 2) := by decide +kernel
theorem dX6_init_63 : decode cX6_init 63 = .ok (.putfield 32, 3) := by decide +kernel
theorem dX6_init_66 : decode cX6_init 66 = .ok (.aload_n 0, 1) := by decide +kernel
theorem dX6_init_67 : decode cX6_init 67 = .ok (.bipush 24, 2) := by decide +kernel
theorem dX6_init_69 : decode cX6_init 69 = .ok (.newarray .int, 2) := by decide +kernel
theorem dX6_init_71 : decode cX6_init 71 = .ok (.putfield 35, 3) := by decide +kernel
theorem dX6_init_74 : decode cX6_init 74 = .ok (.aload_n 0, 1) := by decide +kernel
theorem dX6_init_75 : decode cX6_init 75 = .ok (.bipush 12, 2) := by decide +kernel
theorem dX6_init_77 : decode cX6_init 77 = .ok (.newarray .int, 2) := by decide +kernel
theorem dX6_init_79 : decode cX6_init 79 = .ok (.putfield 38, 3) := by decide +kernel
theorem dX6_init_82 : decode cX6_init 82 = .ok (.aload_n 0, 1) := by decide +kernel
theorem dX6_init_83 : decode cX6_init 83 = .ok (.bipush 48, 2) := by decide +kernel
theorem dX6_init_85 : decode cX6_init 85 = .ok (.newarray .int, 2) := by decide +kernel
theorem dX6_init_87 : decode cX6_init 87 = .ok (.putfield 41, 3) := by decide +kernel
theorem dX6_init_90 : decode cX6_init 90 = .ok (.aload_n 0, 1) := by decide +kernel
theorem dX6_init_91 : decode cX6_init 91 = .ok (.sipush 288, 3) := by decide +kernel
theorem dX6_init_94 : decode cX6_init 94 = .ok (.newarray .boolean, 2) := by decide +kernel
theorem dX6_init_96 : decode cX6_init 96 = .ok (.putfield 44, 3) := by decide +kernel
theorem dX6_init_99 : decode cX6_init 99 = .ok (.aload_n 0, 1) := by decide +kernel
theorem dX6_init_100 : decode cX6_init 100 = .ok (.bipush 40, 2) := by decide +kernel
theorem dX6_init_102 : decode cX6_init 102 = .ok (.newarray .int, 2) := by decide +kernel
theorem dX6_init_104 : decode cX6_init 104 = .ok (.putfield 48, 3) := by decide +kernel
theorem dX6_init_107 : decode cX6_init 107 = .ok (.aload_n 0, 1) := by decide +kernel
theorem dX6_init_108 : decode cX6_init 108 = .ok (.bipush 40, 2) := by decide +kernel
theorem dX6_init_110 : decode cX6_init 110 = .ok (.newarray .int, 2) := by decide +kernel
theorem dX6_init_112 : decode cX6_init 112 = .ok (.putfield 51, 3) := by decide +kernel
theorem dX6_init_115 : decode cX6_init 115 = .ok (.aload_n 0, 1) := by decide +kernel
theorem dX6_init_116 : decode cX6_init 116 = .ok (.bipush 40, 2) := by decide +kernel
theorem dX6_init_118 : decode cX6_init 118 = .ok (.newarray .int, 2) := by decide +kernel
theorem dX6_init_120 : decode cX6_init 120 = .ok (.putfield 54, 3) := by decide +kernel
theorem dX6_init_123 : decode cX6_init 123 = .ok (.aload_n 0, 1) := by decide +kernel
theorem dX6_init_124 : decode cX6_init 124 = .ok (.bipush 40, 2) := by decide +kernel
theorem dX6_init_126 : decode cX6_init 126 = .ok (.newarray .int, 2) := by decide +kernel
theorem dX6_init_128 : decode cX6_init 128 = .ok (.putfield 57, 3) := by decide +kernel
theorem dX6_init_131 : decode cX6_init 131 = .ok (.aload_n 0, 1) := by decide +kernel
end
section
theorem dX6_init_132 : decode cX6_init 132 = .ok (.bipush 40, 2) := by decide +kernel
theorem dX6_init_134 : decode cX6_init 134 = .ok (.newarray .int, 2) := by decide +kernel
theorem dX6_init_136 : decode cX6_init 136 = .ok (.putfield 60, 3) := by decide +kernel
theorem dX6_init_139 : decode cX6_init 139 = .ok (.aload_n 0, 1) := by decide +kernel
theorem dX6_init_140 : decode cX6_init 140 = .ok (.bipush 40, 2) := by decide +kernel
theorem dX6_init_142 : decode cX6_init 142 = .ok (.newarray .int, 2) := by decide +kernel
theorem dX6_init_144 : decode cX6_init 144 = .ok (.putfield 63, 3) := by decide +kernel
theorem dX6_init_147 : decode cX6_init 147 = .ok (.aload_n 0, 1) := by decide +kernel
theorem dX6_init_148 : decode cX6_init 148 = .ok (.bipush 40, 2) := by decide +kernel
theorem dX6_init_150 : decode cX6_init 150 = .ok (.newarray .boolean, 2) := by decide +kernel
theorem dX6_init_152 : decode cX6_init 152 = .ok (.putfield 66, 3) := by decide +kernel
theorem dX6_init_155 : decode cX6_init 155 = .ok (.aload_n 0, 1) := by decide +kernel
theorem dX6_init_156 : decode cX6_init 156 = .ok (.bipush 40, 2) := by decide +kernel
theorem dX6_init_158 : decode cX6_init 158 = .ok (.newarray .boolean, 2) := by decide +kernel
theorem dX6_init_160 : decode cX6_init 160 = .ok (.putfield 69, 3) := by decide +kernel
theorem dX6_init_163 : decode cX6_init 163 = .ok (.aload_n 0, 1) := by decide +kernel
theorem dX6_init_164 : decode cX6_init 164 = .ok (.bipush 42, 2) := by decide +kernel
theorem dX6_init_166 : decode cX6_init 166 = .ok (.newarray .int, 2) := by decide +kernel
theorem dX6_init_168 : decode cX6_init 168 = .ok (.dup, 1) := by decide +kernel
theorem dX6_init_169 : decode cX6_init 169 = .ok (.iconst 0, 1) := by decide +kernel
theorem dX6_init_170 : decode cX6_init 170 = .ok (.bipush 102, 2) := by decide +kernel
theorem dX6_init_172 : decode cX6_init 172 = .ok (.iastore, 1) := by decide +kernel
theorem dX6_init_173 : decode cX6_init 173 = .ok (.dup, 1) := by decide +kernel
theorem dX6_init_174 : decode cX6_init 174 = .ok (.iconst 1, 1) := by decide +kernel
theorem dX6_init_175 : decode cX6_init 175 = .ok (.bipush 114, 2) := by decide +kernel
theorem dX6_init_177 : decode cX6_init 177 = .ok (.iastore, 1) := by decide +kernel
theorem dX6_init_178 : decode cX6_init 178 = .ok (.dup, 1) := by decide +kernel
theorem dX6_init_179 : decode cX6_init 179 = .ok (.iconst 2, 1) := by decide +kernel
theorem dX6_init_180 : decode cX6_init 180 = .ok (.bipush 101, 2) := by decide +kernel
theorem dX6_init_182 : decode cX6_init 182 = .ok (.iastore, 1) := by decide +kernel
theorem dX6_init_183 : decode cX6_init 183 = .ok (.dup, 1) := by decide +kernel
theorem dX6_init_184 : decode cX6_init 184 = .ok (.iconst 3, 1) := by decide +kernel
theorem dX6_init_185 : decode cX6_init 185 = .ok (.bipush 101, 2) := by decide +kernel
theorem dX6_init_187 : decode cX6_init 187 = .ok (.iastore, 1) := by decide +kernel
theorem dX6_init_188 : decode cX6_init 188 = .ok (.dup, 1) := by decide +kernel
theorem dX6_init_189 : decode cX6_init 189 = .ok (.iconst 4, 1) := by decide +kernel
theorem dX6_init_190 : decode cX6_init 190 = .ok (.bipush 32, 2) := by decide +kernel
theorem dX6_init_192 : decode cX6_init 192 = .ok (.iastore, 1) := by decide +kernel
theorem dX6_init_193 : decode cX6_init 193 = .ok (.dup, 1) := by decide +kernel
theorem dX6_init_194 : decode cX6_init 194 = .ok (.iconst 5, 1) := by decide +kernel
theorem dX6_init_195 : decode cX6_init 195 = .ok (.bipush 102, 2) := by decide +kernel
theorem dX6_init_197 : decode cX6_init 197 = .ok (.iastore, 1) := by decide +kernel
theorem dX6_init_198 : decode cX6_init 198 = .ok (.dup, 1) := by decide +kernel
theorem dX6_init_199 : decode cX6_init 199 = .ok (.bipush 6, 2) := by decide +kernel
theorem dX6_init_201 : decode cX6_init 201 = .ok (.bipush 108, 2) := by decide +kernel
theorem dX6_init_203 : decode cX6_init 203 = .ok (.iastore, 1) := by decide +kernel
theorem dX6_init_204 : decode cX6_init 204 = .ok (.dup, 1) := by decide +kernel
theorem dX6_init_205 : decode cX6_init 205 = .ok (.bipush 7, 2) := by decide +kernel
theorem dX6_init_207 : decode cX6_init 207 = .ok (.bipush 111, 2) := by decide +kernel
theorem dX6_init_209 : decode cX6_init 209 = .ok (.iastore, 1) := by decide +kernel
theorem dX6_init_210 : decode cX6_init 210 = .ok (.dup, 1) := by decide +kernel
theorem dX6_init_211 : decode cX6_init 211 = .ok (.bipush 8, 2) := by decide +kernel
theorem dX6_init_213 : decode cX6_init 213 = .ok (.bipush 111, 2) := by decide +kernel
theorem dX6_init_215 : decode cX6_init 215 = .ok (.iastore, 1) := by decide +kernel
theorem dX6_init_216 : decode cX6_init 216 = .ok (.dup, 1) := by decide +kernel
theorem dX6_init_217 : decode cX6_init 217 = .ok (.bipush 9, 2) := by decide +kernel
theorem dX6_init_219 : decode cX6_init 219 = .ok (.bipush 114, 2) := by decide +kernel
theorem dX6_init_221 : decode cX6_init 221 = .ok (.iastore, 1) := by decide +kernel
theorem dX6_init_222 : decode cX6_init 222 = .ok (.dup, 1) := by decide +kernel
theorem dX6_init_223 : decode cX6_init 223 = .ok (.bipush 10, 2) := by decide +kernel
theorem dX6_init_225 : decode cX6_init 225 = .ok (.bipush 32, 2) := by decide +kernel
theorem dX6_init_227 : decode cX6_init 227 = .ok (.iastore, 1) := by decide +kernel
theorem dX6_init_228 : decode cX6_init 228 = .ok (.dup, 1) := by decide +kernel
theorem dX6_init_229 : decode cX6_init 229 = .ok (.bipush 11, 2) := by decide +kernel
theorem dX6_init_231 : decode cX6_init 231 = .ok (.bipush 97, 2) := by decide +kernel
theorem dX6_init_233 : decode cX6_init 233 = .ok (.iastore, 1) := by decide +kernel
theorem dX6_init_234 : decode cX6_init 234 = .ok (.dup, 1) := by decide +kernel
theorem dX6_init_235 : decode cX6_init 235 = .ok (.bipush 12, 2) := by decide +kernel
theorem dX6_init_237 : decode cX6_init 237 = .ok (.bipush 110, 2) := by decide +kernel
theorem dX6_init_239 : decode cX6_init 239 = .ok (.iastore, 1) := by decide +kernel
theorem dX6_init_240 : decode cX6_init 240 = .ok (.dup, 1) := by decide +kernel
theorem dX6_init_241 : decode cX6_init 241 = .ok (.bipush 13, 2) := by decide +kernel
theorem dX6_init_243 : decode cX6_init 243 = .ok (.bipush 115, 2) := by decide +kernel
theorem dX6_init_245 : decode cX6_init 245 = .ok (.iastore, 1) := by decide +kernel
theorem dX6_init_246 : decode cX6_init 246 = .ok (.dup, 1) := by decide +kernel
theorem dX6_init_247 : decode cX6_init 247 = .ok (.bipush 14, 2) := by decide +kernel
theorem dX6_init_249 : decode cX6_init 249 = .ok (.bipush 119, 2) := by decide +kernel
theorem dX6_init_251 : decode cX6_init 251 = .ok (.iastore, 1) := by decide +kernel
theorem dX6_init_252 : decode cX6_init 252 = .ok (.dup, 1) := by decide +kernel
theorem dX6_init_253 : decode cX6_init 253 = .ok (.bipush 15, 2) := by decide +kernel
theorem dX6_init_255 : decode cX6_init 255 = .ok (.bipush 101, 2) := by decide +kernel
theorem dX6_init_257 : decode cX6_init 257 = .ok (.iastore, 1) := by decide +kernel
theorem dX6_init_258 : decode cX6_init 258 = .ok (.dup, 1) := by decide +kernel
theorem dX6_init_259 : decode cX6_init 259 = .ok (.bipush 16, 2) := by decide +kernel
theorem dX6_init_261 : decode cX6_init 261 = .ok (.bipush 114, 2) := by decide +kernel
theorem dX6_init_263 : decode cX6_init 263 = .ok (.iastore, 1) := by decide +kernel
theorem dX6_init_264 : decode cX6_init 264 = .ok (.dup, 1) := by decide +kernel
theorem dX6_init_265 : decode cX6_init 265 = .ok (.bipush 17, 2) := by decide +kernel
theorem dX6_init_267 : decode cX6_init 267 = .ok (.bipush 32, 2) := by decide +kernel
theorem dX6_init_269 : decode cX6_init 269 = .ok (.iastore, 1) := by decide +kernel
theorem dX6_init_270 : decode cX6_init 270 = .ok (.dup, 1) := by decide +kernel
theorem dX6_init_271 : decode cX6_init 271 = .ok (.bipush 18, 2) := by decide +kernel
theorem dX6_init_273 : decode cX6_init 273 = .ok (.bipush 115, 2) := by decide +kernel
theorem dX6_init_275 : decode cX6_init 275 = .ok (.iastore, 1) := by decide +kernel
theorem dX6_init_276 : decode cX6_init 276 = .ok (.dup, 1) := by decide +kernel
theorem dX6_init_277 : decode cX6_init 277 = .ok (.bipush 19, 2) := by decide +kernel
theorem dX6_init_279 : decode cX6_init 279 = .ok (.bipush 119, 2) := by decide +kernel
theorem dX6_init_281 : decode cX6_init 281 = .ok (.iastore, 1) := by decide +kernel
theorem dX6_init_282 : decode cX6_init 282 = .ok (.dup, 1) := by decide +kernel
theorem dX6_init_283 : decode cX6_init 283 = .ok (.bipush 20, 2) := by decide +kernel
theorem dX6_init_285 : decode cX6_init 285 = .ok (.bipush 101, 2) := by decide +kernel
theorem dX6_init_287 : decode cX6_init 287 = .ok (.iastore, 1) := by decide +kernel
theorem dX6_init_288 : decode cX6_init 288 = .ok (.dup, 1) := by decide +kernel
theorem dX6_init_289 : decode cX6_init 289 = .ok (.bipush 21, 2) := by decide +kernel
theorem dX6_init_291 : decode cX6_init 291 = .ok (.bipush 97, 2) := by decide +kernel
theorem dX6_init_293 : decode cX6_init 293 = .ok (.iastore, 1) := by decide +kernel
theorem dX6_init_294 : decode cX6_init 294 = .ok (.dup, 1) := by decide +kernel
theorem dX6_init_295 : decode cX6_init 295 = .ok (.bipush 22, 2) := by decide +kernel
theorem dX6_init_297 : decode cX6_init 297 = .ok (.bipush 114, 2) := by decide +kernel
theorem dX6_init_299 : decode cX6_init 299 = .ok (.iastore, 1) := by decide +kernel
theorem dX6_init_300 : decode cX6_init 300 = .ok (.dup, 1) := by decide +kernel
theorem dX6_init_301 : decode cX6_init 301 = .ok (.bipush 23, 2) := by decide +kernel
theorem dX6_init_303 : decode cX6_init 303 = .ok (.bipush 32, 2) := by decide +kernel
theorem dX6_init_305 : decode cX6_init 305 = .ok (.iastore, 1) := by decide +kernel
theorem dX6_init_306 : decode cX6_init 306 = .ok (.dup, 1) := by decide +kernel
theorem dX6_init_307 : decode cX6_init 307 = .ok (.bipush 24, 2) := by decide +kernel
theorem dX6_init_309 : decode cX6_init 309 = .ok (.bipush 98, 2) := by decide +kernel
theorem dX6_init_311 : decode cX6_init 311 = .ok (.iastore, 1) := by decide +kernel
theorem dX6_init_312 : decode cX6_init 312 = .ok (.dup, 1) := by decide +kernel
theorem dX6_init_313 : decode cX6_init 313 = .ok (.bipush 25, 2) := by decide +kernel
theorem dX6_init_315 : decode cX6_init 315 = .ok (.bipush 117, 2) := by decide +kernel
theorem dX6_init_317 : decode cX6_init 317 = .ok (.iastore, 1) := by decide +kernel
theorem dX6_init_318 : decode cX6_init 318 = .ok (.dup, 1) := by decide +kernel
theorem dX6_init_319 : decode cX6_init 319 = .ok (.bipush 26, 2) := by decide +kernel
theorem dX6_init_321 : decode cX6_init 321 = .ok (.bipush 114, 2) := by decide +kernel
theorem dX6_init_323 : decode cX6_init 323 = .ok (.iastore, 1) := by decide +kernel
theorem dX6_init_324 : decode cX6_init 324 = .ok (.dup, 1) := by decide +kernel
theorem dX6_init_325 : decode cX6_init 325 = .ok (.bipush 27, 2) := by decide +kernel
theorem dX6_init_327 : decode cX6_init 327 = .ok (.bipush 100, 2) := by decide +kernel
theorem dX6_init_329 : decode cX6_init 329 = .ok (.iastore, 1) := by decide +kernel
theorem dX6_init_330 : decode cX6_init 330 = .ok (.dup, 1) := by decide +kernel
theorem dX6_init_331 : decode cX6_init 331 = .ok (.bipush 28, 2) := by decide +kernel
theorem dX6_init_333 : decode cX6_init 333 = .ok (.bipush 101, 2) := by decide +kernel
theorem dX6_init_335 : decode cX6_init 335 = .ok (.iastore, 1) := by decide +kernel
theorem dX6_init_336 : decode cX6_init 336 = .ok (.dup, 1) := by decide +kernel
theorem dX6_init_337 : decode cX6_init 337 = .ok (.bipush 29, 2) := by decide +kernel
theorem dX6_init_339 : decode cX6_init 339 = .ok (.bipush 110, 2) := by decide +kernel
theorem dX6_init_341 : decode cX6_init 341 = .ok (.iastore, 1) := by decide +kernel
theorem dX6_init_342 : decode cX6_init 342 = .ok (.dup, 1) := by decide +kernel
theorem dX6_init_343 : decode cX6_init 343 = .ok (.bipush 30, 2) := by decide +kernel
theorem dX6_init_345 : decode cX6_init 345 = .ok (.bipush 32, 2) := by decide +kernel
theorem dX6_init_347 : decode cX6_init 347 = .ok (.iastore, 1) := by decide +kernel
theorem dX6_init_348 : decode cX6_init 348 = .ok (.dup, 1) := by decide +kernel
theorem dX6_init_349 : decode cX6_init 349 = .ok (.bipush 31, 2) := by decide +kernel
theorem dX6_init_351 : decode cX6_init 351 = .ok (.bipush 99, 2) := by decide +kernel
theorem dX6_init_353 : decode cX6_init 353 = .ok (.iastore, 1) := by decide +kernel
theorem dX6_init_354 : decode cX6_init 354 = .ok (.dup, 1) := by decide +kernel
theorem dX6_init_355 : decode cX6_init 355 = .ok (.bipush 32, 2) := by decide +kernel
theorem dX6_init_357 : decode cX6_init 357 = .ok (.bipush 111, 2) := by decide +kernel
theorem dX6_init_359 : decode cX6_init 359 = .ok (.iastore, 1) := by decide +kernel
theorem dX6_init_360 : decode cX6_init 360 = .ok (.dup, 1) := by decide +kernel
theorem dX6_init_361 : decode cX6_init 361 = .ok (.bipush 33, 2) := by decide +kernel
theorem dX6_init_363 : decode cX6_init 363 = .ok (.bipush 115, 2) := by decide +kernel
theorem dX6_init_365 : decode cX6_init 365 = .ok (.iastore, 1) := by decide +kernel
theorem dX6_init_366 : decode cX6_init 366 = .ok (.dup, 1) := by decide +kernel
theorem dX6_init_367 : decode cX6_init 367 = .ok (.bipush 34, 2) := by decide +kernel
theorem dX6_init_369 : decode cX6_init 369 = .ok (.bipush 116, 2) := by decide +kernel
theorem dX6_init_371 : decode cX6_init 371 = .ok (.iastore, 1) := by decide +kernel
theorem dX6_init_372 : decode cX6_init 372 = .ok (.dup, 1) := by decide +kernel
theorem dX6_init_373 : decode cX6_init 373 = .ok (.bipush 35, 2) := by decide +kernel
theorem dX6_init_375 : decode cX6_init 375 = .ok (.bipush 32, 2) := by decide +kernel
theorem dX6_init_377 : decode cX6_init 377 = .ok (.iastore, 1) := by decide +kernel
theorem dX6_init_378 : decode cX6_init 378 = .ok (.dup, 1) := by decide +kernel
theorem dX6_init_379 : decode cX6_init 379 = .ok (.bipush 36, 2) := by decide +kernel
theorem dX6_init_381 : decode cX6_init 381 = .ok (.bipush 115, 2) := by decide +kernel
theorem dX6_init_383 : decode cX6_init 383 = .ok (.iastore, 1) := by decide +kernel
theorem dX6_init_384 : decode cX6_init 384 = .ok (.dup, 1) := by decide +kernel
theorem dX6_init_385 : decode cX6_init 385 = .ok (.bipush 37, 2) := by decide +kernel
theorem dX6_init_387 : decode cX6_init 387 = .ok (.bipush 104, 2) := by decide +kernel
theorem dX6_init_389 : decode cX6_init 389 = .ok (.iastore, 1) := by decide +kernel
theorem dX6_init_390 : decode cX6_init 390 = .ok (.dup, 1) := by decide +kernel
theorem dX6_init_391 : decode cX6_init 391 = .ok (.bipush 38, 2) := by decide +kernel
theorem dX6_init_393 : decode cX6_init 393 = .ok (.bipush 97, 2) := by decide +kernel
theorem dX6_init_395 : decode cX6_init 395 = .ok (.iastore, 1) := by decide +kernel
theorem dX6_init_396 : decode cX6_init 396 = .ok (.dup, 1) := by decide +kernel
theorem dX6_init_397 : decode cX6_init 397 = .ok (.bipush 39, 2) := by decide +kernel
theorem dX6_init_399 : decode cX6_init 399 = .ok (.bipush 114, 2) := by decide +kernel
theorem dX6_init_401 : decode cX6_init 401 = .ok (.iastore, 1) := by decide +kernel
theorem dX6_init_402 : decode cX6_init 402 = .ok (.dup, 1) := by decide +kernel
theorem dX6_init_403 : decode cX6_init 403 = .ok (.bipush 40, 2) := by decide +kernel
theorem dX6_init_405 : decode cX6_init 405 = .ok (.bipush 101, 2) := by decide +kernel
theorem dX6_init_407 : decode cX6_init 407 = .ok (.iastore, 1) := by decide +kernel
theorem dX6_init_408 : decode cX6_init 408 = .ok (.dup, 1) := by decide +kernel
theorem dX6_init_409 : decode cX6_init 409 = .ok (.bipush 41, 2) := by decide +kernel
theorem dX6_init_411 : decode cX6_init 411 = .ok (.bipush 32, 2) := by decide +kernel
theorem dX6_init_413 : decode cX6_init 413 = .ok (.iastore, 1) := by decide +kernel
theorem dX6_init_414 : decode cX6_init 414 = .ok (.putfield 72, 3) := by decide +kernel
theorem dX6_init_417 : decode cX6_init 417 = .ok (.return_, 1) := by decide +kernel
theorem dX6_thrown_0 : decode cX6_thrown 0 = .ok (.aload_n 0, 1) := by decide +kernel
theorem dX6_thrown_1 : decode cX6_thrown 1 = .ok (.getfield 75, 3) := by decide +kernel
theorem dX6_thrown_4 : decode cX6_thrown 4 = .ok (.ireturn, 1) := by decide +kernel
theorem dX6_feed_0 : decode cX6_feed 0 = .ok (.aload_n 0, 1) := by decide +kernel
theorem dX6_feed_1 : decode cX6_feed 1 = .ok (.iconst 0, 1) := by decide +kernel
theorem dX6_feed_2 : decode cX6_feed 2 = .ok (.putfield 75, 3) := by decide +kernel
theorem dX6_feed_5 : decode cX6_feed 5 = .ok (.aload_n 0, 1) := by decide +kernel
theorem dX6_feed_6 : decode cX6_feed 6 = .ok (.getfield 78, 3) := by decide +kernel
theorem dX6_feed_9 : decode cX6_feed 9 = .ok (.bipush 20, 2) := by decide +kernel
theorem dX6_feed_11 : decode cX6_feed 11 = .ok (.iadd, 1) := by decide +kernel
theorem dX6_feed_12 : decode cX6_feed 12 = .ok (.sipush 600, 3) := by decide +kernel
theorem dX6_feed_15 : decode cX6_feed 15 = .ok (.if_icmp .le 5, 3) := by decide +kernel
theorem dX6_feed_18 : decode cX6_feed 18 = .ok (.iconst (-1), 1) := by decide +kernel
theorem dX6_feed_19 : decode cX6_feed 19 = .ok (.ireturn, 1) := by decide +kernel
theorem dX6_feed_20 : decode cX6_feed 20 = .ok (.iconst 0, 1) := by decide +kernel
theorem dX6_feed_21 : decode cX6_feed 21 = .ok (.istore 6, 2) := by decide +kernel
theorem dX6_feed_23 : decode cX6_feed 23 = .ok (.iload 6, 2) := by decide +kernel
theorem dX6_feed_25 : decode cX6_feed 25 = .ok (.bipush 20, 2) := by decide +kernel
theorem dX6_feed_27 : decode cX6_feed 27 = .ok (.if_icmp .ge 86, 3) := by decide +kernel
theorem dX6_feed_30 : decode cX6_feed 30 = .ok (.iload 6, 2) := by decide +kernel
theorem dX6_feed_32 : decode cX6_feed 32 = .ok (.iconst 4, 1) := by decide +kernel
theorem dX6_feed_33 : decode cX6_feed 33 = .ok (.if_icmp .ge 7, 3) := by decide +kernel
theorem dX6_feed_36 : decode cX6_feed 36 = .ok (.iload_n 1, 1) := by decide +kernel
theorem dX6_feed_37 : decode cX6_feed 37 = .ok (.goto 39, 3) := by decide +kernel
theorem dX6_feed_40 : decode cX6_feed 40 = .ok (.iload 6, 2) := by decide +kernel
theorem dX6_feed_42 : decode cX6_feed 42 = .ok (.bipush 8, 2) := by decide +kernel
theorem dX6_feed_44 : decode cX6_feed 44 = .ok (.if_icmp .ge 7, 3) := by decide +kernel
theorem dX6_feed_47 : decode cX6_feed 47 = .ok (.iload_n 2, 1) := by decide +kernel
theorem dX6_feed_48 : decode cX6_feed 48 = .ok (.goto 28, 3) := by decide +kernel
theorem dX6_feed_51 : decode cX6_feed 51 = .ok (.iload 6, 2) := by decide +kernel
theorem dX6_feed_53 : decode cX6_feed 53 = .ok (.bipush 12, 2) := by decide +kernel
theorem dX6_feed_55 : decode cX6_feed 55 = .ok (.if_icmp .ge 7, 3) := by decide +kernel
theorem dX6_feed_58 : decode cX6_feed 58 = .ok (.iload_n 3, 1) := by decide +kernel
theorem dX6_feed_59 : decode cX6_feed 59 = .ok (.goto 17, 3) := by decide +kernel
theorem dX6_feed_62 : decode cX6_feed 62 = .ok (.iload 6, 2) := by decide +kernel
theorem dX6_feed_64 : decode cX6_feed 64 = .ok (.bipush 16, 2) := by decide +kernel
theorem dX6_feed_66 : decode cX6_feed 66 = .ok (.if_icmp .ge 8, 3) := by decide +kernel
theorem dX6_feed_69 : decode cX6_feed 69 = .ok (.iload 4, 2) := by decide +kernel
theorem dX6_feed_71 : decode cX6_feed 71 = .ok (.goto 5, 3) := by decide +kernel
theorem dX6_feed_74 : decode cX6_feed 74 = .ok (.iload 5, 2) := by decide +kernel
theorem dX6_feed_76 : decode cX6_feed 76 = .ok (.istore 7, 2) := by decide +kernel
theorem dX6_feed_78 : decode cX6_feed 78 = .ok (.aload_n 0, 1) := by decide +kernel
theorem dX6_feed_79 : decode cX6_feed 79 = .ok (.getfield 7, 3) := by decide +kernel
theorem dX6_feed_82 : decode cX6_feed 82 = .ok (.aload_n 0, 1) := by decide +kernel
theorem dX6_feed_83 : decode cX6_feed 83 = .ok (.getfield 78, 3) := by decide +kernel
theorem dX6_feed_86 : decode cX6_feed 86 = .ok (.iload 6, 2) := by decide +kernel
theorem dX6_feed_88 : decode cX6_feed 88 = .ok (.iadd, 1) := by decide +kernel
theorem dX6_feed_89 : decode cX6_feed 89 = .ok (.iload 7, 2) := by decide +kernel
theorem dX6_feed_91 : decode cX6_feed 91 = .ok (.bipush 24, 2) := by decide +kernel
theorem dX6_feed_93 : decode cX6_feed 93 = .ok (.bipush 8, 2) := by decide +kernel
theorem dX6_feed_95 : decode cX6_feed 95 = .ok (.iload 6, 2) := by decide +kernel
theorem dX6_feed_97 : decode cX6_feed 97 = .ok (.iconst 4, 1) := by decide +kernel
theorem dX6_feed_98 : decode cX6_feed 98 = .ok (.irem, 1) := by decide +kernel
theorem dX6_feed_99 : decode cX6_feed 99 = .ok (.imul, 1) := by decide +kernel
theorem dX6_feed_100 : decode cX6_feed 100 = .ok (.isub, 1) := by decide +kernel
theorem dX6_feed_101 : decode cX6_feed 101 = .ok (.ishr, 1) := by decide +kernel
theorem dX6_feed_102 : decode cX6_feed 102 = .ok (.sipush 255, 3) := by decide +kernel
theorem dX6_feed_105 : decode cX6_feed 105 = .ok (.iand, 1) := by decide +kernel
theorem dX6_feed_106 : decode cX6_feed 106 = .ok (.iastore, 1) := by decide +kernel
theorem dX6_feed_107 : decode cX6_feed 107 = .ok (.iinc 6 1, 3) := by decide +kernel
theorem dX6_feed_110 : decode cX6_feed 110 = .ok (.goto (-87), 3) := by decide +kernel
theorem dX6_feed_113 : decode cX6_feed 113 = .ok (.aload_n 0, 1) := by decide +kernel
theorem dX6_feed_114 : decode cX6_feed 114 = .ok (.dup, 1) := by decide +kernel
theorem dX6_feed_115 : decode cX6_feed 115 = .ok (.getfield 78, 3) := by decide +kernel
theorem dX6_feed_118 : decode cX6_feed 118 = .ok (.bipush 20, 2) := by decide +kernel
theorem dX6_feed_120 : decode cX6_feed 120 = .ok (.iadd, 1) := by decide +kernel
theorem dX6_feed_121 : decode cX6_feed 121 = .ok (.putfield 78, 3) := by decide +kernel
theorem dX6_feed_124 : decode cX6_feed 124 = .ok (.aload_n 0, 1) := by decide +kernel
theorem dX6_feed_125 : decode cX6_feed 125 = .ok (.getfield 78, 3) := by decide +kernel
theorem dX6_feed_128 : decode cX6_feed 128 = .ok (.ireturn, 1) := by decide +kernel
theorem dX6_wrong_0 : decode cX6_wrong 0 = .ok (.aload_n 0, 1) := by decide +kernel
theorem dX6_wrong_1 : decode cX6_wrong 1 = .ok (.iload_n 1, 1) := by decide +kernel
theorem dX6_wrong_2 : decode cX6_wrong 2 = .ok (.putfield 81, 3) := by decide +kernel
theorem dX6_wrong_5 : decode cX6_wrong 5 = .ok (.aload_n 0, 1) := by decide +kernel
theorem dX6_wrong_6 : decode cX6_wrong 6 = .ok (.iload_n 2, 1) := by decide +kernel
theorem dX6_wrong_7 : decode cX6_wrong 7 = .ok (.putfield 25, 3) := by decide +kernel
theorem dX6_wrong_10 : decode cX6_wrong 10 = .ok (.iconst 0, 1) := by decide +kernel
theorem dX6_wrong_11 : decode cX6_wrong 11 = .ok (.ireturn, 1) := by decide +kernel
theorem dX6_wordAt_0 : decode cX6_wordAt 0 = .ok (.iconst 1, 1) := by decide +kernel
theorem dX6_wordAt_1 : decode cX6_wordAt 1 = .ok (.istore_n 3, 1) := by decide +kernel
theorem dX6_wordAt_2 : decode cX6_wordAt 2 = .ok (.iconst 0, 1) := by decide +kernel
theorem dX6_wordAt_3 : decode cX6_wordAt 3 = .ok (.istore 4, 2) := by decide +kernel
theorem dX6_wordAt_5 : decode cX6_wordAt 5 = .ok (.iload 4, 2) := by decide +kernel
theorem dX6_wordAt_7 : decode cX6_wordAt 7 = .ok (.aload_n 0, 1) := by decide +kernel
theorem dX6_wordAt_8 : decode cX6_wordAt 8 = .ok (.getfield 72, 3) := by decide +kernel
theorem dX6_wordAt_11 : decode cX6_wordAt 11 = .ok (.arraylength, 1) := by decide +kernel
theorem dX6_wordAt_12 : decode cX6_wordAt 12 = .ok (.if_icmp .ge 114, 3) := by decide +kernel
theorem dX6_wordAt_15 : decode cX6_wordAt 15 = .ok (.iconst 0, 1) := by decide +kernel
theorem dX6_wordAt_16 : decode cX6_wordAt 16 = .ok (.istore 5, 2) := by decide +kernel
theorem dX6_wordAt_18 : decode cX6_wordAt 18 = .ok (.aload_n 0, 1) := by decide +kernel
theorem dX6_wordAt_19 : decode cX6_wordAt 19 = .ok (.getfield 72, 3) := by decide +kernel
theorem dX6_wordAt_22 : decode cX6_wordAt 22 = .ok (.iload 4, 2) := by decide +kernel
theorem dX6_wordAt_24 : decode cX6_wordAt 24 = .ok (.iload 5, 2) := by decide +kernel
theorem dX6_wordAt_26 : decode cX6_wordAt 26 = .ok (.iadd, 1) := by decide +kernel
theorem dX6_wordAt_27 : decode cX6_wordAt 27 = .ok (.iaload, 1) := by decide +kernel
theorem dX6_wordAt_28 : decode cX6_wordAt 28 = .ok (.bipush 32, 2) := by decide +kernel
theorem dX6_wordAt_30 : decode cX6_wordAt 30 = .ok (.if_icmp .eq 9, 3) := by decide +kernel
theorem dX6_wordAt_33 : decode cX6_wordAt 33 = .ok (.iinc 5 1, 3) := by decide +kernel
theorem dX6_wordAt_36 : decode cX6_wordAt 36 = .ok (.goto (-18), 3) := by decide +kernel
theorem dX6_wordAt_39 : decode cX6_wordAt 39 = .ok (.iload 5, 2) := by decide +kernel
theorem dX6_wordAt_41 : decode cX6_wordAt 41 = .ok (.iload_n 2, 1) := by decide +kernel
theorem dX6_wordAt_42 : decode cX6_wordAt 42 = .ok (.iload_n 1, 1) := by decide +kernel
theorem dX6_wordAt_43 : decode cX6_wordAt 43 = .ok (.isub, 1) := by decide +kernel
theorem dX6_wordAt_44 : decode cX6_wordAt 44 = .ok (.if_icmp .ne 7, 3) := by decide +kernel
theorem dX6_wordAt_47 : decode cX6_wordAt 47 = .ok (.iconst 1, 1) := by decide +kernel
theorem dX6_wordAt_48 : decode cX6_wordAt 48 = .ok (.goto 4, 3) := by decide +kernel
theorem dX6_wordAt_51 : decode cX6_wordAt 51 = .ok (.iconst 0, 1) := by decide +kernel
theorem dX6_wordAt_52 : decode cX6_wordAt 52 = .ok (.istore 6, 2) := by decide +kernel
theorem dX6_wordAt_54 : decode cX6_wordAt 54 = .ok (.iconst 0, 1) := by decide +kernel
theorem dX6_wordAt_55 : decode cX6_wordAt 55 = .ok (.istore 7, 2) := by decide +kernel
theorem dX6_wordAt_57 : decode cX6_wordAt 57 = .ok (.iload 7, 2) := by decide +kernel
theorem dX6_wordAt_59 : decode cX6_wordAt 59 = .ok (.iload 5, 2) := by decide +kernel
theorem dX6_wordAt_61 : decode cX6_wordAt 61 = .ok (.if_icmp .ge 43, 3) := by decide +kernel
theorem dX6_wordAt_64 : decode cX6_wordAt 64 = .ok (.iload 6, 2) := by decide +kernel
theorem dX6_wordAt_66 : decode cX6_wordAt 66 = .ok (.ifCond .eq 38, 3) := by decide +kernel
theorem dX6_wordAt_69 : decode cX6_wordAt 69 = .ok (.aload_n 0, 1) := by decide +kernel
theorem dX6_wordAt_70 : decode cX6_wordAt 70 = .ok (.getfield 72, 3) := by decide +kernel
theorem dX6_wordAt_73 : decode cX6_wordAt 73 = .ok (.iload 4, 2) := by decide +kernel
theorem dX6_wordAt_75 : decode cX6_wordAt 75 = .ok (.iload 7, 2) := by decide +kernel
theorem dX6_wordAt_77 : decode cX6_wordAt 77 = .ok (.iadd, 1) := by decide +kernel
theorem dX6_wordAt_78 : decode cX6_wordAt 78 = .ok (.iaload, 1) := by decide +kernel
theorem dX6_wordAt_79 : decode cX6_wordAt 79 = .ok (.aload_n 0, 1) := by decide +kernel
theorem dX6_wordAt_80 : decode cX6_wordAt 80 = .ok (.getfield 7, 3) := by decide +kernel
theorem dX6_wordAt_83 : decode cX6_wordAt 83 = .ok (.iload_n 1, 1) := by decide +kernel
theorem dX6_wordAt_84 : decode cX6_wordAt 84 = .ok (.iload 7, 2) := by decide +kernel
theorem dX6_wordAt_86 : decode cX6_wordAt 86 = .ok (.iadd, 1) := by decide +kernel
theorem dX6_wordAt_87 : decode cX6_wordAt 87 = .ok (.iaload, 1) := by decide +kernel
theorem dX6_wordAt_88 : decode cX6_wordAt 88 = .ok (.if_icmp .ne 7, 3) := by decide +kernel
theorem dX6_wordAt_91 : decode cX6_wordAt 91 = .ok (.iconst 1, 1) := by decide +kernel
theorem dX6_wordAt_92 : decode cX6_wordAt 92 = .ok (.goto 4, 3) := by decide +kernel
theorem dX6_wordAt_95 : decode cX6_wordAt 95 = .ok (.iconst 0, 1) := by decide +kernel
theorem dX6_wordAt_96 : decode cX6_wordAt 96 = .ok (.istore 6, 2) := by decide +kernel
theorem dX6_wordAt_98 : decode cX6_wordAt 98 = .ok (.iinc 7 1, 3) := by decide +kernel
theorem dX6_wordAt_101 : decode cX6_wordAt 101 = .ok (.goto (-44), 3) := by decide +kernel
theorem dX6_wordAt_104 : decode cX6_wordAt 104 = .ok (.iload 6, 2) := by decide +kernel
theorem dX6_wordAt_106 : decode cX6_wordAt 106 = .ok (.ifCond .eq 5, 3) := by decide +kernel
theorem dX6_wordAt_109 : decode cX6_wordAt 109 = .ok (.iload_n 3, 1) := by decide +kernel
theorem dX6_wordAt_110 : decode cX6_wordAt 110 = .ok (.ireturn, 1) := by decide +kernel
theorem dX6_wordAt_111 : decode cX6_wordAt 111 = .ok (.iload 4, 2) := by decide +kernel
theorem dX6_wordAt_113 : decode cX6_wordAt 113 = .ok (.iload 5, 2) := by decide +kernel
theorem dX6_wordAt_115 : decode cX6_wordAt 115 = .ok (.iconst 1, 1) := by decide +kernel
theorem dX6_wordAt_116 : decode cX6_wordAt 116 = .ok (.iadd, 1) := by decide +kernel
theorem dX6_wordAt_117 : decode cX6_wordAt 117 = .ok (.iadd, 1) := by decide +kernel
theorem dX6_wordAt_118 : decode cX6_wordAt 118 = .ok (.istore 4, 2) := by decide +kernel
theorem dX6_wordAt_120 : decode cX6_wordAt 120 = .ok (.iinc 3 1, 3) := by decide +kernel
theorem dX6_wordAt_123 : decode cX6_wordAt 123 = .ok (.goto (-118), 3) := by decide +kernel
theorem dX6_wordAt_126 : decode cX6_wordAt 126 = .ok (.iconst (-1), 1) := by decide +kernel
theorem dX6_wordAt_127 : decode cX6_wordAt 127 = .ok (.ireturn, 1) := by decide +kernel
theorem dX6_isSmall_0 : decode cX6_isSmall 0 = .ok (.iload_n 1, 1) := by decide +kernel
theorem dX6_isSmall_1 : decode cX6_isSmall 1 = .ok (.aload_n 0, 1) := by decide +kernel
theorem dX6_isSmall_2 : decode cX6_isSmall 2 = .ok (.getfield 84, 3) := by decide +kernel
theorem dX6_isSmall_5 : decode cX6_isSmall 5 = .ok (.if_icmp .ge 29, 3) := by decide +kernel
theorem dX6_isSmall_8 : decode cX6_isSmall 8 = .ok (.aload_n 0, 1) := by decide +kernel
theorem dX6_isSmall_9 : decode cX6_isSmall 9 = .ok (.getfield 7, 3) := by decide +kernel
theorem dX6_isSmall_12 : decode cX6_isSmall 12 = .ok (.iload_n 1, 1) := by decide +kernel
theorem dX6_isSmall_13 : decode cX6_isSmall 13 = .ok (.iaload, 1) := by decide +kernel
theorem dX6_isSmall_14 : decode cX6_isSmall 14 = .ok (.bipush 97, 2) := by decide +kernel
theorem dX6_isSmall_16 : decode cX6_isSmall 16 = .ok (.if_icmp .lt 18, 3) := by decide +kernel
theorem dX6_isSmall_19 : decode cX6_isSmall 19 = .ok (.aload_n 0, 1) := by decide +kernel
theorem dX6_isSmall_20 : decode cX6_isSmall 20 = .ok (.getfield 7, 3) := by decide +kernel
theorem dX6_isSmall_23 : decode cX6_isSmall 23 = .ok (.iload_n 1, 1) := by decide +kernel
theorem dX6_isSmall_24 : decode cX6_isSmall 24 = .ok (.iaload, 1) := by decide +kernel
theorem dX6_isSmall_25 : decode cX6_isSmall 25 = .ok (.bipush 122, 2) := by decide +kernel
theorem dX6_isSmall_27 : decode cX6_isSmall 27 = .ok (.if_icmp .gt 7, 3) := by decide +kernel
theorem dX6_isSmall_30 : decode cX6_isSmall 30 = .ok (.iconst 1, 1) := by decide +kernel
theorem dX6_isSmall_31 : decode cX6_isSmall 31 = .ok (.goto 4, 3) := by decide +kernel
theorem dX6_isSmall_34 : decode cX6_isSmall 34 = .ok (.iconst 0, 1) := by decide +kernel
theorem dX6_isSmall_35 : decode cX6_isSmall 35 = .ok (.ireturn, 1) := by decide +kernel
theorem dX6_isDigit_0 : decode cX6_isDigit 0 = .ok (.iload_n 1, 1) := by decide +kernel
theorem dX6_isDigit_1 : decode cX6_isDigit 1 = .ok (.aload_n 0, 1) := by decide +kernel
theorem dX6_isDigit_2 : decode cX6_isDigit 2 = .ok (.getfield 84, 3) := by decide +kernel
theorem dX6_isDigit_5 : decode cX6_isDigit 5 = .ok (.if_icmp .ge 29, 3) := by decide +kernel
theorem dX6_isDigit_8 : decode cX6_isDigit 8 = .ok (.aload_n 0, 1) := by decide +kernel
theorem dX6_isDigit_9 : decode cX6_isDigit 9 = .ok (.getfield 7, 3) := by decide +kernel
theorem dX6_isDigit_12 : decode cX6_isDigit 12 = .ok (.iload_n 1, 1) := by decide +kernel
theorem dX6_isDigit_13 : decode cX6_isDigit 13 = .ok (.iaload, 1) := by decide +kernel
theorem dX6_isDigit_14 : decode cX6_isDigit 14 = .ok (.bipush 48, 2) := by decide +kernel
theorem dX6_isDigit_16 : decode cX6_isDigit 16 = .ok (.if_icmp .lt 18, 3) := by decide +kernel
theorem dX6_isDigit_19 : decode cX6_isDigit 19 = .ok (.aload_n 0, 1) := by decide +kernel
theorem dX6_isDigit_20 : decode cX6_isDigit 20 = .ok (.getfield 7, 3) := by decide +kernel
theorem dX6_isDigit_23 : decode cX6_isDigit 23 = .ok (.iload_n 1, 1) := by decide +kernel
theorem dX6_isDigit_24 : decode cX6_isDigit 24 = .ok (.iaload, 1) := by decide +kernel
theorem dX6_isDigit_25 : decode cX6_isDigit 25 = .ok (.bipush 57, 2) := by decide +kernel
theorem dX6_isDigit_27 : decode cX6_isDigit 27 = .ok (.if_icmp .gt 7, 3) := by decide +kernel
theorem dX6_isDigit_30 : decode cX6_isDigit 30 = .ok (.iconst 1, 1) := by decide +kernel
theorem dX6_isDigit_31 : decode cX6_isDigit 31 = .ok (.goto 4, 3) := by decide +kernel
theorem dX6_isDigit_34 : decode cX6_isDigit 34 = .ok (.iconst 0, 1) := by decide +kernel
theorem dX6_isDigit_35 : decode cX6_isDigit 35 = .ok (.ireturn, 1) := by decide +kernel
theorem dX6_take_0 : decode cX6_take 0 = .ok (.aload_n 0, 1) := by decide +kernel
theorem dX6_take_1 : decode cX6_take 1 = .ok (.getfield 87, 3) := by decide +kernel
theorem dX6_take_4 : decode cX6_take 4 = .ok (.aload_n 0, 1) := by decide +kernel
theorem dX6_take_5 : decode cX6_take 5 = .ok (.getfield 84, 3) := by decide +kernel
theorem dX6_take_8 : decode cX6_take 8 = .ok (.if_icmp .ge 44, 3) := by decide +kernel
theorem dX6_take_11 : decode cX6_take 11 = .ok (.aload_n 0, 1) := by decide +kernel
theorem dX6_take_12 : decode cX6_take 12 = .ok (.getfield 7, 3) := by decide +kernel
theorem dX6_take_15 : decode cX6_take 15 = .ok (.aload_n 0, 1) := by decide +kernel
theorem dX6_take_16 : decode cX6_take 16 = .ok (.getfield 87, 3) := by decide +kernel
theorem dX6_take_19 : decode cX6_take 19 = .ok (.iaload, 1) := by decide +kernel
theorem dX6_take_20 : decode cX6_take 20 = .ok (.bipush 10, 2) := by decide +kernel
theorem dX6_take_22 : decode cX6_take 22 = .ok (.if_icmp .eq 17, 3) := by decide +kernel
theorem dX6_take_25 : decode cX6_take 25 = .ok (.aload_n 0, 1) := by decide +kernel
theorem dX6_take_26 : decode cX6_take 26 = .ok (.getfield 7, 3) := by decide +kernel
theorem dX6_take_29 : decode cX6_take 29 = .ok (.aload_n 0, 1) := by decide +kernel
theorem dX6_take_30 : decode cX6_take 30 = .ok (.getfield 87, 3) := by decide +kernel
theorem dX6_take_33 : decode cX6_take 33 = .ok (.iaload, 1) := by decide +kernel
theorem dX6_take_34 : decode cX6_take 34 = .ok (.bipush 32, 2) := by decide +kernel
theorem dX6_take_36 : decode cX6_take 36 = .ok (.if_icmp .ne 16, 3) := by decide +kernel
theorem dX6_take_39 : decode cX6_take 39 = .ok (.aload_n 0, 1) := by decide +kernel
theorem dX6_take_40 : decode cX6_take 40 = .ok (.dup, 1) := by decide +kernel
theorem dX6_take_41 : decode cX6_take 41 = .ok (.getfield 87, 3) := by decide +kernel
theorem dX6_take_44 : decode cX6_take 44 = .ok (.iconst 1, 1) := by decide +kernel
theorem dX6_take_45 : decode cX6_take 45 = .ok (.iadd, 1) := by decide +kernel
theorem dX6_take_46 : decode cX6_take 46 = .ok (.putfield 87, 3) := by decide +kernel
theorem dX6_take_49 : decode cX6_take 49 = .ok (.goto (-49), 3) := by decide +kernel
theorem dX6_take_52 : decode cX6_take 52 = .ok (.aload_n 0, 1) := by decide +kernel
theorem dX6_take_53 : decode cX6_take 53 = .ok (.aload_n 0, 1) := by decide +kernel
theorem dX6_take_54 : decode cX6_take 54 = .ok (.getfield 87, 3) := by decide +kernel
theorem dX6_take_57 : decode cX6_take 57 = .ok (.putfield 90, 3) := by decide +kernel
theorem dX6_take_60 : decode cX6_take 60 = .ok (.aload_n 0, 1) := by decide +kernel
theorem dX6_take_61 : decode cX6_take 61 = .ok (.getfield 87, 3) := by decide +kernel
theorem dX6_take_64 : decode cX6_take 64 = .ok (.aload_n 0, 1) := by decide +kernel
theorem dX6_take_65 : decode cX6_take 65 = .ok (.getfield 84, 3) := by decide +kernel
theorem dX6_take_68 : decode cX6_take 68 = .ok (.if_icmp .ne 11, 3) := by decide +kernel
theorem dX6_take_71 : decode cX6_take 71 = .ok (.aload_n 0, 1) := by decide +kernel
theorem dX6_take_72 : decode cX6_take 72 = .ok (.iconst 0, 1) := by decide +kernel
theorem dX6_take_73 : decode cX6_take 73 = .ok (.putfield 93, 3) := by decide +kernel
theorem dX6_take_76 : decode cX6_take 76 = .ok (.goto 221, 3) := by decide +kernel
theorem dX6_take_79 : decode cX6_take 79 = .ok (.aload_n 0, 1) := by decide +kernel
theorem dX6_take_80 : decode cX6_take 80 = .ok (.aload_n 0, 1) := by decide +kernel
theorem dX6_take_81 : decode cX6_take 81 = .ok (.getfield 87, 3) := by decide +kernel
theorem dX6_take_84 : decode cX6_take 84 = .ok (.invokevirtual 96, 3) := by decide +kernel
theorem dX6_take_87 : decode cX6_take 87 = .ok (.ifCond .eq 62, 3) := by decide +kernel
theorem dX6_take_90 : decode cX6_take 90 = .ok (.aload_n 0, 1) := by decide +kernel
theorem dX6_take_91 : decode cX6_take 91 = .ok (.aload_n 0, 1) := by decide +kernel
theorem dX6_take_92 : decode cX6_take 92 = .ok (.getfield 87, 3) := by decide +kernel
theorem dX6_take_95 : decode cX6_take 95 = .ok (.invokevirtual 96, 3) := by decide +kernel
theorem dX6_take_98 : decode cX6_take 98 = .ok (.ifCond .eq 16, 3) := by decide +kernel
theorem dX6_take_101 : decode cX6_take 101 = .ok (.aload_n 0, 1) := by decide +kernel
theorem dX6_take_102 : decode cX6_take 102 = .ok (.dup, 1) := by decide +kernel
theorem dX6_take_103 : decode cX6_take 103 = .ok (.getfield 87, 3) := by decide +kernel
theorem dX6_take_106 : decode cX6_take 106 = .ok (.iconst 1, 1) := by decide +kernel
theorem dX6_take_107 : decode cX6_take 107 = .ok (.iadd, 1) := by decide +kernel
theorem dX6_take_108 : decode cX6_take 108 = .ok (.putfield 87, 3) := by decide +kernel
theorem dX6_take_111 : decode cX6_take 111 = .ok (.goto (-21), 3) := by decide +kernel
theorem dX6_take_114 : decode cX6_take 114 = .ok (.aload_n 0, 1) := by decide +kernel
theorem dX6_take_115 : decode cX6_take 115 = .ok (.aload_n 0, 1) := by decide +kernel
theorem dX6_take_116 : decode cX6_take 116 = .ok (.aload_n 0, 1) := by decide +kernel
theorem dX6_take_117 : decode cX6_take 117 = .ok (.getfield 90, 3) := by decide +kernel
theorem dX6_take_120 : decode cX6_take 120 = .ok (.aload_n 0, 1) := by decide +kernel
theorem dX6_take_121 : decode cX6_take 121 = .ok (.getfield 87, 3) := by decide +kernel
theorem dX6_take_124 : decode cX6_take 124 = .ok (.invokevirtual 100, 3) := by decide +kernel
theorem dX6_take_127 : decode cX6_take 127 = .ok (.putfield 104, 3) := by decide +kernel
theorem dX6_take_130 : decode cX6_take 130 = .ok (.aload_n 0, 1) := by decide +kernel
theorem dX6_take_131 : decode cX6_take 131 = .ok (.aload_n 0, 1) := by decide +kernel
theorem dX6_take_132 : decode cX6_take 132 = .ok (.getfield 104, 3) := by decide +kernel
theorem dX6_take_135 : decode cX6_take 135 = .ok (.ifCond .ge 7, 3) := by decide +kernel
theorem dX6_take_138 : decode cX6_take 138 = .ok (.iconst 5, 1) := by decide +kernel
theorem dX6_take_139 : decode cX6_take 139 = .ok (.goto 4, 3) := by decide +kernel
theorem dX6_take_142 : decode cX6_take 142 = .ok (.iconst 1, 1) := by decide +kernel
theorem dX6_take_143 : decode cX6_take 143 = .ok (.putfield 93, 3) := by decide +kernel
theorem dX6_take_146 : decode cX6_take 146 = .ok (.goto 151, 3) := by decide +kernel
theorem dX6_take_149 : decode cX6_take 149 = .ok (.aload_n 0, 1) := by decide +kernel
theorem dX6_take_150 : decode cX6_take 150 = .ok (.aload_n 0, 1) := by decide +kernel
theorem dX6_take_151 : decode cX6_take 151 = .ok (.getfield 87, 3) := by decide +kernel
theorem dX6_take_154 : decode cX6_take 154 = .ok (.invokevirtual 107, 3) := by decide +kernel
theorem dX6_take_157 : decode cX6_take 157 = .ok (.ifCond .eq 77, 3) := by decide +kernel
theorem dX6_take_160 : decode cX6_take 160 = .ok (.aload_n 0, 1) := by decide +kernel
theorem dX6_take_161 : decode cX6_take 161 = .ok (.iconst 3, 1) := by decide +kernel
theorem dX6_take_162 : decode cX6_take 162 = .ok (.putfield 93, 3) := by decide +kernel
theorem dX6_take_165 : decode cX6_take 165 = .ok (.aload_n 0, 1) := by decide +kernel
theorem dX6_take_166 : decode cX6_take 166 = .ok (.iconst 0, 1) := by decide +kernel
theorem dX6_take_167 : decode cX6_take 167 = .ok (.putfield 104, 3) := by decide +kernel
theorem dX6_take_170 : decode cX6_take 170 = .ok (.aload_n 0, 1) := by decide +kernel
theorem dX6_take_171 : decode cX6_take 171 = .ok (.aload_n 0, 1) := by decide +kernel
theorem dX6_take_172 : decode cX6_take 172 = .ok (.getfield 87, 3) := by decide +kernel
theorem dX6_take_175 : decode cX6_take 175 = .ok (.invokevirtual 107, 3) := by decide +kernel
theorem dX6_take_178 : decode cX6_take 178 = .ok (.ifCond .eq 119, 3) := by decide +kernel
theorem dX6_take_181 : decode cX6_take 181 = .ok (.aload_n 0, 1) := by decide +kernel
theorem dX6_take_182 : decode cX6_take 182 = .ok (.aload_n 0, 1) := by decide +kernel
theorem dX6_take_183 : decode cX6_take 183 = .ok (.getfield 104, 3) := by decide +kernel
theorem dX6_take_186 : decode cX6_take 186 = .ok (.ldc 110, 2) := by decide +kernel
theorem dX6_take_188 : decode cX6_take 188 = .ok (.if_icmp .le 10, 3) := by decide +kernel
theorem dX6_take_191 : decode cX6_take 191 = .ok (.aload_n 0, 1) := by decide +kernel
theorem dX6_take_192 : decode cX6_take 192 = .ok (.getfield 104, 3) := by decide +kernel
theorem dX6_take_195 : decode cX6_take 195 = .ok (.goto 23, 3) := by decide +kernel
theorem dX6_take_198 : decode cX6_take 198 = .ok (.bipush 10, 2) := by decide +kernel
theorem dX6_take_200 : decode cX6_take 200 = .ok (.aload_n 0, 1) := by decide +kernel
theorem dX6_take_201 : decode cX6_take 201 = .ok (.getfield 104, 3) := by decide +kernel
theorem dX6_take_204 : decode cX6_take 204 = .ok (.imul, 1) := by decide +kernel
theorem dX6_take_205 : decode cX6_take 205 = .ok (.aload_n 0, 1) := by decide +kernel
theorem dX6_take_206 : decode cX6_take 206 = .ok (.getfield 7, 3) := by decide +kernel
theorem dX6_take_209 : decode cX6_take 209 = .ok (.aload_n 0, 1) := by decide +kernel
theorem dX6_take_210 : decode cX6_take 210 = .ok (.getfield 87, 3) := by decide +kernel
theorem dX6_take_213 : decode cX6_take 213 = .ok (.iaload, 1) := by decide +kernel
theorem dX6_take_214 : decode cX6_take 214 = .ok (.iadd, 1) := by decide +kernel
theorem dX6_take_215 : decode cX6_take 215 = .ok (.bipush 48, 2) := by decide +kernel
theorem dX6_take_217 : decode cX6_take 217 = .ok (.isub, 1) := by decide +kernel
theorem dX6_take_218 : decode cX6_take 218 = .ok (.putfield 104, 3) := by decide +kernel
theorem dX6_take_221 : decode cX6_take 221 = .ok (.aload_n 0, 1) := by decide +kernel
theorem dX6_take_222 : decode cX6_take 222 = .ok (.dup, 1) := by decide +kernel
theorem dX6_take_223 : decode cX6_take 223 = .ok (.getfield 87, 3) := by decide +kernel
theorem dX6_take_226 : decode cX6_take 226 = .ok (.iconst 1, 1) := by decide +kernel
theorem dX6_take_227 : decode cX6_take 227 = .ok (.iadd, 1) := by decide +kernel
theorem dX6_take_228 : decode cX6_take 228 = .ok (.putfield 87, 3) := by decide +kernel
theorem dX6_take_231 : decode cX6_take 231 = .ok (.goto (-61), 3) := by decide +kernel
theorem dX6_take_234 : decode cX6_take 234 = .ok (.aload_n 0, 1) := by decide +kernel
theorem dX6_take_235 : decode cX6_take 235 = .ok (.aload_n 0, 1) := by decide +kernel
theorem dX6_take_236 : decode cX6_take 236 = .ok (.getfield 7, 3) := by decide +kernel
theorem dX6_take_239 : decode cX6_take 239 = .ok (.aload_n 0, 1) := by decide +kernel
theorem dX6_take_240 : decode cX6_take 240 = .ok (.getfield 87, 3) := by decide +kernel
theorem dX6_take_243 : decode cX6_take 243 = .ok (.iaload, 1) := by decide +kernel
theorem dX6_take_244 : decode cX6_take 244 = .ok (.putfield 104, 3) := by decide +kernel
theorem dX6_take_247 : decode cX6_take 247 = .ok (.aload_n 0, 1) := by decide +kernel
theorem dX6_take_248 : decode cX6_take 248 = .ok (.dup, 1) := by decide +kernel
theorem dX6_take_249 : decode cX6_take 249 = .ok (.getfield 87, 3) := by decide +kernel
theorem dX6_take_252 : decode cX6_take 252 = .ok (.iconst 1, 1) := by decide +kernel
theorem dX6_take_253 : decode cX6_take 253 = .ok (.iadd, 1) := by decide +kernel
theorem dX6_take_254 : decode cX6_take 254 = .ok (.putfield 87, 3) := by decide +kernel
theorem dX6_take_257 : decode cX6_take 257 = .ok (.aload_n 0, 1) := by decide +kernel
theorem dX6_take_258 : decode cX6_take 258 = .ok (.aload_n 0, 1) := by decide +kernel
theorem dX6_take_259 : decode cX6_take 259 = .ok (.getfield 104, 3) := by decide +kernel
theorem dX6_take_262 : decode cX6_take 262 = .ok (.bipush 65, 2) := by decide +kernel
theorem dX6_take_264 : decode cX6_take 264 = .ok (.if_icmp .lt 16, 3) := by decide +kernel
theorem dX6_take_267 : decode cX6_take 267 = .ok (.aload_n 0, 1) := by decide +kernel
theorem dX6_take_268 : decode cX6_take 268 = .ok (.getfield 104, 3) := by decide +kernel
theorem dX6_take_271 : decode cX6_take 271 = .ok (.bipush 70, 2) := by decide +kernel
theorem dX6_take_273 : decode cX6_take 273 = .ok (.if_icmp .gt 7, 3) := by decide +kernel
theorem dX6_take_276 : decode cX6_take 276 = .ok (.iconst 2, 1) := by decide +kernel
theorem dX6_take_277 : decode cX6_take 277 = .ok (.goto 17, 3) := by decide +kernel
theorem dX6_take_280 : decode cX6_take 280 = .ok (.aload_n 0, 1) := by decide +kernel
theorem dX6_take_281 : decode cX6_take 281 = .ok (.getfield 104, 3) := by decide +kernel
theorem dX6_take_284 : decode cX6_take 284 = .ok (.bipush 59, 2) := by decide +kernel
theorem dX6_take_286 : decode cX6_take 286 = .ok (.if_icmp .ne 7, 3) := by decide +kernel
theorem dX6_take_289 : decode cX6_take 289 = .ok (.iconst 4, 1) := by decide +kernel
theorem dX6_take_290 : decode cX6_take 290 = .ok (.goto 4, 3) := by decide +kernel
theorem dX6_take_293 : decode cX6_take 293 = .ok (.iconst 5, 1) := by decide +kernel
theorem dX6_take_294 : decode cX6_take 294 = .ok (.putfield 93, 3) := by decide +kernel
theorem dX6_take_297 : decode cX6_take 297 = .ok (.return_, 1) := by decide +kernel
theorem dX6_word_0 : decode cX6_word 0 = .ok (.aload_n 0, 1) := by decide +kernel
theorem dX6_word_1 : decode cX6_word 1 = .ok (.getfield 93, 3) := by decide +kernel
theorem dX6_word_4 : decode cX6_word 4 = .ok (.iconst 1, 1) := by decide +kernel
theorem dX6_word_5 : decode cX6_word 5 = .ok (.if_icmp .ne 11, 3) := by decide +kernel
theorem dX6_word_8 : decode cX6_word 8 = .ok (.aload_n 0, 1) := by decide +kernel
theorem dX6_word_9 : decode cX6_word 9 = .ok (.getfield 104, 3) := by decide +kernel
theorem dX6_word_12 : decode cX6_word 12 = .ok (.iload_n 1, 1) := by decide +kernel
theorem dX6_word_13 : decode cX6_word 13 = .ok (.if_icmp .eq 13, 3) := by decide +kernel
theorem dX6_word_16 : decode cX6_word 16 = .ok (.aload_n 0, 1) := by decide +kernel
theorem dX6_word_17 : decode cX6_word 17 = .ok (.iconst 1, 1) := by decide +kernel
theorem dX6_word_18 : decode cX6_word 18 = .ok (.aload_n 0, 1) := by decide +kernel
theorem dX6_word_19 : decode cX6_word 19 = .ok (.getfield 90, 3) := by decide +kernel
theorem dX6_word_22 : decode cX6_word 22 = .ok (.invokevirtual 111, 3) := by decide +kernel
theorem dX6_word_25 : decode cX6_word 25 = .ok (.ireturn, 1) := by decide +kernel
theorem dX6_word_26 : decode cX6_word 26 = .ok (.aload_n 0, 1) := by decide +kernel
theorem dX6_word_27 : decode cX6_word 27 = .ok (.invokevirtual 115, 3) := by decide +kernel
theorem dX6_word_30 : decode cX6_word 30 = .ok (.iconst 1, 1) := by decide +kernel
theorem dX6_word_31 : decode cX6_word 31 = .ok (.ireturn, 1) := by decide +kernel
theorem dX6_number_0 : decode cX6_number 0 = .ok (.aload_n 0, 1) := by decide +kernel
theorem dX6_number_1 : decode cX6_number 1 = .ok (.getfield 93, 3) := by decide +kernel
theorem dX6_number_4 : decode cX6_number 4 = .ok (.iconst 3, 1) := by decide +kernel
theorem dX6_number_5 : decode cX6_number 5 = .ok (.if_icmp .eq 13, 3) := by decide +kernel
theorem dX6_number_8 : decode cX6_number 8 = .ok (.aload_n 0, 1) := by decide +kernel
theorem dX6_number_9 : decode cX6_number 9 = .ok (.iconst 1, 1) := by decide +kernel
theorem dX6_number_10 : decode cX6_number 10 = .ok (.aload_n 0, 1) := by decide +kernel
theorem dX6_number_11 : decode cX6_number 11 = .ok (.getfield 90, 3) := by decide +kernel
theorem dX6_number_14 : decode cX6_number 14 = .ok (.invokevirtual 111, 3) := by decide +kernel
theorem dX6_number_17 : decode cX6_number 17 = .ok (.ireturn, 1) := by decide +kernel
theorem dX6_number_18 : decode cX6_number 18 = .ok (.aload_n 0, 1) := by decide +kernel
theorem dX6_number_19 : decode cX6_number 19 = .ok (.getfield 104, 3) := by decide +kernel
theorem dX6_number_22 : decode cX6_number 22 = .ok (.iload_n 1, 1) := by decide +kernel
theorem dX6_number_23 : decode cX6_number 23 = .ok (.if_icmp .lt 11, 3) := by decide +kernel
theorem dX6_number_26 : decode cX6_number 26 = .ok (.aload_n 0, 1) := by decide +kernel
theorem dX6_number_27 : decode cX6_number 27 = .ok (.getfield 104, 3) := by decide +kernel
theorem dX6_number_30 : decode cX6_number 30 = .ok (.iload_n 2, 1) := by decide +kernel
theorem dX6_number_31 : decode cX6_number 31 = .ok (.if_icmp .le 13, 3) := by decide +kernel
theorem dX6_number_34 : decode cX6_number 34 = .ok (.aload_n 0, 1) := by decide +kernel
theorem dX6_number_35 : decode cX6_number 35 = .ok (.iconst 2, 1) := by decide +kernel
theorem dX6_number_36 : decode cX6_number 36 = .ok (.aload_n 0, 1) := by decide +kernel
theorem dX6_number_37 : decode cX6_number 37 = .ok (.getfield 90, 3) := by decide +kernel
theorem dX6_number_40 : decode cX6_number 40 = .ok (.invokevirtual 111, 3) := by decide +kernel
theorem dX6_number_43 : decode cX6_number 43 = .ok (.ireturn, 1) := by decide +kernel
theorem dX6_number_44 : decode cX6_number 44 = .ok (.aload_n 0, 1) := by decide +kernel
theorem dX6_number_45 : decode cX6_number 45 = .ok (.aload_n 0, 1) := by decide +kernel
theorem dX6_number_46 : decode cX6_number 46 = .ok (.getfield 104, 3) := by decide +kernel
theorem dX6_number_49 : decode cX6_number 49 = .ok (.putfield 118, 3) := by decide +kernel
theorem dX6_number_52 : decode cX6_number 52 = .ok (.aload_n 0, 1) := by decide +kernel
theorem dX6_number_53 : decode cX6_number 53 = .ok (.invokevirtual 115, 3) := by decide +kernel
theorem dX6_number_56 : decode cX6_number 56 = .ok (.iconst 1, 1) := by decide +kernel
theorem dX6_number_57 : decode cX6_number 57 = .ok (.ireturn, 1) := by decide +kernel
theorem dX6_burdenLine_0 : decode cX6_burdenLine 0 = .ok (.aload_n 0, 1) := by decide +kernel
theorem dX6_burdenLine_1 : decode cX6_burdenLine 1 = .ok (.invokevirtual 115, 3) := by decide +kernel
theorem dX6_burdenLine_4 : decode cX6_burdenLine 4 = .ok (.aload_n 0, 1) := by decide +kernel
theorem dX6_burdenLine_5 : decode cX6_burdenLine 5 = .ok (.getfield 93, 3) := by decide +kernel
theorem dX6_burdenLine_8 : decode cX6_burdenLine 8 = .ok (.iconst 2, 1) := by decide +kernel
theorem dX6_burdenLine_9 : decode cX6_burdenLine 9 = .ok (.if_icmp .eq 13, 3) := by decide +kernel
theorem dX6_burdenLine_12 : decode cX6_burdenLine 12 = .ok (.aload_n 0, 1) := by decide +kernel
theorem dX6_burdenLine_13 : decode cX6_burdenLine 13 = .ok (.iconst 1, 1) := by decide +kernel
theorem dX6_burdenLine_14 : decode cX6_burdenLine 14 = .ok (.aload_n 0, 1) := by decide +kernel
theorem dX6_burdenLine_15 : decode cX6_burdenLine 15 = .ok (.getfield 90, 3) := by decide +kernel
theorem dX6_burdenLine_18 : decode cX6_burdenLine 18 = .ok (.invokevirtual 111, 3) := by decide +kernel
theorem dX6_burdenLine_21 : decode cX6_burdenLine 21 = .ok (.ireturn, 1) := by decide +kernel
theorem dX6_burdenLine_22 : decode cX6_burdenLine 22 = .ok (.bipush 6, 2) := by decide +kernel
theorem dX6_burdenLine_24 : decode cX6_burdenLine 24 = .ok (.aload_n 0, 1) := by decide +kernel
theorem dX6_burdenLine_25 : decode cX6_burdenLine 25 = .ok (.getfield 104, 3) := by decide +kernel
theorem dX6_burdenLine_28 : decode cX6_burdenLine 28 = .ok (.iadd, 1) := by decide +kernel
theorem dX6_burdenLine_29 : decode cX6_burdenLine 29 = .ok (.bipush 65, 2) := by decide +kernel
theorem dX6_burdenLine_31 : decode cX6_burdenLine 31 = .ok (.isub, 1) := by decide +kernel
theorem dX6_burdenLine_32 : decode cX6_burdenLine 32 = .ok (.istore_n 1, 1) := by decide +kernel
theorem dX6_burdenLine_33 : decode cX6_burdenLine 33 = .ok (.aload_n 0, 1) := by decide +kernel
theorem dX6_burdenLine_34 : decode cX6_burdenLine 34 = .ok (.getfield 16, 3) := by decide +kernel
theorem dX6_burdenLine_37 : decode cX6_burdenLine 37 = .ok (.iload_n 1, 1) := by decide +kernel
theorem dX6_burdenLine_38 : decode cX6_burdenLine 38 = .ok (.iaload, 1) := by decide +kernel
theorem dX6_burdenLine_39 : decode cX6_burdenLine 39 = .ok (.ifCond .le 13, 3) := by decide +kernel
theorem dX6_burdenLine_42 : decode cX6_burdenLine 42 = .ok (.aload_n 0, 1) := by decide +kernel
theorem dX6_burdenLine_43 : decode cX6_burdenLine 43 = .ok (.iconst 3, 1) := by decide +kernel
theorem dX6_burdenLine_44 : decode cX6_burdenLine 44 = .ok (.aload_n 0, 1) := by decide +kernel
theorem dX6_burdenLine_45 : decode cX6_burdenLine 45 = .ok (.getfield 90, 3) := by decide +kernel
theorem dX6_burdenLine_48 : decode cX6_burdenLine 48 = .ok (.invokevirtual 111, 3) := by decide +kernel
theorem dX6_burdenLine_51 : decode cX6_burdenLine 51 = .ok (.ireturn, 1) := by decide +kernel
theorem dX6_burdenLine_52 : decode cX6_burdenLine 52 = .ok (.aload_n 0, 1) := by decide +kernel
theorem dX6_burdenLine_53 : decode cX6_burdenLine 53 = .ok (.invokevirtual 115, 3) := by decide +kernel
theorem dX6_burdenLine_56 : decode cX6_burdenLine 56 = .ok (.aload_n 0, 1) := by decide +kernel
theorem dX6_burdenLine_57 : decode cX6_burdenLine 57 = .ok (.bipush 6, 2) := by decide +kernel
theorem dX6_burdenLine_59 : decode cX6_burdenLine 59 = .ok (.invokevirtual 121, 3) := by decide +kernel
theorem dX6_burdenLine_62 : decode cX6_burdenLine 62 = .ok (.ifCond .eq 14, 3) := by decide +kernel
theorem dX6_burdenLine_65 : decode cX6_burdenLine 65 = .ok (.aload_n 0, 1) := by decide +kernel
theorem dX6_burdenLine_66 : decode cX6_burdenLine 66 = .ok (.iconst 1, 1) := by decide +kernel
theorem dX6_burdenLine_67 : decode cX6_burdenLine 67 = .ok (.sipush 10000, 3) := by decide +kernel
theorem dX6_burdenLine_70 : decode cX6_burdenLine 70 = .ok (.invokevirtual 124, 3) := by decide +kernel
theorem dX6_burdenLine_73 : decode cX6_burdenLine 73 = .ok (.ifCond .ne 5, 3) := by decide +kernel
theorem dX6_burdenLine_76 : decode cX6_burdenLine 76 = .ok (.iconst 0, 1) := by decide +kernel
theorem dX6_burdenLine_77 : decode cX6_burdenLine 77 = .ok (.ireturn, 1) := by decide +kernel
theorem dX6_burdenLine_78 : decode cX6_burdenLine 78 = .ok (.aload_n 0, 1) := by decide +kernel
theorem dX6_burdenLine_79 : decode cX6_burdenLine 79 = .ok (.getfield 13, 3) := by decide +kernel
theorem dX6_burdenLine_82 : decode cX6_burdenLine 82 = .ok (.iload_n 1, 1) := by decide +kernel
theorem dX6_burdenLine_83 : decode cX6_burdenLine 83 = .ok (.aload_n 0, 1) := by decide +kernel
theorem dX6_burdenLine_84 : decode cX6_burdenLine 84 = .ok (.getfield 118, 3) := by decide +kernel
theorem dX6_burdenLine_87 : decode cX6_burdenLine 87 = .ok (.iastore, 1) := by decide +kernel
theorem dX6_burdenLine_88 : decode cX6_burdenLine 88 = .ok (.aload_n 0, 1) := by decide +kernel
theorem dX6_burdenLine_89 : decode cX6_burdenLine 89 = .ok (.bipush 7, 2) := by decide +kernel
theorem dX6_burdenLine_91 : decode cX6_burdenLine 91 = .ok (.invokevirtual 121, 3) := by decide +kernel
theorem dX6_burdenLine_94 : decode cX6_burdenLine 94 = .ok (.ifCond .eq 12, 3) := by decide +kernel
theorem dX6_burdenLine_97 : decode cX6_burdenLine 97 = .ok (.aload_n 0, 1) := by decide +kernel
theorem dX6_burdenLine_98 : decode cX6_burdenLine 98 = .ok (.iconst 1, 1) := by decide +kernel
theorem dX6_burdenLine_99 : decode cX6_burdenLine 99 = .ok (.iconst 4, 1) := by decide +kernel
theorem dX6_burdenLine_100 : decode cX6_burdenLine 100 = .ok (.invokevirtual 124, 3) := by decide +kernel
theorem dX6_burdenLine_103 : decode cX6_burdenLine 103 = .ok (.ifCond .ne 5, 3) := by decide +kernel
theorem dX6_burdenLine_106 : decode cX6_burdenLine 106 = .ok (.iconst 0, 1) := by decide +kernel
theorem dX6_burdenLine_107 : decode cX6_burdenLine 107 = .ok (.ireturn, 1) := by decide +kernel
theorem dX6_burdenLine_108 : decode cX6_burdenLine 108 = .ok (.aload_n 0, 1) := by decide +kernel
theorem dX6_burdenLine_109 : decode cX6_burdenLine 109 = .ok (.getfield 16, 3) := by decide +kernel
theorem dX6_burdenLine_112 : decode cX6_burdenLine 112 = .ok (.iload_n 1, 1) := by decide +kernel
theorem dX6_burdenLine_113 : decode cX6_burdenLine 113 = .ok (.aload_n 0, 1) := by decide +kernel
theorem dX6_burdenLine_114 : decode cX6_burdenLine 114 = .ok (.getfield 118, 3) := by decide +kernel
theorem dX6_burdenLine_117 : decode cX6_burdenLine 117 = .ok (.iastore, 1) := by decide +kernel
theorem dX6_burdenLine_118 : decode cX6_burdenLine 118 = .ok (.iconst 1, 1) := by decide +kernel
theorem dX6_burdenLine_119 : decode cX6_burdenLine 119 = .ok (.ireturn, 1) := by decide +kernel
theorem dX6_line_0 : decode cX6_line 0 = .ok (.aload_n 0, 1) := by decide +kernel
theorem dX6_line_1 : decode cX6_line 1 = .ok (.getfield 93, 3) := by decide +kernel
theorem dX6_line_4 : decode cX6_line 4 = .ok (.iconst 1, 1) := by decide +kernel
theorem dX6_line_5 : decode cX6_line 5 = .ok (.if_icmp .ne 11, 3) := by decide +kernel
theorem dX6_line_8 : decode cX6_line 8 = .ok (.aload_n 0, 1) := by decide +kernel
theorem dX6_line_9 : decode cX6_line 9 = .ok (.getfield 104, 3) := by decide +kernel
theorem dX6_line_12 : decode cX6_line 12 = .ok (.iconst 5, 1) := by decide +kernel
theorem dX6_line_13 : decode cX6_line 13 = .ok (.if_icmp .le 13, 3) := by decide +kernel
theorem dX6_line_16 : decode cX6_line 16 = .ok (.aload_n 0, 1) := by decide +kernel
theorem dX6_line_17 : decode cX6_line 17 = .ok (.iconst 1, 1) := by decide +kernel
theorem dX6_line_18 : decode cX6_line 18 = .ok (.aload_n 0, 1) := by decide +kernel
theorem dX6_line_19 : decode cX6_line 19 = .ok (.getfield 90, 3) := by decide +kernel
theorem dX6_line_22 : decode cX6_line 22 = .ok (.invokevirtual 111, 3) := by decide +kernel
theorem dX6_line_25 : decode cX6_line 25 = .ok (.ireturn, 1) := by decide +kernel
theorem dX6_line_26 : decode cX6_line 26 = .ok (.aload_n 0, 1) := by decide +kernel
theorem dX6_line_27 : decode cX6_line 27 = .ok (.getfield 104, 3) := by decide +kernel
theorem dX6_line_30 : decode cX6_line 30 = .ok (.iconst 5, 1) := by decide +kernel
theorem dX6_line_31 : decode cX6_line 31 = .ok (.if_icmp .ne 8, 3) := by decide +kernel
theorem dX6_line_34 : decode cX6_line 34 = .ok (.aload_n 0, 1) := by decide +kernel
theorem dX6_line_35 : decode cX6_line 35 = .ok (.invokevirtual 127, 3) := by decide +kernel
theorem dX6_line_38 : decode cX6_line 38 = .ok (.ireturn, 1) := by decide +kernel
theorem dX6_line_39 : decode cX6_line 39 = .ok (.iconst 3, 1) := by decide +kernel
theorem dX6_line_40 : decode cX6_line 40 = .ok (.aload_n 0, 1) := by decide +kernel
theorem dX6_line_41 : decode cX6_line 41 = .ok (.getfield 104, 3) := by decide +kernel
theorem dX6_line_44 : decode cX6_line 44 = .ok (.iadd, 1) := by decide +kernel
theorem dX6_line_45 : decode cX6_line 45 = .ok (.istore_n 1, 1) := by decide +kernel
theorem dX6_line_46 : decode cX6_line 46 = .ok (.aload_n 0, 1) := by decide +kernel
theorem dX6_line_47 : decode cX6_line 47 = .ok (.getfield 19, 3) := by decide +kernel
theorem dX6_line_50 : decode cX6_line 50 = .ok (.iload_n 1, 1) := by decide +kernel
theorem dX6_line_51 : decode cX6_line 51 = .ok (.iaload, 1) := by decide +kernel
theorem dX6_line_52 : decode cX6_line 52 = .ok (.ifCond .lt 13, 3) := by decide +kernel
theorem dX6_line_55 : decode cX6_line 55 = .ok (.aload_n 0, 1) := by decide +kernel
theorem dX6_line_56 : decode cX6_line 56 = .ok (.iconst 3, 1) := by decide +kernel
theorem dX6_line_57 : decode cX6_line 57 = .ok (.aload_n 0, 1) := by decide +kernel
theorem dX6_line_58 : decode cX6_line 58 = .ok (.getfield 90, 3) := by decide +kernel
theorem dX6_line_61 : decode cX6_line 61 = .ok (.invokevirtual 111, 3) := by decide +kernel
theorem dX6_line_64 : decode cX6_line 64 = .ok (.ireturn, 1) := by decide +kernel
theorem dX6_line_65 : decode cX6_line 65 = .ok (.aload_n 0, 1) := by decide +kernel
theorem dX6_line_66 : decode cX6_line 66 = .ok (.getfield 104, 3) := by decide +kernel
theorem dX6_line_69 : decode cX6_line 69 = .ok (.iconst 1, 1) := by decide +kernel
theorem dX6_line_70 : decode cX6_line 70 = .ok (.if_icmp .ne 8, 3) := by decide +kernel
theorem dX6_line_73 : decode cX6_line 73 = .ok (.bipush 9, 2) := by decide +kernel
theorem dX6_line_75 : decode cX6_line 75 = .ok (.goto 18, 3) := by decide +kernel
theorem dX6_line_78 : decode cX6_line 78 = .ok (.aload_n 0, 1) := by decide +kernel
theorem dX6_line_79 : decode cX6_line 79 = .ok (.getfield 104, 3) := by decide +kernel
theorem dX6_line_82 : decode cX6_line 82 = .ok (.iconst 2, 1) := by decide +kernel
theorem dX6_line_83 : decode cX6_line 83 = .ok (.if_icmp .ne 8, 3) := by decide +kernel
theorem dX6_line_86 : decode cX6_line 86 = .ok (.ldc 131, 2) := by decide +kernel
theorem dX6_line_88 : decode cX6_line 88 = .ok (.goto 5, 3) := by decide +kernel
theorem dX6_line_91 : decode cX6_line 91 = .ok (.bipush 60, 2) := by decide +kernel
theorem dX6_line_93 : decode cX6_line 93 = .ok (.istore_n 2, 1) := by decide +kernel
theorem dX6_line_94 : decode cX6_line 94 = .ok (.aload_n 0, 1) := by decide +kernel
theorem dX6_line_95 : decode cX6_line 95 = .ok (.invokevirtual 115, 3) := by decide +kernel
theorem dX6_line_98 : decode cX6_line 98 = .ok (.aload_n 0, 1) := by decide +kernel
theorem dX6_line_99 : decode cX6_line 99 = .ok (.iconst 0, 1) := by decide +kernel
theorem dX6_line_100 : decode cX6_line 100 = .ok (.iload_n 2, 1) := by decide +kernel
theorem dX6_line_101 : decode cX6_line 101 = .ok (.invokevirtual 124, 3) := by decide +kernel
theorem dX6_line_104 : decode cX6_line 104 = .ok (.ifCond .ne 5, 3) := by decide +kernel
theorem dX6_line_107 : decode cX6_line 107 = .ok (.iconst 0, 1) := by decide +kernel
theorem dX6_line_108 : decode cX6_line 108 = .ok (.ireturn, 1) := by decide +kernel
theorem dX6_line_109 : decode cX6_line 109 = .ok (.aload_n 0, 1) := by decide +kernel
theorem dX6_line_110 : decode cX6_line 110 = .ok (.getfield 19, 3) := by decide +kernel
theorem dX6_line_113 : decode cX6_line 113 = .ok (.iload_n 1, 1) := by decide +kernel
theorem dX6_line_114 : decode cX6_line 114 = .ok (.aload_n 0, 1) := by decide +kernel
theorem dX6_line_115 : decode cX6_line 115 = .ok (.getfield 118, 3) := by decide +kernel
theorem dX6_line_118 : decode cX6_line 118 = .ok (.iastore, 1) := by decide +kernel
theorem dX6_line_119 : decode cX6_line 119 = .ok (.iconst 1, 1) := by decide +kernel
theorem dX6_line_120 : decode cX6_line 120 = .ok (.ireturn, 1) := by decide +kernel
theorem dX6_statutes_0 : decode cX6_statutes 0 = .ok (.aload_n 0, 1) := by decide +kernel
theorem dX6_statutes_1 : decode cX6_statutes 1 = .ok (.iconst 0, 1) := by decide +kernel
theorem dX6_statutes_2 : decode cX6_statutes 2 = .ok (.putfield 75, 3) := by decide +kernel
theorem dX6_statutes_5 : decode cX6_statutes 5 = .ok (.aload_n 0, 1) := by decide +kernel
theorem dX6_statutes_6 : decode cX6_statutes 6 = .ok (.getfield 132, 3) := by decide +kernel
theorem dX6_statutes_9 : decode cX6_statutes 9 = .ok (.ifCond .ne 15, 3) := by decide +kernel
theorem dX6_statutes_12 : decode cX6_statutes 12 = .ok (.iload_n 1, 1) := by decide +kernel
theorem dX6_statutes_13 : decode cX6_statutes 13 = .ok (.ifCond .lt 11, 3) := by decide +kernel
theorem dX6_statutes_16 : decode cX6_statutes 16 = .ok (.iload_n 1, 1) := by decide +kernel
theorem dX6_statutes_17 : decode cX6_statutes 17 = .ok (.aload_n 0, 1) := by decide +kernel
theorem dX6_statutes_18 : decode cX6_statutes 18 = .ok (.getfield 78, 3) := by decide +kernel
theorem dX6_statutes_21 : decode cX6_statutes 21 = .ok (.if_icmp .le 6, 3) := by decide +kernel
theorem dX6_statutes_24 : decode cX6_statutes 24 = .ok (.bipush (-2), 2) := by decide +kernel
theorem dX6_statutes_26 : decode cX6_statutes 26 = .ok (.ireturn, 1) := by decide +kernel
theorem dX6_statutes_27 : decode cX6_statutes 27 = .ok (.aload_n 0, 1) := by decide +kernel
theorem dX6_statutes_28 : decode cX6_statutes 28 = .ok (.iload_n 1, 1) := by decide +kernel
theorem dX6_statutes_29 : decode cX6_statutes 29 = .ok (.putfield 84, 3) := by decide +kernel
theorem dX6_statutes_32 : decode cX6_statutes 32 = .ok (.aload_n 0, 1) := by decide +kernel
theorem dX6_statutes_33 : decode cX6_statutes 33 = .ok (.iconst 0, 1) := by decide +kernel
theorem dX6_statutes_34 : decode cX6_statutes 34 = .ok (.putfield 78, 3) := by decide +kernel
theorem dX6_statutes_37 : decode cX6_statutes 37 = .ok (.aload_n 0, 1) := by decide +kernel
theorem dX6_statutes_38 : decode cX6_statutes 38 = .ok (.iconst 0, 1) := by decide +kernel
theorem dX6_statutes_39 : decode cX6_statutes 39 = .ok (.putfield 81, 3) := by decide +kernel
theorem dX6_statutes_42 : decode cX6_statutes 42 = .ok (.aload_n 0, 1) := by decide +kernel
theorem dX6_statutes_43 : decode cX6_statutes 43 = .ok (.iconst (-1), 1) := by decide +kernel
theorem dX6_statutes_44 : decode cX6_statutes 44 = .ok (.putfield 25, 3) := by decide +kernel
theorem dX6_statutes_47 : decode cX6_statutes 47 = .ok (.bipush 6, 2) := by decide +kernel
theorem dX6_statutes_49 : decode cX6_statutes 49 = .ok (.istore_n 2, 1) := by decide +kernel
theorem dX6_statutes_50 : decode cX6_statutes 50 = .ok (.iload_n 2, 1) := by decide +kernel
theorem dX6_statutes_51 : decode cX6_statutes 51 = .ok (.bipush 12, 2) := by decide +kernel
theorem dX6_statutes_53 : decode cX6_statutes 53 = .ok (.if_icmp .ge 16, 3) := by decide +kernel
theorem dX6_statutes_56 : decode cX6_statutes 56 = .ok (.aload_n 0, 1) := by decide +kernel
theorem dX6_statutes_57 : decode cX6_statutes 57 = .ok (.getfield 16, 3) := by decide +kernel
theorem dX6_statutes_60 : decode cX6_statutes 60 = .ok (.iload_n 2, 1) := by decide +kernel
theorem dX6_statutes_61 : decode cX6_statutes 61 = .ok (.iconst 0, 1) := by decide +kernel
theorem dX6_statutes_62 : decode cX6_statutes 62 = .ok (.iastore, 1) := by decide +kernel
theorem dX6_statutes_63 : decode cX6_statutes 63 = .ok (.iinc 2 1, 3) := by decide +kernel
theorem dX6_statutes_66 : decode cX6_statutes 66 = .ok (.goto (-16), 3) := by decide +kernel
theorem dX6_statutes_69 : decode cX6_statutes 69 = .ok (.iconst 4, 1) := by decide +kernel
theorem dX6_statutes_70 : decode cX6_statutes 70 = .ok (.istore_n 2, 1) := by decide +kernel
theorem dX6_statutes_71 : decode cX6_statutes 71 = .ok (.iload_n 2, 1) := by decide +kernel
theorem dX6_statutes_72 : decode cX6_statutes 72 = .ok (.bipush 8, 2) := by decide +kernel
theorem dX6_statutes_74 : decode cX6_statutes 74 = .ok (.if_icmp .ge 16, 3) := by decide +kernel
theorem dX6_statutes_77 : decode cX6_statutes 77 = .ok (.aload_n 0, 1) := by decide +kernel
theorem dX6_statutes_78 : decode cX6_statutes 78 = .ok (.getfield 19, 3) := by decide +kernel
theorem dX6_statutes_81 : decode cX6_statutes 81 = .ok (.iload_n 2, 1) := by decide +kernel
theorem dX6_statutes_82 : decode cX6_statutes 82 = .ok (.iconst (-1), 1) := by decide +kernel
theorem dX6_statutes_83 : decode cX6_statutes 83 = .ok (.iastore, 1) := by decide +kernel
theorem dX6_statutes_84 : decode cX6_statutes 84 = .ok (.iinc 2 1, 3) := by decide +kernel
theorem dX6_statutes_87 : decode cX6_statutes 87 = .ok (.goto (-16), 3) := by decide +kernel
theorem dX6_statutes_90 : decode cX6_statutes 90 = .ok (.aload_n 0, 1) := by decide +kernel
theorem dX6_statutes_91 : decode cX6_statutes 91 = .ok (.iconst 0, 1) := by decide +kernel
theorem dX6_statutes_92 : decode cX6_statutes 92 = .ok (.putfield 87, 3) := by decide +kernel
theorem dX6_statutes_95 : decode cX6_statutes 95 = .ok (.aload_n 0, 1) := by decide +kernel
theorem dX6_statutes_96 : decode cX6_statutes 96 = .ok (.invokevirtual 115, 3) := by decide +kernel
theorem dX6_statutes_99 : decode cX6_statutes 99 = .ok (.aload_n 0, 1) := by decide +kernel
theorem dX6_statutes_100 : decode cX6_statutes 100 = .ok (.getfield 93, 3) := by decide +kernel
theorem dX6_statutes_103 : decode cX6_statutes 103 = .ok (.ifCond .eq 39, 3) := by decide +kernel
theorem dX6_statutes_106 : decode cX6_statutes 106 = .ok (.aload_n 0, 1) := by decide +kernel
theorem dX6_statutes_107 : decode cX6_statutes 107 = .ok (.invokevirtual 136, 3) := by decide +kernel
theorem dX6_statutes_110 : decode cX6_statutes 110 = .ok (.ifCond .ne 5, 3) := by decide +kernel
theorem dX6_statutes_113 : decode cX6_statutes 113 = .ok (.iconst (-1), 1) := by decide +kernel
theorem dX6_statutes_114 : decode cX6_statutes 114 = .ok (.ireturn, 1) := by decide +kernel
theorem dX6_statutes_115 : decode cX6_statutes 115 = .ok (.aload_n 0, 1) := by decide +kernel
theorem dX6_statutes_116 : decode cX6_statutes 116 = .ok (.getfield 93, 3) := by decide +kernel
theorem dX6_statutes_119 : decode cX6_statutes 119 = .ok (.iconst 4, 1) := by decide +kernel
theorem dX6_statutes_120 : decode cX6_statutes 120 = .ok (.if_icmp .eq 15, 3) := by decide +kernel
theorem dX6_statutes_123 : decode cX6_statutes 123 = .ok (.aload_n 0, 1) := by decide +kernel
theorem dX6_statutes_124 : decode cX6_statutes 124 = .ok (.iconst 1, 1) := by decide +kernel
theorem dX6_statutes_125 : decode cX6_statutes 125 = .ok (.aload_n 0, 1) := by decide +kernel
theorem dX6_statutes_126 : decode cX6_statutes 126 = .ok (.getfield 90, 3) := by decide +kernel
theorem dX6_statutes_129 : decode cX6_statutes 129 = .ok (.invokevirtual 111, 3) := by decide +kernel
theorem dX6_statutes_132 : decode cX6_statutes 132 = .ok (.istore_n 2, 1) := by decide +kernel
theorem dX6_statutes_133 : decode cX6_statutes 133 = .ok (.iconst (-1), 1) := by decide +kernel
theorem dX6_statutes_134 : decode cX6_statutes 134 = .ok (.ireturn, 1) := by decide +kernel
theorem dX6_statutes_135 : decode cX6_statutes 135 = .ok (.aload_n 0, 1) := by decide +kernel
theorem dX6_statutes_136 : decode cX6_statutes 136 = .ok (.invokevirtual 115, 3) := by decide +kernel
theorem dX6_statutes_139 : decode cX6_statutes 139 = .ok (.goto (-40), 3) := by decide +kernel
theorem dX6_statutes_142 : decode cX6_statutes 142 = .ok (.aload_n 0, 1) := by decide +kernel
theorem dX6_statutes_143 : decode cX6_statutes 143 = .ok (.iconst 0, 1) := by decide +kernel
theorem dX6_statutes_144 : decode cX6_statutes 144 = .ok (.putfield 139, 3) := by decide +kernel
theorem dX6_statutes_147 : decode cX6_statutes 147 = .ok (.iconst 0, 1) := by decide +kernel
theorem dX6_statutes_148 : decode cX6_statutes 148 = .ok (.istore_n 2, 1) := by decide +kernel
theorem dX6_statutes_149 : decode cX6_statutes 149 = .ok (.iload_n 2, 1) := by decide +kernel
theorem dX6_statutes_150 : decode cX6_statutes 150 = .ok (.bipush 6, 2) := by decide +kernel
theorem dX6_statutes_152 : decode cX6_statutes 152 = .ok (.if_icmp .ge 77, 3) := by decide +kernel
theorem dX6_statutes_155 : decode cX6_statutes 155 = .ok (.aload_n 0, 1) := by decide +kernel
theorem dX6_statutes_156 : decode cX6_statutes 156 = .ok (.getfield 13, 3) := by decide +kernel
theorem dX6_statutes_159 : decode cX6_statutes 159 = .ok (.iload_n 2, 1) := by decide +kernel
theorem dX6_statutes_160 : decode cX6_statutes 160 = .ok (.aload_n 0, 1) := by decide +kernel
theorem dX6_statutes_161 : decode cX6_statutes 161 = .ok (.getfield 13, 3) := by decide +kernel
theorem dX6_statutes_164 : decode cX6_statutes 164 = .ok (.bipush 6, 2) := by decide +kernel
theorem dX6_statutes_166 : decode cX6_statutes 166 = .ok (.iload_n 2, 1) := by decide +kernel
theorem dX6_statutes_167 : decode cX6_statutes 167 = .ok (.iadd, 1) := by decide +kernel
theorem dX6_statutes_168 : decode cX6_statutes 168 = .ok (.iaload, 1) := by decide +kernel
theorem dX6_statutes_169 : decode cX6_statutes 169 = .ok (.iastore, 1) := by decide +kernel
theorem dX6_statutes_170 : decode cX6_statutes 170 = .ok (.aload_n 0, 1) := by decide +kernel
theorem dX6_statutes_171 : decode cX6_statutes 171 = .ok (.getfield 16, 3) := by decide +kernel
theorem dX6_statutes_174 : decode cX6_statutes 174 = .ok (.iload_n 2, 1) := by decide +kernel
theorem dX6_statutes_175 : decode cX6_statutes 175 = .ok (.aload_n 0, 1) := by decide +kernel
theorem dX6_statutes_176 : decode cX6_statutes 176 = .ok (.getfield 16, 3) := by decide +kernel
theorem dX6_statutes_179 : decode cX6_statutes 179 = .ok (.bipush 6, 2) := by decide +kernel
theorem dX6_statutes_181 : decode cX6_statutes 181 = .ok (.iload_n 2, 1) := by decide +kernel
theorem dX6_statutes_182 : decode cX6_statutes 182 = .ok (.iadd, 1) := by decide +kernel
theorem dX6_statutes_183 : decode cX6_statutes 183 = .ok (.iaload, 1) := by decide +kernel
theorem dX6_statutes_184 : decode cX6_statutes 184 = .ok (.iastore, 1) := by decide +kernel
theorem dX6_statutes_185 : decode cX6_statutes 185 = .ok (.iconst 0, 1) := by decide +kernel
theorem dX6_statutes_186 : decode cX6_statutes 186 = .ok (.istore_n 3, 1) := by decide +kernel
theorem dX6_statutes_187 : decode cX6_statutes 187 = .ok (.iload_n 3, 1) := by decide +kernel
theorem dX6_statutes_188 : decode cX6_statutes 188 = .ok (.aload_n 0, 1) := by decide +kernel
theorem dX6_statutes_189 : decode cX6_statutes 189 = .ok (.getfield 16, 3) := by decide +kernel
theorem dX6_statutes_192 : decode cX6_statutes 192 = .ok (.iload_n 2, 1) := by decide +kernel
theorem dX6_statutes_193 : decode cX6_statutes 193 = .ok (.iaload, 1) := by decide +kernel
theorem dX6_statutes_194 : decode cX6_statutes 194 = .ok (.if_icmp .ge 29, 3) := by decide +kernel
theorem dX6_statutes_197 : decode cX6_statutes 197 = .ok (.aload_n 0, 1) := by decide +kernel
theorem dX6_statutes_198 : decode cX6_statutes 198 = .ok (.getfield 22, 3) := by decide +kernel
theorem dX6_statutes_201 : decode cX6_statutes 201 = .ok (.aload_n 0, 1) := by decide +kernel
theorem dX6_statutes_202 : decode cX6_statutes 202 = .ok (.getfield 139, 3) := by decide +kernel
theorem dX6_statutes_205 : decode cX6_statutes 205 = .ok (.iload_n 2, 1) := by decide +kernel
theorem dX6_statutes_206 : decode cX6_statutes 206 = .ok (.iastore, 1) := by decide +kernel
theorem dX6_statutes_207 : decode cX6_statutes 207 = .ok (.aload_n 0, 1) := by decide +kernel
theorem dX6_statutes_208 : decode cX6_statutes 208 = .ok (.dup, 1) := by decide +kernel
theorem dX6_statutes_209 : decode cX6_statutes 209 = .ok (.getfield 139, 3) := by decide +kernel
theorem dX6_statutes_212 : decode cX6_statutes 212 = .ok (.iconst 1, 1) := by decide +kernel
theorem dX6_statutes_213 : decode cX6_statutes 213 = .ok (.iadd, 1) := by decide +kernel
theorem dX6_statutes_214 : decode cX6_statutes 214 = .ok (.putfield 139, 3) := by decide +kernel
theorem dX6_statutes_217 : decode cX6_statutes 217 = .ok (.iinc 3 1, 3) := by decide +kernel
theorem dX6_statutes_220 : decode cX6_statutes 220 = .ok (.goto (-33), 3) := by decide +kernel
theorem dX6_statutes_223 : decode cX6_statutes 223 = .ok (.iinc 2 1, 3) := by decide +kernel
theorem dX6_statutes_226 : decode cX6_statutes 226 = .ok (.goto (-77), 3) := by decide +kernel
theorem dX6_statutes_229 : decode cX6_statutes 229 = .ok (.iconst 0, 1) := by decide +kernel
theorem dX6_statutes_230 : decode cX6_statutes 230 = .ok (.istore_n 2, 1) := by decide +kernel
theorem dX6_statutes_231 : decode cX6_statutes 231 = .ok (.iload_n 2, 1) := by decide +kernel
theorem dX6_statutes_232 : decode cX6_statutes 232 = .ok (.iconst 4, 1) := by decide +kernel
theorem dX6_statutes_233 : decode cX6_statutes 233 = .ok (.if_icmp .ge 38, 3) := by decide +kernel
theorem dX6_statutes_236 : decode cX6_statutes 236 = .ok (.aload_n 0, 1) := by decide +kernel
theorem dX6_statutes_237 : decode cX6_statutes 237 = .ok (.getfield 19, 3) := by decide +kernel
theorem dX6_statutes_240 : decode cX6_statutes 240 = .ok (.iload_n 2, 1) := by decide +kernel
theorem dX6_statutes_241 : decode cX6_statutes 241 = .ok (.aload_n 0, 1) := by decide +kernel
theorem dX6_statutes_242 : decode cX6_statutes 242 = .ok (.getfield 19, 3) := by decide +kernel
theorem dX6_statutes_245 : decode cX6_statutes 245 = .ok (.iconst 4, 1) := by decide +kernel
theorem dX6_statutes_246 : decode cX6_statutes 246 = .ok (.iload_n 2, 1) := by decide +kernel
theorem dX6_statutes_247 : decode cX6_statutes 247 = .ok (.iadd, 1) := by decide +kernel
theorem dX6_statutes_248 : decode cX6_statutes 248 = .ok (.iaload, 1) := by decide +kernel
theorem dX6_statutes_249 : decode cX6_statutes 249 = .ok (.ifCond .ge 7, 3) := by decide +kernel
theorem dX6_statutes_252 : decode cX6_statutes 252 = .ok (.iconst 0, 1) := by decide +kernel
theorem dX6_statutes_253 : decode cX6_statutes 253 = .ok (.goto 11, 3) := by decide +kernel
theorem dX6_statutes_256 : decode cX6_statutes 256 = .ok (.aload_n 0, 1) := by decide +kernel
theorem dX6_statutes_257 : decode cX6_statutes 257 = .ok (.getfield 19, 3) := by decide +kernel
theorem dX6_statutes_260 : decode cX6_statutes 260 = .ok (.iconst 4, 1) := by decide +kernel
theorem dX6_statutes_261 : decode cX6_statutes 261 = .ok (.iload_n 2, 1) := by decide +kernel
theorem dX6_statutes_262 : decode cX6_statutes 262 = .ok (.iadd, 1) := by decide +kernel
theorem dX6_statutes_263 : decode cX6_statutes 263 = .ok (.iaload, 1) := by decide +kernel
theorem dX6_statutes_264 : decode cX6_statutes 264 = .ok (.iastore, 1) := by decide +kernel
theorem dX6_statutes_265 : decode cX6_statutes 265 = .ok (.iinc 2 1, 3) := by decide +kernel
theorem dX6_statutes_268 : decode cX6_statutes 268 = .ok (.goto (-37), 3) := by decide +kernel
theorem dX6_statutes_271 : decode cX6_statutes 271 = .ok (.aload_n 0, 1) := by decide +kernel
theorem dX6_statutes_272 : decode cX6_statutes 272 = .ok (.getfield 139, 3) := by decide +kernel
theorem dX6_statutes_275 : decode cX6_statutes 275 = .ok (.ireturn, 1) := by decide +kernel
theorem dX6_fault_0 : decode cX6_fault 0 = .ok (.aload_n 0, 1) := by decide +kernel
theorem dX6_fault_1 : decode cX6_fault 1 = .ok (.iconst 0, 1) := by decide +kernel
theorem dX6_fault_2 : decode cX6_fault 2 = .ok (.putfield 75, 3) := by decide +kernel
theorem dX6_fault_5 : decode cX6_fault 5 = .ok (.iload_n 1, 1) := by decide +kernel
theorem dX6_fault_6 : decode cX6_fault 6 = .ok (.ifCond .ne 10, 3) := by decide +kernel
theorem dX6_fault_9 : decode cX6_fault 9 = .ok (.aload_n 0, 1) := by decide +kernel
theorem dX6_fault_10 : decode cX6_fault 10 = .ok (.getfield 81, 3) := by decide +kernel
theorem dX6_fault_13 : decode cX6_fault 13 = .ok (.goto 16, 3) := by decide +kernel
theorem dX6_fault_16 : decode cX6_fault 16 = .ok (.iload_n 1, 1) := by decide +kernel
theorem dX6_fault_17 : decode cX6_fault 17 = .ok (.iconst 1, 1) := by decide +kernel
theorem dX6_fault_18 : decode cX6_fault 18 = .ok (.if_icmp .ne 10, 3) := by decide +kernel
theorem dX6_fault_21 : decode cX6_fault 21 = .ok (.aload_n 0, 1) := by decide +kernel
theorem dX6_fault_22 : decode cX6_fault 22 = .ok (.getfield 25, 3) := by decide +kernel
theorem dX6_fault_25 : decode cX6_fault 25 = .ok (.goto 4, 3) := by decide +kernel
theorem dX6_fault_28 : decode cX6_fault 28 = .ok (.iconst (-1), 1) := by decide +kernel
theorem dX6_fault_29 : decode cX6_fault 29 = .ok (.ireturn, 1) := by decide +kernel
theorem dX6_man_0 : decode cX6_man 0 = .ok (.aload_n 0, 1) := by decide +kernel
theorem dX6_man_1 : decode cX6_man 1 = .ok (.iconst 0, 1) := by decide +kernel
theorem dX6_man_2 : decode cX6_man 2 = .ok (.putfield 75, 3) := by decide +kernel
theorem dX6_man_5 : decode cX6_man 5 = .ok (.iload_n 1, 1) := by decide +kernel
theorem dX6_man_6 : decode cX6_man 6 = .ok (.ifCond .lt 28, 3) := by decide +kernel
theorem dX6_man_9 : decode cX6_man 9 = .ok (.iload_n 1, 1) := by decide +kernel
theorem dX6_man_10 : decode cX6_man 10 = .ok (.ldc 131, 2) := by decide +kernel
theorem dX6_man_12 : decode cX6_man 12 = .ok (.if_icmp .gt 22, 3) := by decide +kernel
theorem dX6_man_15 : decode cX6_man 15 = .ok (.iload_n 2, 1) := by decide +kernel
theorem dX6_man_16 : decode cX6_man 16 = .ok (.ifCond .lt 18, 3) := by decide +kernel
theorem dX6_man_19 : decode cX6_man 19 = .ok (.iload_n 2, 1) := by decide +kernel
theorem dX6_man_20 : decode cX6_man 20 = .ok (.ldc 131, 2) := by decide +kernel
theorem dX6_man_22 : decode cX6_man 22 = .ok (.if_icmp .gt 12, 3) := by decide +kernel
end
section
theorem dX6_man_25 : decode cX6_man 25 = .ok (.aload_n 0, 1) := by decide +kernel
theorem dX6_man_26 : decode cX6_man 26 = .ok (.getfield 142, 3) := by decide +kernel
theorem dX6_man_29 : decode cX6_man 29 = .ok (.bipush 12, 2) := by decide +kernel
theorem dX6_man_31 : decode cX6_man 31 = .ok (.if_icmp .ne 5, 3) := by decide +kernel
theorem dX6_man_34 : decode cX6_man 34 = .ok (.iconst (-1), 1) := by decide +kernel
theorem dX6_man_35 : decode cX6_man 35 = .ok (.ireturn, 1) := by decide +kernel
theorem dX6_man_36 : decode cX6_man 36 = .ok (.aload_n 0, 1) := by decide +kernel
theorem dX6_man_37 : decode cX6_man 37 = .ok (.getfield 29, 3) := by decide +kernel
theorem dX6_man_40 : decode cX6_man 40 = .ok (.aload_n 0, 1) := by decide +kernel
theorem dX6_man_41 : decode cX6_man 41 = .ok (.getfield 142, 3) := by decide +kernel
theorem dX6_man_44 : decode cX6_man 44 = .ok (.iload_n 1, 1) := by decide +kernel
theorem dX6_man_45 : decode cX6_man 45 = .ok (.iastore, 1) := by decide +kernel
theorem dX6_man_46 : decode cX6_man 46 = .ok (.aload_n 0, 1) := by decide +kernel
theorem dX6_man_47 : decode cX6_man 47 = .ok (.getfield 32, 3) := by decide +kernel
theorem dX6_man_50 : decode cX6_man 50 = .ok (.aload_n 0, 1) := by decide +kernel
theorem dX6_man_51 : decode cX6_man 51 = .ok (.getfield 142, 3) := by decide +kernel
theorem dX6_man_54 : decode cX6_man 54 = .ok (.iload_n 2, 1) := by decide +kernel
theorem dX6_man_55 : decode cX6_man 55 = .ok (.iastore, 1) := by decide +kernel
theorem dX6_man_56 : decode cX6_man 56 = .ok (.aload_n 0, 1) := by decide +kernel
theorem dX6_man_57 : decode cX6_man 57 = .ok (.dup, 1) := by decide +kernel
theorem dX6_man_58 : decode cX6_man 58 = .ok (.getfield 142, 3) := by decide +kernel
theorem dX6_man_61 : decode cX6_man 61 = .ok (.iconst 1, 1) := by decide +kernel
theorem dX6_man_62 : decode cX6_man 62 = .ok (.iadd, 1) := by decide +kernel
theorem dX6_man_63 : decode cX6_man 63 = .ok (.putfield 142, 3) := by decide +kernel
theorem dX6_man_66 : decode cX6_man 66 = .ok (.aload_n 0, 1) := by decide +kernel
theorem dX6_man_67 : decode cX6_man 67 = .ok (.getfield 142, 3) := by decide +kernel
theorem dX6_man_70 : decode cX6_man 70 = .ok (.iconst 1, 1) := by decide +kernel
theorem dX6_man_71 : decode cX6_man 71 = .ok (.isub, 1) := by decide +kernel
theorem dX6_man_72 : decode cX6_man 72 = .ok (.ireturn, 1) := by decide +kernel
theorem dX6_isMan_0 : decode cX6_isMan 0 = .ok (.iload_n 1, 1) := by decide +kernel
theorem dX6_isMan_1 : decode cX6_isMan 1 = .ok (.ifCond .lt 15, 3) := by decide +kernel
theorem dX6_isMan_4 : decode cX6_isMan 4 = .ok (.iload_n 1, 1) := by decide +kernel
theorem dX6_isMan_5 : decode cX6_isMan 5 = .ok (.aload_n 0, 1) := by decide +kernel
theorem dX6_isMan_6 : decode cX6_isMan 6 = .ok (.getfield 142, 3) := by decide +kernel
theorem dX6_isMan_9 : decode cX6_isMan 9 = .ok (.if_icmp .ge 7, 3) := by decide +kernel
theorem dX6_isMan_12 : decode cX6_isMan 12 = .ok (.iconst 1, 1) := by decide +kernel
theorem dX6_isMan_13 : decode cX6_isMan 13 = .ok (.goto 4, 3) := by decide +kernel
theorem dX6_isMan_16 : decode cX6_isMan 16 = .ok (.iconst 0, 1) := by decide +kernel
theorem dX6_isMan_17 : decode cX6_isMan 17 = .ok (.ireturn, 1) := by decide +kernel
theorem dX6_found_0 : decode cX6_found 0 = .ok (.aload_n 0, 1) := by decide +kernel
theorem dX6_found_1 : decode cX6_found 1 = .ok (.iconst 0, 1) := by decide +kernel
theorem dX6_found_2 : decode cX6_found 2 = .ok (.putfield 75, 3) := by decide +kernel
theorem dX6_found_5 : decode cX6_found 5 = .ok (.aload_n 0, 1) := by decide +kernel
theorem dX6_found_6 : decode cX6_found 6 = .ok (.iload_n 1, 1) := by decide +kernel
theorem dX6_found_7 : decode cX6_found 7 = .ok (.invokevirtual 145, 3) := by decide +kernel
theorem dX6_found_10 : decode cX6_found 10 = .ok (.ifCond .eq 18, 3) := by decide +kernel
theorem dX6_found_13 : decode cX6_found 13 = .ok (.iload_n 2, 1) := by decide +kernel
theorem dX6_found_14 : decode cX6_found 14 = .ok (.iconst 1, 1) := by decide +kernel
theorem dX6_found_15 : decode cX6_found 15 = .ok (.if_icmp .lt 13, 3) := by decide +kernel
theorem dX6_found_18 : decode cX6_found 18 = .ok (.iload_n 2, 1) := by decide +kernel
theorem dX6_found_19 : decode cX6_found 19 = .ok (.aload_n 0, 1) := by decide +kernel
theorem dX6_found_20 : decode cX6_found 20 = .ok (.getfield 32, 3) := by decide +kernel
theorem dX6_found_23 : decode cX6_found 23 = .ok (.iload_n 1, 1) := by decide +kernel
theorem dX6_found_24 : decode cX6_found 24 = .ok (.iaload, 1) := by decide +kernel
theorem dX6_found_25 : decode cX6_found 25 = .ok (.if_icmp .le 5, 3) := by decide +kernel
theorem dX6_found_28 : decode cX6_found 28 = .ok (.iconst 0, 1) := by decide +kernel
theorem dX6_found_29 : decode cX6_found 29 = .ok (.ireturn, 1) := by decide +kernel
theorem dX6_found_30 : decode cX6_found 30 = .ok (.aload_n 0, 1) := by decide +kernel
theorem dX6_found_31 : decode cX6_found 31 = .ok (.getfield 32, 3) := by decide +kernel
theorem dX6_found_34 : decode cX6_found 34 = .ok (.iload_n 1, 1) := by decide +kernel
theorem dX6_found_35 : decode cX6_found 35 = .ok (.dup2, 1) := by decide +kernel
theorem dX6_found_36 : decode cX6_found 36 = .ok (.iaload, 1) := by decide +kernel
theorem dX6_found_37 : decode cX6_found 37 = .ok (.iload_n 2, 1) := by decide +kernel
theorem dX6_found_38 : decode cX6_found 38 = .ok (.isub, 1) := by decide +kernel
theorem dX6_found_39 : decode cX6_found 39 = .ok (.iastore, 1) := by decide +kernel
theorem dX6_found_40 : decode cX6_found 40 = .ok (.aload_n 0, 1) := by decide +kernel
theorem dX6_found_41 : decode cX6_found 41 = .ok (.getfield 29, 3) := by decide +kernel
theorem dX6_found_44 : decode cX6_found 44 = .ok (.iload_n 1, 1) := by decide +kernel
theorem dX6_found_45 : decode cX6_found 45 = .ok (.dup2, 1) := by decide +kernel
theorem dX6_found_46 : decode cX6_found 46 = .ok (.iaload, 1) := by decide +kernel
theorem dX6_found_47 : decode cX6_found 47 = .ok (.iload_n 2, 1) := by decide +kernel
theorem dX6_found_48 : decode cX6_found 48 = .ok (.iadd, 1) := by decide +kernel
theorem dX6_found_49 : decode cX6_found 49 = .ok (.iastore, 1) := by decide +kernel
theorem dX6_found_50 : decode cX6_found 50 = .ok (.iconst 1, 1) := by decide +kernel
theorem dX6_found_51 : decode cX6_found 51 = .ok (.ireturn, 1) := by decide +kernel
theorem dX6_bears_0 : decode cX6_bears 0 = .ok (.iconst 0, 1) := by decide +kernel
theorem dX6_bears_1 : decode cX6_bears 1 = .ok (.istore_n 3, 1) := by decide +kernel
theorem dX6_bears_2 : decode cX6_bears 2 = .ok (.iload_n 3, 1) := by decide +kernel
theorem dX6_bears_3 : decode cX6_bears 3 = .ok (.aload_n 0, 1) := by decide +kernel
theorem dX6_bears_4 : decode cX6_bears 4 = .ok (.getfield 139, 3) := by decide +kernel
theorem dX6_bears_7 : decode cX6_bears 7 = .ok (.if_icmp .ge 23, 3) := by decide +kernel
theorem dX6_bears_10 : decode cX6_bears 10 = .ok (.aload_n 0, 1) := by decide +kernel
theorem dX6_bears_11 : decode cX6_bears 11 = .ok (.getfield 41, 3) := by decide +kernel
theorem dX6_bears_14 : decode cX6_bears 14 = .ok (.iload_n 2, 1) := by decide +kernel
theorem dX6_bears_15 : decode cX6_bears 15 = .ok (.iload_n 3, 1) := by decide +kernel
theorem dX6_bears_16 : decode cX6_bears 16 = .ok (.iadd, 1) := by decide +kernel
theorem dX6_bears_17 : decode cX6_bears 17 = .ok (.iaload, 1) := by decide +kernel
theorem dX6_bears_18 : decode cX6_bears 18 = .ok (.iload_n 1, 1) := by decide +kernel
theorem dX6_bears_19 : decode cX6_bears 19 = .ok (.if_icmp .ne 5, 3) := by decide +kernel
theorem dX6_bears_22 : decode cX6_bears 22 = .ok (.iload_n 3, 1) := by decide +kernel
theorem dX6_bears_23 : decode cX6_bears 23 = .ok (.ireturn, 1) := by decide +kernel
theorem dX6_bears_24 : decode cX6_bears 24 = .ok (.iinc 3 1, 3) := by decide +kernel
theorem dX6_bears_27 : decode cX6_bears 27 = .ok (.goto (-25), 3) := by decide +kernel
theorem dX6_bears_30 : decode cX6_bears 30 = .ok (.iconst (-1), 1) := by decide +kernel
theorem dX6_bears_31 : decode cX6_bears 31 = .ok (.ireturn, 1) := by decide +kernel
theorem dX6_isFit_0 : decode cX6_isFit 0 = .ok (.aload_n 0, 1) := by decide +kernel
theorem dX6_isFit_1 : decode cX6_isFit 1 = .ok (.getfield 29, 3) := by decide +kernel
theorem dX6_isFit_4 : decode cX6_isFit 4 = .ok (.iload_n 2, 1) := by decide +kernel
theorem dX6_isFit_5 : decode cX6_isFit 5 = .ok (.iload_n 1, 1) := by decide +kernel
theorem dX6_isFit_6 : decode cX6_isFit 6 = .ok (.iadd, 1) := by decide +kernel
theorem dX6_isFit_7 : decode cX6_isFit 7 = .ok (.iaload, 1) := by decide +kernel
theorem dX6_isFit_8 : decode cX6_isFit 8 = .ok (.aload_n 0, 1) := by decide +kernel
theorem dX6_isFit_9 : decode cX6_isFit 9 = .ok (.getfield 19, 3) := by decide +kernel
theorem dX6_isFit_12 : decode cX6_isFit 12 = .ok (.iconst 1, 1) := by decide +kernel
theorem dX6_isFit_13 : decode cX6_isFit 13 = .ok (.iaload, 1) := by decide +kernel
theorem dX6_isFit_14 : decode cX6_isFit 14 = .ok (.if_icmp .lt 29, 3) := by decide +kernel
theorem dX6_isFit_17 : decode cX6_isFit 17 = .ok (.aload_n 0, 1) := by decide +kernel
theorem dX6_isFit_18 : decode cX6_isFit 18 = .ok (.getfield 35, 3) := by decide +kernel
theorem dX6_isFit_21 : decode cX6_isFit 21 = .ok (.iload_n 2, 1) := by decide +kernel
theorem dX6_isFit_22 : decode cX6_isFit 22 = .ok (.iload_n 1, 1) := by decide +kernel
theorem dX6_isFit_23 : decode cX6_isFit 23 = .ok (.iadd, 1) := by decide +kernel
theorem dX6_isFit_24 : decode cX6_isFit 24 = .ok (.iaload, 1) := by decide +kernel
theorem dX6_isFit_25 : decode cX6_isFit 25 = .ok (.iload 4, 2) := by decide +kernel
theorem dX6_isFit_27 : decode cX6_isFit 27 = .ok (.if_icmp .gt 16, 3) := by decide +kernel
theorem dX6_isFit_30 : decode cX6_isFit 30 = .ok (.aload_n 0, 1) := by decide +kernel
theorem dX6_isFit_31 : decode cX6_isFit 31 = .ok (.iload_n 1, 1) := by decide +kernel
theorem dX6_isFit_32 : decode cX6_isFit 32 = .ok (.iload_n 3, 1) := by decide +kernel
theorem dX6_isFit_33 : decode cX6_isFit 33 = .ok (.invokevirtual 148, 3) := by decide +kernel
theorem dX6_isFit_36 : decode cX6_isFit 36 = .ok (.ifCond .ge 7, 3) := by decide +kernel
theorem dX6_isFit_39 : decode cX6_isFit 39 = .ok (.iconst 1, 1) := by decide +kernel
theorem dX6_isFit_40 : decode cX6_isFit 40 = .ok (.goto 4, 3) := by decide +kernel
theorem dX6_isFit_43 : decode cX6_isFit 43 = .ok (.iconst 0, 1) := by decide +kernel
theorem dX6_isFit_44 : decode cX6_isFit 44 = .ok (.ireturn, 1) := by decide +kernel
theorem dX6_fails_0 : decode cX6_fails 0 = .ok (.aload_n 0, 1) := by decide +kernel
theorem dX6_fails_1 : decode cX6_fails 1 = .ok (.iload_n 1, 1) := by decide +kernel
theorem dX6_fails_2 : decode cX6_fails 2 = .ok (.putfield 75, 3) := by decide +kernel
theorem dX6_fails_5 : decode cX6_fails 5 = .ok (.iconst 0, 1) := by decide +kernel
theorem dX6_fails_6 : decode cX6_fails 6 = .ok (.ireturn, 1) := by decide +kernel
theorem dX6_look_0 : decode cX6_look 0 = .ok (.aload_n 0, 1) := by decide +kernel
theorem dX6_look_1 : decode cX6_look 1 = .ok (.iconst 0, 1) := by decide +kernel
theorem dX6_look_2 : decode cX6_look 2 = .ok (.putfield 75, 3) := by decide +kernel
theorem dX6_look_5 : decode cX6_look 5 = .ok (.aload_n 0, 1) := by decide +kernel
theorem dX6_look_6 : decode cX6_look 6 = .ok (.iload_n 1, 1) := by decide +kernel
theorem dX6_look_7 : decode cX6_look 7 = .ok (.invokevirtual 145, 3) := by decide +kernel
theorem dX6_look_10 : decode cX6_look 10 = .ok (.ifCond .ne 9, 3) := by decide +kernel
theorem dX6_look_13 : decode cX6_look 13 = .ok (.aload_n 0, 1) := by decide +kernel
theorem dX6_look_14 : decode cX6_look 14 = .ok (.iconst 1, 1) := by decide +kernel
theorem dX6_look_15 : decode cX6_look 15 = .ok (.invokevirtual 151, 3) := by decide +kernel
theorem dX6_look_18 : decode cX6_look 18 = .ok (.ireturn, 1) := by decide +kernel
theorem dX6_look_19 : decode cX6_look 19 = .ok (.iload_n 2, 1) := by decide +kernel
theorem dX6_look_20 : decode cX6_look 20 = .ok (.tableswitch 115 0 5 #[40, 47, 54, 72, 79, 86], 40) := by decide +kernel
theorem dX6_look_60 : decode cX6_look 60 = .ok (.aload_n 0, 1) := by decide +kernel
theorem dX6_look_61 : decode cX6_look 61 = .ok (.getfield 29, 3) := by decide +kernel
theorem dX6_look_64 : decode cX6_look 64 = .ok (.iload_n 1, 1) := by decide +kernel
theorem dX6_look_65 : decode cX6_look 65 = .ok (.iaload, 1) := by decide +kernel
theorem dX6_look_66 : decode cX6_look 66 = .ok (.ireturn, 1) := by decide +kernel
theorem dX6_look_67 : decode cX6_look 67 = .ok (.aload_n 0, 1) := by decide +kernel
theorem dX6_look_68 : decode cX6_look 68 = .ok (.getfield 32, 3) := by decide +kernel
theorem dX6_look_71 : decode cX6_look 71 = .ok (.iload_n 1, 1) := by decide +kernel
theorem dX6_look_72 : decode cX6_look 72 = .ok (.iaload, 1) := by decide +kernel
theorem dX6_look_73 : decode cX6_look 73 = .ok (.ireturn, 1) := by decide +kernel
theorem dX6_look_74 : decode cX6_look 74 = .ok (.aload_n 0, 1) := by decide +kernel
theorem dX6_look_75 : decode cX6_look 75 = .ok (.getfield 132, 3) := by decide +kernel
theorem dX6_look_78 : decode cX6_look 78 = .ok (.ifCond .eq 12, 3) := by decide +kernel
theorem dX6_look_81 : decode cX6_look 81 = .ok (.aload_n 0, 1) := by decide +kernel
theorem dX6_look_82 : decode cX6_look 82 = .ok (.iload_n 1, 1) := by decide +kernel
theorem dX6_look_83 : decode cX6_look 83 = .ok (.iconst 0, 1) := by decide +kernel
theorem dX6_look_84 : decode cX6_look 84 = .ok (.invokevirtual 148, 3) := by decide +kernel
theorem dX6_look_87 : decode cX6_look 87 = .ok (.goto 4, 3) := by decide +kernel
theorem dX6_look_90 : decode cX6_look 90 = .ok (.iconst (-1), 1) := by decide +kernel
theorem dX6_look_91 : decode cX6_look 91 = .ok (.ireturn, 1) := by decide +kernel
theorem dX6_look_92 : decode cX6_look 92 = .ok (.aload_n 0, 1) := by decide +kernel
theorem dX6_look_93 : decode cX6_look 93 = .ok (.getfield 35, 3) := by decide +kernel
theorem dX6_look_96 : decode cX6_look 96 = .ok (.iload_n 1, 1) := by decide +kernel
theorem dX6_look_97 : decode cX6_look 97 = .ok (.iaload, 1) := by decide +kernel
theorem dX6_look_98 : decode cX6_look 98 = .ok (.ireturn, 1) := by decide +kernel
theorem dX6_look_99 : decode cX6_look 99 = .ok (.aload_n 0, 1) := by decide +kernel
theorem dX6_look_100 : decode cX6_look 100 = .ok (.getfield 38, 3) := by decide +kernel
theorem dX6_look_103 : decode cX6_look 103 = .ok (.iload_n 1, 1) := by decide +kernel
theorem dX6_look_104 : decode cX6_look 104 = .ok (.iaload, 1) := by decide +kernel
theorem dX6_look_105 : decode cX6_look 105 = .ok (.ireturn, 1) := by decide +kernel
theorem dX6_look_106 : decode cX6_look 106 = .ok (.aload_n 0, 1) := by decide +kernel
theorem dX6_look_107 : decode cX6_look 107 = .ok (.getfield 132, 3) := by decide +kernel
theorem dX6_look_110 : decode cX6_look 110 = .ok (.ifCond .eq 23, 3) := by decide +kernel
theorem dX6_look_113 : decode cX6_look 113 = .ok (.aload_n 0, 1) := by decide +kernel
theorem dX6_look_114 : decode cX6_look 114 = .ok (.iload_n 1, 1) := by decide +kernel
theorem dX6_look_115 : decode cX6_look 115 = .ok (.iconst 0, 1) := by decide +kernel
theorem dX6_look_116 : decode cX6_look 116 = .ok (.iconst 0, 1) := by decide +kernel
theorem dX6_look_117 : decode cX6_look 117 = .ok (.aload_n 0, 1) := by decide +kernel
theorem dX6_look_118 : decode cX6_look 118 = .ok (.getfield 155, 3) := by decide +kernel
theorem dX6_look_121 : decode cX6_look 121 = .ok (.iconst 1, 1) := by decide +kernel
theorem dX6_look_122 : decode cX6_look 122 = .ok (.isub, 1) := by decide +kernel
theorem dX6_look_123 : decode cX6_look 123 = .ok (.invokevirtual 158, 3) := by decide +kernel
theorem dX6_look_126 : decode cX6_look 126 = .ok (.ifCond .eq 7, 3) := by decide +kernel
theorem dX6_look_129 : decode cX6_look 129 = .ok (.iconst 1, 1) := by decide +kernel
theorem dX6_look_130 : decode cX6_look 130 = .ok (.goto 4, 3) := by decide +kernel
theorem dX6_look_133 : decode cX6_look 133 = .ok (.iconst 0, 1) := by decide +kernel
theorem dX6_look_134 : decode cX6_look 134 = .ok (.ireturn, 1) := by decide +kernel
theorem dX6_look_135 : decode cX6_look 135 = .ok (.aload_n 0, 1) := by decide +kernel
theorem dX6_look_136 : decode cX6_look 136 = .ok (.iconst 2, 1) := by decide +kernel
theorem dX6_look_137 : decode cX6_look 137 = .ok (.invokevirtual 151, 3) := by decide +kernel
theorem dX6_look_140 : decode cX6_look 140 = .ok (.ireturn, 1) := by decide +kernel
theorem dX6_richest_0 : decode cX6_richest 0 = .ok (.aload_n 0, 1) := by decide +kernel
theorem dX6_richest_1 : decode cX6_richest 1 = .ok (.iconst 0, 1) := by decide +kernel
theorem dX6_richest_2 : decode cX6_richest 2 = .ok (.putfield 75, 3) := by decide +kernel
theorem dX6_richest_5 : decode cX6_richest 5 = .ok (.iload_n 1, 1) := by decide +kernel
theorem dX6_richest_6 : decode cX6_richest 6 = .ok (.ifCond .lt 11, 3) := by decide +kernel
theorem dX6_richest_9 : decode cX6_richest 9 = .ok (.iload_n 1, 1) := by decide +kernel
theorem dX6_richest_10 : decode cX6_richest 10 = .ok (.aload_n 0, 1) := by decide +kernel
theorem dX6_richest_11 : decode cX6_richest 11 = .ok (.getfield 142, 3) := by decide +kernel
theorem dX6_richest_14 : decode cX6_richest 14 = .ok (.if_icmp .lt 5, 3) := by decide +kernel
theorem dX6_richest_17 : decode cX6_richest 17 = .ok (.iconst (-1), 1) := by decide +kernel
theorem dX6_richest_18 : decode cX6_richest 18 = .ok (.ireturn, 1) := by decide +kernel
theorem dX6_richest_19 : decode cX6_richest 19 = .ok (.iconst 0, 1) := by decide +kernel
theorem dX6_richest_20 : decode cX6_richest 20 = .ok (.istore_n 2, 1) := by decide +kernel
theorem dX6_richest_21 : decode cX6_richest 21 = .ok (.iload_n 2, 1) := by decide +kernel
theorem dX6_richest_22 : decode cX6_richest 22 = .ok (.aload_n 0, 1) := by decide +kernel
theorem dX6_richest_23 : decode cX6_richest 23 = .ok (.getfield 142, 3) := by decide +kernel
theorem dX6_richest_26 : decode cX6_richest 26 = .ok (.if_icmp .ge 82, 3) := by decide +kernel
theorem dX6_richest_29 : decode cX6_richest 29 = .ok (.iconst 0, 1) := by decide +kernel
theorem dX6_richest_30 : decode cX6_richest 30 = .ok (.istore_n 3, 1) := by decide +kernel
theorem dX6_richest_31 : decode cX6_richest 31 = .ok (.iconst 0, 1) := by decide +kernel
theorem dX6_richest_32 : decode cX6_richest 32 = .ok (.istore 4, 2) := by decide +kernel
theorem dX6_richest_34 : decode cX6_richest 34 = .ok (.iload 4, 2) := by decide +kernel
theorem dX6_richest_36 : decode cX6_richest 36 = .ok (.aload_n 0, 1) := by decide +kernel
theorem dX6_richest_37 : decode cX6_richest 37 = .ok (.getfield 142, 3) := by decide +kernel
theorem dX6_richest_40 : decode cX6_richest 40 = .ok (.if_icmp .ge 55, 3) := by decide +kernel
theorem dX6_richest_43 : decode cX6_richest 43 = .ok (.iload_n 3, 1) := by decide +kernel
theorem dX6_richest_44 : decode cX6_richest 44 = .ok (.aload_n 0, 1) := by decide +kernel
theorem dX6_richest_45 : decode cX6_richest 45 = .ok (.getfield 29, 3) := by decide +kernel
theorem dX6_richest_48 : decode cX6_richest 48 = .ok (.iload 4, 2) := by decide +kernel
theorem dX6_richest_50 : decode cX6_richest 50 = .ok (.iaload, 1) := by decide +kernel
theorem dX6_richest_51 : decode cX6_richest 51 = .ok (.aload_n 0, 1) := by decide +kernel
theorem dX6_richest_52 : decode cX6_richest 52 = .ok (.getfield 29, 3) := by decide +kernel
theorem dX6_richest_55 : decode cX6_richest 55 = .ok (.iload_n 2, 1) := by decide +kernel
theorem dX6_richest_56 : decode cX6_richest 56 = .ok (.iaload, 1) := by decide +kernel
theorem dX6_richest_57 : decode cX6_richest 57 = .ok (.if_icmp .gt 25, 3) := by decide +kernel
theorem dX6_richest_60 : decode cX6_richest 60 = .ok (.aload_n 0, 1) := by decide +kernel
theorem dX6_richest_61 : decode cX6_richest 61 = .ok (.getfield 29, 3) := by decide +kernel
theorem dX6_richest_64 : decode cX6_richest 64 = .ok (.iload 4, 2) := by decide +kernel
theorem dX6_richest_66 : decode cX6_richest 66 = .ok (.iaload, 1) := by decide +kernel
theorem dX6_richest_67 : decode cX6_richest 67 = .ok (.aload_n 0, 1) := by decide +kernel
theorem dX6_richest_68 : decode cX6_richest 68 = .ok (.getfield 29, 3) := by decide +kernel
theorem dX6_richest_71 : decode cX6_richest 71 = .ok (.iload_n 2, 1) := by decide +kernel
theorem dX6_richest_72 : decode cX6_richest 72 = .ok (.iaload, 1) := by decide +kernel
theorem dX6_richest_73 : decode cX6_richest 73 = .ok (.if_icmp .ne 13, 3) := by decide +kernel
theorem dX6_richest_76 : decode cX6_richest 76 = .ok (.iload 4, 2) := by decide +kernel
theorem dX6_richest_78 : decode cX6_richest 78 = .ok (.iload_n 2, 1) := by decide +kernel
theorem dX6_richest_79 : decode cX6_richest 79 = .ok (.if_icmp .ge 7, 3) := by decide +kernel
theorem dX6_richest_82 : decode cX6_richest 82 = .ok (.iconst 1, 1) := by decide +kernel
theorem dX6_richest_83 : decode cX6_richest 83 = .ok (.goto 4, 3) := by decide +kernel
theorem dX6_richest_86 : decode cX6_richest 86 = .ok (.iconst 0, 1) := by decide +kernel
theorem dX6_richest_87 : decode cX6_richest 87 = .ok (.iadd, 1) := by decide +kernel
theorem dX6_richest_88 : decode cX6_richest 88 = .ok (.istore_n 3, 1) := by decide +kernel
theorem dX6_richest_89 : decode cX6_richest 89 = .ok (.iinc 4 1, 3) := by decide +kernel
theorem dX6_richest_92 : decode cX6_richest 92 = .ok (.goto (-58), 3) := by decide +kernel
theorem dX6_richest_95 : decode cX6_richest 95 = .ok (.iload_n 3, 1) := by decide +kernel
theorem dX6_richest_96 : decode cX6_richest 96 = .ok (.iload_n 1, 1) := by decide +kernel
theorem dX6_richest_97 : decode cX6_richest 97 = .ok (.if_icmp .ne 5, 3) := by decide +kernel
theorem dX6_richest_100 : decode cX6_richest 100 = .ok (.iload_n 2, 1) := by decide +kernel
theorem dX6_richest_101 : decode cX6_richest 101 = .ok (.ireturn, 1) := by decide +kernel
theorem dX6_richest_102 : decode cX6_richest 102 = .ok (.iinc 2 1, 3) := by decide +kernel
theorem dX6_richest_105 : decode cX6_richest 105 = .ok (.goto (-84), 3) := by decide +kernel
theorem dX6_richest_108 : decode cX6_richest 108 = .ok (.iconst (-1), 1) := by decide +kernel
theorem dX6_richest_109 : decode cX6_richest 109 = .ok (.ireturn, 1) := by decide +kernel
theorem dX6_place_0 : decode cX6_place 0 = .ok (.aload_n 0, 1) := by decide +kernel
theorem dX6_place_1 : decode cX6_place 1 = .ok (.iconst 0, 1) := by decide +kernel
theorem dX6_place_2 : decode cX6_place 2 = .ok (.putfield 75, 3) := by decide +kernel
theorem dX6_place_5 : decode cX6_place 5 = .ok (.iload_n 1, 1) := by decide +kernel
theorem dX6_place_6 : decode cX6_place 6 = .ok (.ifCond .lt 20, 3) := by decide +kernel
theorem dX6_place_9 : decode cX6_place 9 = .ok (.iload_n 1, 1) := by decide +kernel
theorem dX6_place_10 : decode cX6_place 10 = .ok (.aload_n 0, 1) := by decide +kernel
theorem dX6_place_11 : decode cX6_place 11 = .ok (.getfield 139, 3) := by decide +kernel
theorem dX6_place_14 : decode cX6_place 14 = .ok (.if_icmp .ge 12, 3) := by decide +kernel
theorem dX6_place_17 : decode cX6_place 17 = .ok (.iload_n 2, 1) := by decide +kernel
theorem dX6_place_18 : decode cX6_place 18 = .ok (.ifCond .lt 8, 3) := by decide +kernel
theorem dX6_place_21 : decode cX6_place 21 = .ok (.iload_n 2, 1) := by decide +kernel
theorem dX6_place_22 : decode cX6_place 22 = .ok (.iconst 1, 1) := by decide +kernel
theorem dX6_place_23 : decode cX6_place 23 = .ok (.if_icmp .le 6, 3) := by decide +kernel
theorem dX6_place_26 : decode cX6_place 26 = .ok (.bipush (-2), 2) := by decide +kernel
theorem dX6_place_28 : decode cX6_place 28 = .ok (.ireturn, 1) := by decide +kernel
theorem dX6_place_29 : decode cX6_place 29 = .ok (.iload_n 2, 1) := by decide +kernel
theorem dX6_place_30 : decode cX6_place 30 = .ok (.ifCond .ne 12, 3) := by decide +kernel
theorem dX6_place_33 : decode cX6_place 33 = .ok (.aload_n 0, 1) := by decide +kernel
theorem dX6_place_34 : decode cX6_place 34 = .ok (.getfield 22, 3) := by decide +kernel
theorem dX6_place_37 : decode cX6_place 37 = .ok (.iload_n 1, 1) := by decide +kernel
theorem dX6_place_38 : decode cX6_place 38 = .ok (.iaload, 1) := by decide +kernel
theorem dX6_place_39 : decode cX6_place 39 = .ok (.goto 20, 3) := by decide +kernel
theorem dX6_place_42 : decode cX6_place 42 = .ok (.aload_n 0, 1) := by decide +kernel
theorem dX6_place_43 : decode cX6_place 43 = .ok (.getfield 132, 3) := by decide +kernel
theorem dX6_place_46 : decode cX6_place 46 = .ok (.ifCond .eq 12, 3) := by decide +kernel
theorem dX6_place_49 : decode cX6_place 49 = .ok (.aload_n 0, 1) := by decide +kernel
theorem dX6_place_50 : decode cX6_place 50 = .ok (.getfield 41, 3) := by decide +kernel
theorem dX6_place_53 : decode cX6_place 53 = .ok (.iload_n 1, 1) := by decide +kernel
theorem dX6_place_54 : decode cX6_place 54 = .ok (.iaload, 1) := by decide +kernel
theorem dX6_place_55 : decode cX6_place 55 = .ok (.goto 4, 3) := by decide +kernel
theorem dX6_place_58 : decode cX6_place 58 = .ok (.iconst (-1), 1) := by decide +kernel
theorem dX6_place_59 : decode cX6_place 59 = .ok (.ireturn, 1) := by decide +kernel
theorem dX6_fill_0 : decode cX6_fill 0 = .ok (.iconst 0, 1) := by decide +kernel
theorem dX6_fill_1 : decode cX6_fill 1 = .ok (.istore 4, 2) := by decide +kernel
theorem dX6_fill_3 : decode cX6_fill 3 = .ok (.iconst 0, 1) := by decide +kernel
theorem dX6_fill_4 : decode cX6_fill 4 = .ok (.istore 5, 2) := by decide +kernel
theorem dX6_fill_6 : decode cX6_fill 6 = .ok (.iload 5, 2) := by decide +kernel
theorem dX6_fill_8 : decode cX6_fill 8 = .ok (.aload_n 0, 1) := by decide +kernel
theorem dX6_fill_9 : decode cX6_fill 9 = .ok (.getfield 139, 3) := by decide +kernel
theorem dX6_fill_12 : decode cX6_fill 12 = .ok (.if_icmp .ge 19, 3) := by decide +kernel
theorem dX6_fill_15 : decode cX6_fill 15 = .ok (.aload_n 0, 1) := by decide +kernel
theorem dX6_fill_16 : decode cX6_fill 16 = .ok (.getfield 41, 3) := by decide +kernel
theorem dX6_fill_19 : decode cX6_fill 19 = .ok (.iload_n 2, 1) := by decide +kernel
theorem dX6_fill_20 : decode cX6_fill 20 = .ok (.iload 5, 2) := by decide +kernel
theorem dX6_fill_22 : decode cX6_fill 22 = .ok (.iadd, 1) := by decide +kernel
theorem dX6_fill_23 : decode cX6_fill 23 = .ok (.iconst (-1), 1) := by decide +kernel
theorem dX6_fill_24 : decode cX6_fill 24 = .ok (.iastore, 1) := by decide +kernel
theorem dX6_fill_25 : decode cX6_fill 25 = .ok (.iinc 5 1, 3) := by decide +kernel
theorem dX6_fill_28 : decode cX6_fill 28 = .ok (.goto (-22), 3) := by decide +kernel
theorem dX6_fill_31 : decode cX6_fill 31 = .ok (.iconst 0, 1) := by decide +kernel
theorem dX6_fill_32 : decode cX6_fill 32 = .ok (.istore 5, 2) := by decide +kernel
theorem dX6_fill_34 : decode cX6_fill 34 = .ok (.iload 5, 2) := by decide +kernel
theorem dX6_fill_36 : decode cX6_fill 36 = .ok (.aload_n 0, 1) := by decide +kernel
theorem dX6_fill_37 : decode cX6_fill 37 = .ok (.getfield 139, 3) := by decide +kernel
theorem dX6_fill_40 : decode cX6_fill 40 = .ok (.if_icmp .ge 98, 3) := by decide +kernel
theorem dX6_fill_43 : decode cX6_fill 43 = .ok (.iconst (-1), 1) := by decide +kernel
theorem dX6_fill_44 : decode cX6_fill 44 = .ok (.istore 6, 2) := by decide +kernel
theorem dX6_fill_46 : decode cX6_fill 46 = .ok (.iconst 0, 1) := by decide +kernel
theorem dX6_fill_47 : decode cX6_fill 47 = .ok (.istore 7, 2) := by decide +kernel
theorem dX6_fill_49 : decode cX6_fill 49 = .ok (.iload 7, 2) := by decide +kernel
theorem dX6_fill_51 : decode cX6_fill 51 = .ok (.aload_n 0, 1) := by decide +kernel
theorem dX6_fill_52 : decode cX6_fill 52 = .ok (.getfield 142, 3) := by decide +kernel
theorem dX6_fill_55 : decode cX6_fill 55 = .ok (.if_icmp .ge 51, 3) := by decide +kernel
theorem dX6_fill_58 : decode cX6_fill 58 = .ok (.aload_n 0, 1) := by decide +kernel
theorem dX6_fill_59 : decode cX6_fill 59 = .ok (.iload 7, 2) := by decide +kernel
theorem dX6_fill_61 : decode cX6_fill 61 = .ok (.iload_n 1, 1) := by decide +kernel
theorem dX6_fill_62 : decode cX6_fill 62 = .ok (.iload_n 2, 1) := by decide +kernel
theorem dX6_fill_63 : decode cX6_fill 63 = .ok (.iload_n 3, 1) := by decide +kernel
theorem dX6_fill_64 : decode cX6_fill 64 = .ok (.invokevirtual 158, 3) := by decide +kernel
theorem dX6_fill_67 : decode cX6_fill 67 = .ok (.ifCond .eq 33, 3) := by decide +kernel
theorem dX6_fill_70 : decode cX6_fill 70 = .ok (.iload 6, 2) := by decide +kernel
theorem dX6_fill_72 : decode cX6_fill 72 = .ok (.ifCond .lt 24, 3) := by decide +kernel
theorem dX6_fill_75 : decode cX6_fill 75 = .ok (.aload_n 0, 1) := by decide +kernel
theorem dX6_fill_76 : decode cX6_fill 76 = .ok (.getfield 29, 3) := by decide +kernel
theorem dX6_fill_79 : decode cX6_fill 79 = .ok (.iload_n 1, 1) := by decide +kernel
theorem dX6_fill_80 : decode cX6_fill 80 = .ok (.iload 7, 2) := by decide +kernel
theorem dX6_fill_82 : decode cX6_fill 82 = .ok (.iadd, 1) := by decide +kernel
theorem dX6_fill_83 : decode cX6_fill 83 = .ok (.iaload, 1) := by decide +kernel
theorem dX6_fill_84 : decode cX6_fill 84 = .ok (.aload_n 0, 1) := by decide +kernel
theorem dX6_fill_85 : decode cX6_fill 85 = .ok (.getfield 29, 3) := by decide +kernel
theorem dX6_fill_88 : decode cX6_fill 88 = .ok (.iload_n 1, 1) := by decide +kernel
theorem dX6_fill_89 : decode cX6_fill 89 = .ok (.iload 6, 2) := by decide +kernel
theorem dX6_fill_91 : decode cX6_fill 91 = .ok (.iadd, 1) := by decide +kernel
theorem dX6_fill_92 : decode cX6_fill 92 = .ok (.iaload, 1) := by decide +kernel
theorem dX6_fill_93 : decode cX6_fill 93 = .ok (.if_icmp .le 7, 3) := by decide +kernel
theorem dX6_fill_96 : decode cX6_fill 96 = .ok (.iload 7, 2) := by decide +kernel
theorem dX6_fill_98 : decode cX6_fill 98 = .ok (.istore 6, 2) := by decide +kernel
theorem dX6_fill_100 : decode cX6_fill 100 = .ok (.iinc 7 1, 3) := by decide +kernel
theorem dX6_fill_103 : decode cX6_fill 103 = .ok (.goto (-54), 3) := by decide +kernel
theorem dX6_fill_106 : decode cX6_fill 106 = .ok (.aload_n 0, 1) := by decide +kernel
theorem dX6_fill_107 : decode cX6_fill 107 = .ok (.getfield 41, 3) := by decide +kernel
theorem dX6_fill_110 : decode cX6_fill 110 = .ok (.iload_n 2, 1) := by decide +kernel
theorem dX6_fill_111 : decode cX6_fill 111 = .ok (.iload 5, 2) := by decide +kernel
theorem dX6_fill_113 : decode cX6_fill 113 = .ok (.iadd, 1) := by decide +kernel
theorem dX6_fill_114 : decode cX6_fill 114 = .ok (.iload 6, 2) := by decide +kernel
theorem dX6_fill_116 : decode cX6_fill 116 = .ok (.iastore, 1) := by decide +kernel
theorem dX6_fill_117 : decode cX6_fill 117 = .ok (.iload 4, 2) := by decide +kernel
theorem dX6_fill_119 : decode cX6_fill 119 = .ok (.iload 6, 2) := by decide +kernel
theorem dX6_fill_121 : decode cX6_fill 121 = .ok (.ifCond .ge 7, 3) := by decide +kernel
theorem dX6_fill_124 : decode cX6_fill 124 = .ok (.iconst 1, 1) := by decide +kernel
theorem dX6_fill_125 : decode cX6_fill 125 = .ok (.goto 4, 3) := by decide +kernel
theorem dX6_fill_128 : decode cX6_fill 128 = .ok (.iconst 0, 1) := by decide +kernel
theorem dX6_fill_129 : decode cX6_fill 129 = .ok (.iadd, 1) := by decide +kernel
theorem dX6_fill_130 : decode cX6_fill 130 = .ok (.istore 4, 2) := by decide +kernel
theorem dX6_fill_132 : decode cX6_fill 132 = .ok (.iinc 5 1, 3) := by decide +kernel
theorem dX6_fill_135 : decode cX6_fill 135 = .ok (.goto (-101), 3) := by decide +kernel
theorem dX6_fill_138 : decode cX6_fill 138 = .ok (.iload 4, 2) := by decide +kernel
theorem dX6_fill_140 : decode cX6_fill 140 = .ok (.ireturn, 1) := by decide +kernel
theorem dX6_begin_0 : decode cX6_begin 0 = .ok (.aload_n 0, 1) := by decide +kernel
theorem dX6_begin_1 : decode cX6_begin 1 = .ok (.iconst 0, 1) := by decide +kernel
theorem dX6_begin_2 : decode cX6_begin 2 = .ok (.putfield 75, 3) := by decide +kernel
theorem dX6_begin_5 : decode cX6_begin 5 = .ok (.aload_n 0, 1) := by decide +kernel
theorem dX6_begin_6 : decode cX6_begin 6 = .ok (.getfield 132, 3) := by decide +kernel
theorem dX6_begin_9 : decode cX6_begin 9 = .ok (.ifCond .ne 12, 3) := by decide +kernel
theorem dX6_begin_12 : decode cX6_begin 12 = .ok (.aload_n 0, 1) := by decide +kernel
theorem dX6_begin_13 : decode cX6_begin 13 = .ok (.getfield 155, 3) := by decide +kernel
theorem dX6_begin_16 : decode cX6_begin 16 = .ok (.bipush 40, 2) := by decide +kernel
theorem dX6_begin_18 : decode cX6_begin 18 = .ok (.if_icmp .ne 5, 3) := by decide +kernel
theorem dX6_begin_21 : decode cX6_begin 21 = .ok (.iconst (-1), 1) := by decide +kernel
theorem dX6_begin_22 : decode cX6_begin 22 = .ok (.ireturn, 1) := by decide +kernel
theorem dX6_begin_23 : decode cX6_begin 23 = .ok (.aload_n 0, 1) := by decide +kernel
theorem dX6_begin_24 : decode cX6_begin 24 = .ok (.iconst 1, 1) := by decide +kernel
theorem dX6_begin_25 : decode cX6_begin 25 = .ok (.putfield 132, 3) := by decide +kernel
theorem dX6_begin_28 : decode cX6_begin 28 = .ok (.aload_n 0, 1) := by decide +kernel
theorem dX6_begin_29 : decode cX6_begin 29 = .ok (.dup, 1) := by decide +kernel
theorem dX6_begin_30 : decode cX6_begin 30 = .ok (.getfield 155, 3) := by decide +kernel
theorem dX6_begin_33 : decode cX6_begin 33 = .ok (.iconst 1, 1) := by decide +kernel
theorem dX6_begin_34 : decode cX6_begin 34 = .ok (.iadd, 1) := by decide +kernel
theorem dX6_begin_35 : decode cX6_begin 35 = .ok (.putfield 155, 3) := by decide +kernel
theorem dX6_begin_38 : decode cX6_begin 38 = .ok (.aload_n 0, 1) := by decide +kernel
theorem dX6_begin_39 : decode cX6_begin 39 = .ok (.iconst 0, 1) := by decide +kernel
theorem dX6_begin_40 : decode cX6_begin 40 = .ok (.putfield 162, 3) := by decide +kernel
theorem dX6_begin_43 : decode cX6_begin 43 = .ok (.aload_n 0, 1) := by decide +kernel
theorem dX6_begin_44 : decode cX6_begin 44 = .ok (.iconst 0, 1) := by decide +kernel
theorem dX6_begin_45 : decode cX6_begin 45 = .ok (.putfield 165, 3) := by decide +kernel
theorem dX6_begin_48 : decode cX6_begin 48 = .ok (.aload_n 0, 1) := by decide +kernel
theorem dX6_begin_49 : decode cX6_begin 49 = .ok (.iconst 0, 1) := by decide +kernel
theorem dX6_begin_50 : decode cX6_begin 50 = .ok (.iconst 0, 1) := by decide +kernel
theorem dX6_begin_51 : decode cX6_begin 51 = .ok (.aload_n 0, 1) := by decide +kernel
theorem dX6_begin_52 : decode cX6_begin 52 = .ok (.getfield 155, 3) := by decide +kernel
theorem dX6_begin_55 : decode cX6_begin 55 = .ok (.iconst 1, 1) := by decide +kernel
theorem dX6_begin_56 : decode cX6_begin 56 = .ok (.isub, 1) := by decide +kernel
theorem dX6_begin_57 : decode cX6_begin 57 = .ok (.invokevirtual 168, 3) := by decide +kernel
theorem dX6_begin_60 : decode cX6_begin 60 = .ok (.istore_n 1, 1) := by decide +kernel
theorem dX6_begin_61 : decode cX6_begin 61 = .ok (.iconst 0, 1) := by decide +kernel
theorem dX6_begin_62 : decode cX6_begin 62 = .ok (.istore_n 2, 1) := by decide +kernel
theorem dX6_begin_63 : decode cX6_begin 63 = .ok (.iload_n 2, 1) := by decide +kernel
theorem dX6_begin_64 : decode cX6_begin 64 = .ok (.sipush 288, 3) := by decide +kernel
theorem dX6_begin_67 : decode cX6_begin 67 = .ok (.if_icmp .ge 16, 3) := by decide +kernel
theorem dX6_begin_70 : decode cX6_begin 70 = .ok (.aload_n 0, 1) := by decide +kernel
theorem dX6_begin_71 : decode cX6_begin 71 = .ok (.getfield 44, 3) := by decide +kernel
theorem dX6_begin_74 : decode cX6_begin 74 = .ok (.iload_n 2, 1) := by decide +kernel
theorem dX6_begin_75 : decode cX6_begin 75 = .ok (.iconst 0, 1) := by decide +kernel
theorem dX6_begin_76 : decode cX6_begin 76 = .ok (.bastore, 1) := by decide +kernel
theorem dX6_begin_77 : decode cX6_begin 77 = .ok (.iinc 2 1, 3) := by decide +kernel
theorem dX6_begin_80 : decode cX6_begin 80 = .ok (.goto (-17), 3) := by decide +kernel
theorem dX6_begin_83 : decode cX6_begin 83 = .ok (.iconst 0, 1) := by decide +kernel
theorem dX6_begin_84 : decode cX6_begin 84 = .ok (.istore_n 2, 1) := by decide +kernel
theorem dX6_begin_85 : decode cX6_begin 85 = .ok (.iload_n 2, 1) := by decide +kernel
theorem dX6_begin_86 : decode cX6_begin 86 = .ok (.aload_n 0, 1) := by decide +kernel
theorem dX6_begin_87 : decode cX6_begin 87 = .ok (.getfield 139, 3) := by decide +kernel
theorem dX6_begin_90 : decode cX6_begin 90 = .ok (.if_icmp .ge 35, 3) := by decide +kernel
theorem dX6_begin_93 : decode cX6_begin 93 = .ok (.aload_n 0, 1) := by decide +kernel
theorem dX6_begin_94 : decode cX6_begin 94 = .ok (.getfield 41, 3) := by decide +kernel
theorem dX6_begin_97 : decode cX6_begin 97 = .ok (.iload_n 2, 1) := by decide +kernel
theorem dX6_begin_98 : decode cX6_begin 98 = .ok (.iaload, 1) := by decide +kernel
theorem dX6_begin_99 : decode cX6_begin 99 = .ok (.ifCond .lt 20, 3) := by decide +kernel
theorem dX6_begin_102 : decode cX6_begin 102 = .ok (.aload_n 0, 1) := by decide +kernel
theorem dX6_begin_103 : decode cX6_begin 103 = .ok (.getfield 44, 3) := by decide +kernel
theorem dX6_begin_106 : decode cX6_begin 106 = .ok (.bipush 24, 2) := by decide +kernel
theorem dX6_begin_108 : decode cX6_begin 108 = .ok (.aload_n 0, 1) := by decide +kernel
theorem dX6_begin_109 : decode cX6_begin 109 = .ok (.getfield 41, 3) := by decide +kernel
theorem dX6_begin_112 : decode cX6_begin 112 = .ok (.iload_n 2, 1) := by decide +kernel
theorem dX6_begin_113 : decode cX6_begin 113 = .ok (.iaload, 1) := by decide +kernel
theorem dX6_begin_114 : decode cX6_begin 114 = .ok (.imul, 1) := by decide +kernel
theorem dX6_begin_115 : decode cX6_begin 115 = .ok (.iload_n 2, 1) := by decide +kernel
theorem dX6_begin_116 : decode cX6_begin 116 = .ok (.iadd, 1) := by decide +kernel
theorem dX6_begin_117 : decode cX6_begin 117 = .ok (.iconst 1, 1) := by decide +kernel
theorem dX6_begin_118 : decode cX6_begin 118 = .ok (.bastore, 1) := by decide +kernel
theorem dX6_begin_119 : decode cX6_begin 119 = .ok (.iinc 2 1, 3) := by decide +kernel
theorem dX6_begin_122 : decode cX6_begin 122 = .ok (.goto (-37), 3) := by decide +kernel
theorem dX6_begin_125 : decode cX6_begin 125 = .ok (.iload_n 1, 1) := by decide +kernel
theorem dX6_begin_126 : decode cX6_begin 126 = .ok (.ireturn, 1) := by decide +kernel
theorem dX6_pays_0 : decode cX6_pays 0 = .ok (.aload_n 0, 1) := by decide +kernel
theorem dX6_pays_1 : decode cX6_pays 1 = .ok (.getfield 22, 3) := by decide +kernel
theorem dX6_pays_4 : decode cX6_pays 4 = .ok (.iload_n 1, 1) := by decide +kernel
theorem dX6_pays_5 : decode cX6_pays 5 = .ok (.iaload, 1) := by decide +kernel
theorem dX6_pays_6 : decode cX6_pays 6 = .ok (.istore_n 3, 1) := by decide +kernel
theorem dX6_pays_7 : decode cX6_pays 7 = .ok (.iconst 0, 1) := by decide +kernel
theorem dX6_pays_8 : decode cX6_pays 8 = .ok (.istore 4, 2) := by decide +kernel
theorem dX6_pays_10 : decode cX6_pays 10 = .ok (.iconst 0, 1) := by decide +kernel
theorem dX6_pays_11 : decode cX6_pays 11 = .ok (.istore 5, 2) := by decide +kernel
theorem dX6_pays_13 : decode cX6_pays 13 = .ok (.iload 5, 2) := by decide +kernel
theorem dX6_pays_15 : decode cX6_pays 15 = .ok (.iload_n 1, 1) := by decide +kernel
theorem dX6_pays_16 : decode cX6_pays 16 = .ok (.if_icmp .ge 42, 3) := by decide +kernel
theorem dX6_pays_19 : decode cX6_pays 19 = .ok (.iload 4, 2) := by decide +kernel
theorem dX6_pays_21 : decode cX6_pays 21 = .ok (.aload_n 0, 1) := by decide +kernel
theorem dX6_pays_22 : decode cX6_pays 22 = .ok (.getfield 22, 3) := by decide +kernel
theorem dX6_pays_25 : decode cX6_pays 25 = .ok (.iload 5, 2) := by decide +kernel
theorem dX6_pays_27 : decode cX6_pays 27 = .ok (.iaload, 1) := by decide +kernel
theorem dX6_pays_28 : decode cX6_pays 28 = .ok (.iload_n 3, 1) := by decide +kernel
theorem dX6_pays_29 : decode cX6_pays 29 = .ok (.if_icmp .ne 19, 3) := by decide +kernel
theorem dX6_pays_32 : decode cX6_pays 32 = .ok (.aload_n 0, 1) := by decide +kernel
theorem dX6_pays_33 : decode cX6_pays 33 = .ok (.getfield 41, 3) := by decide +kernel
theorem dX6_pays_36 : decode cX6_pays 36 = .ok (.iload_n 2, 1) := by decide +kernel
theorem dX6_pays_37 : decode cX6_pays 37 = .ok (.iload 5, 2) := by decide +kernel
theorem dX6_pays_39 : decode cX6_pays 39 = .ok (.iadd, 1) := by decide +kernel
theorem dX6_pays_40 : decode cX6_pays 40 = .ok (.iaload, 1) := by decide +kernel
theorem dX6_pays_41 : decode cX6_pays 41 = .ok (.ifCond .lt 7, 3) := by decide +kernel
theorem dX6_pays_44 : decode cX6_pays 44 = .ok (.iconst 1, 1) := by decide +kernel
theorem dX6_pays_45 : decode cX6_pays 45 = .ok (.goto 4, 3) := by decide +kernel
theorem dX6_pays_48 : decode cX6_pays 48 = .ok (.iconst 0, 1) := by decide +kernel
theorem dX6_pays_49 : decode cX6_pays 49 = .ok (.iadd, 1) := by decide +kernel
theorem dX6_pays_50 : decode cX6_pays 50 = .ok (.istore 4, 2) := by decide +kernel
theorem dX6_pays_52 : decode cX6_pays 52 = .ok (.iinc 5 1, 3) := by decide +kernel
theorem dX6_pays_55 : decode cX6_pays 55 = .ok (.goto (-42), 3) := by decide +kernel
theorem dX6_pays_58 : decode cX6_pays 58 = .ok (.aload_n 0, 1) := by decide +kernel
theorem dX6_pays_59 : decode cX6_pays 59 = .ok (.getfield 13, 3) := by decide +kernel
theorem dX6_pays_62 : decode cX6_pays 62 = .ok (.iload_n 3, 1) := by decide +kernel
theorem dX6_pays_63 : decode cX6_pays 63 = .ok (.iaload, 1) := by decide +kernel
theorem dX6_pays_64 : decode cX6_pays 64 = .ok (.aload_n 0, 1) := by decide +kernel
theorem dX6_pays_65 : decode cX6_pays 65 = .ok (.getfield 16, 3) := by decide +kernel
theorem dX6_pays_68 : decode cX6_pays 68 = .ok (.iload_n 3, 1) := by decide +kernel
theorem dX6_pays_69 : decode cX6_pays 69 = .ok (.iaload, 1) := by decide +kernel
theorem dX6_pays_70 : decode cX6_pays 70 = .ok (.idiv, 1) := by decide +kernel
theorem dX6_pays_71 : decode cX6_pays 71 = .ok (.iload 4, 2) := by decide +kernel
theorem dX6_pays_73 : decode cX6_pays 73 = .ok (.aload_n 0, 1) := by decide +kernel
theorem dX6_pays_74 : decode cX6_pays 74 = .ok (.getfield 13, 3) := by decide +kernel
theorem dX6_pays_77 : decode cX6_pays 77 = .ok (.iload_n 3, 1) := by decide +kernel
theorem dX6_pays_78 : decode cX6_pays 78 = .ok (.iaload, 1) := by decide +kernel
theorem dX6_pays_79 : decode cX6_pays 79 = .ok (.aload_n 0, 1) := by decide +kernel
theorem dX6_pays_80 : decode cX6_pays 80 = .ok (.getfield 16, 3) := by decide +kernel
theorem dX6_pays_83 : decode cX6_pays 83 = .ok (.iload_n 3, 1) := by decide +kernel
theorem dX6_pays_84 : decode cX6_pays 84 = .ok (.iaload, 1) := by decide +kernel
theorem dX6_pays_85 : decode cX6_pays 85 = .ok (.irem, 1) := by decide +kernel
theorem dX6_pays_86 : decode cX6_pays 86 = .ok (.if_icmp .ge 7, 3) := by decide +kernel
theorem dX6_pays_89 : decode cX6_pays 89 = .ok (.iconst 1, 1) := by decide +kernel
theorem dX6_pays_90 : decode cX6_pays 90 = .ok (.goto 4, 3) := by decide +kernel
theorem dX6_pays_93 : decode cX6_pays 93 = .ok (.iconst 0, 1) := by decide +kernel
theorem dX6_pays_94 : decode cX6_pays 94 = .ok (.iadd, 1) := by decide +kernel
theorem dX6_pays_95 : decode cX6_pays 95 = .ok (.ireturn, 1) := by decide +kernel
theorem dX6_ends_0 : decode cX6_ends 0 = .ok (.iconst 0, 1) := by decide +kernel
theorem dX6_ends_1 : decode cX6_ends 1 = .ok (.istore 4, 2) := by decide +kernel
theorem dX6_ends_3 : decode cX6_ends 3 = .ok (.iconst 0, 1) := by decide +kernel
theorem dX6_ends_4 : decode cX6_ends 4 = .ok (.istore 5, 2) := by decide +kernel
theorem dX6_ends_6 : decode cX6_ends 6 = .ok (.iload 5, 2) := by decide +kernel
theorem dX6_ends_8 : decode cX6_ends 8 = .ok (.aload_n 0, 1) := by decide +kernel
theorem dX6_ends_9 : decode cX6_ends 9 = .ok (.getfield 139, 3) := by decide +kernel
theorem dX6_ends_12 : decode cX6_ends 12 = .ok (.if_icmp .ge 77, 3) := by decide +kernel
theorem dX6_ends_15 : decode cX6_ends 15 = .ok (.aload_n 0, 1) := by decide +kernel
theorem dX6_ends_16 : decode cX6_ends 16 = .ok (.getfield 41, 3) := by decide +kernel
theorem dX6_ends_19 : decode cX6_ends 19 = .ok (.iload_n 2, 1) := by decide +kernel
theorem dX6_ends_20 : decode cX6_ends 20 = .ok (.iload 5, 2) := by decide +kernel
theorem dX6_ends_22 : decode cX6_ends 22 = .ok (.iadd, 1) := by decide +kernel
theorem dX6_ends_23 : decode cX6_ends 23 = .ok (.iaload, 1) := by decide +kernel
theorem dX6_ends_24 : decode cX6_ends 24 = .ok (.istore 6, 2) := by decide +kernel
theorem dX6_ends_26 : decode cX6_ends 26 = .ok (.iload 6, 2) := by decide +kernel
theorem dX6_ends_28 : decode cX6_ends 28 = .ok (.ifCond .ge 6, 3) := by decide +kernel
theorem dX6_ends_31 : decode cX6_ends 31 = .ok (.goto 52, 3) := by decide +kernel
theorem dX6_ends_34 : decode cX6_ends 34 = .ok (.aload_n 0, 1) := by decide +kernel
theorem dX6_ends_35 : decode cX6_ends 35 = .ok (.iload 5, 2) := by decide +kernel
theorem dX6_ends_37 : decode cX6_ends 37 = .ok (.iload_n 2, 1) := by decide +kernel
theorem dX6_ends_38 : decode cX6_ends 38 = .ok (.invokevirtual 172, 3) := by decide +kernel
theorem dX6_ends_41 : decode cX6_ends 41 = .ok (.istore 7, 2) := by decide +kernel
theorem dX6_ends_43 : decode cX6_ends 43 = .ok (.iload 4, 2) := by decide +kernel
theorem dX6_ends_45 : decode cX6_ends 45 = .ok (.iload 7, 2) := by decide +kernel
theorem dX6_ends_47 : decode cX6_ends 47 = .ok (.iadd, 1) := by decide +kernel
theorem dX6_ends_48 : decode cX6_ends 48 = .ok (.istore 4, 2) := by decide +kernel
theorem dX6_ends_50 : decode cX6_ends 50 = .ok (.aload_n 0, 1) := by decide +kernel
theorem dX6_ends_51 : decode cX6_ends 51 = .ok (.getfield 29, 3) := by decide +kernel
theorem dX6_ends_54 : decode cX6_ends 54 = .ok (.iload_n 1, 1) := by decide +kernel
theorem dX6_ends_55 : decode cX6_ends 55 = .ok (.iload 6, 2) := by decide +kernel
theorem dX6_ends_57 : decode cX6_ends 57 = .ok (.iadd, 1) := by decide +kernel
theorem dX6_ends_58 : decode cX6_ends 58 = .ok (.dup2, 1) := by decide +kernel
theorem dX6_ends_59 : decode cX6_ends 59 = .ok (.iaload, 1) := by decide +kernel
theorem dX6_ends_60 : decode cX6_ends 60 = .ok (.iload 7, 2) := by decide +kernel
theorem dX6_ends_62 : decode cX6_ends 62 = .ok (.isub, 1) := by decide +kernel
theorem dX6_ends_63 : decode cX6_ends 63 = .ok (.iastore, 1) := by decide +kernel
theorem dX6_ends_64 : decode cX6_ends 64 = .ok (.aload_n 0, 1) := by decide +kernel
theorem dX6_ends_65 : decode cX6_ends 65 = .ok (.getfield 35, 3) := by decide +kernel
theorem dX6_ends_68 : decode cX6_ends 68 = .ok (.iload_n 1, 1) := by decide +kernel
theorem dX6_ends_69 : decode cX6_ends 69 = .ok (.iload 6, 2) := by decide +kernel
theorem dX6_ends_71 : decode cX6_ends 71 = .ok (.iadd, 1) := by decide +kernel
theorem dX6_ends_72 : decode cX6_ends 72 = .ok (.iload_n 3, 1) := by decide +kernel
theorem dX6_ends_73 : decode cX6_ends 73 = .ok (.aload_n 0, 1) := by decide +kernel
theorem dX6_ends_74 : decode cX6_ends 74 = .ok (.getfield 19, 3) := by decide +kernel
theorem dX6_ends_77 : decode cX6_ends 77 = .ok (.iconst 0, 1) := by decide +kernel
theorem dX6_ends_78 : decode cX6_ends 78 = .ok (.iaload, 1) := by decide +kernel
theorem dX6_ends_79 : decode cX6_ends 79 = .ok (.iadd, 1) := by decide +kernel
theorem dX6_ends_80 : decode cX6_ends 80 = .ok (.iconst 1, 1) := by decide +kernel
theorem dX6_ends_81 : decode cX6_ends 81 = .ok (.iadd, 1) := by decide +kernel
theorem dX6_ends_82 : decode cX6_ends 82 = .ok (.iastore, 1) := by decide +kernel
theorem dX6_ends_83 : decode cX6_ends 83 = .ok (.iinc 5 1, 3) := by decide +kernel
theorem dX6_ends_86 : decode cX6_ends 86 = .ok (.goto (-80), 3) := by decide +kernel
theorem dX6_ends_89 : decode cX6_ends 89 = .ok (.iload 4, 2) := by decide +kernel
theorem dX6_ends_91 : decode cX6_ends 91 = .ok (.ireturn, 1) := by decide +kernel
theorem dX6_isOpen_0 : decode cX6_isOpen 0 = .ok (.aload_n 0, 1) := by decide +kernel
theorem dX6_isOpen_1 : decode cX6_isOpen 1 = .ok (.getfield 60, 3) := by decide +kernel
theorem dX6_isOpen_4 : decode cX6_isOpen 4 = .ok (.iload_n 1, 1) := by decide +kernel
theorem dX6_isOpen_5 : decode cX6_isOpen 5 = .ok (.iaload, 1) := by decide +kernel
theorem dX6_isOpen_6 : decode cX6_isOpen 6 = .ok (.iconst 2, 1) := by decide +kernel
theorem dX6_isOpen_7 : decode cX6_isOpen 7 = .ok (.if_icmp .ge 7, 3) := by decide +kernel
theorem dX6_isOpen_10 : decode cX6_isOpen 10 = .ok (.iconst 1, 1) := by decide +kernel
theorem dX6_isOpen_11 : decode cX6_isOpen 11 = .ok (.goto 4, 3) := by decide +kernel
theorem dX6_isOpen_14 : decode cX6_isOpen 14 = .ok (.iconst 0, 1) := by decide +kernel
theorem dX6_isOpen_15 : decode cX6_isOpen 15 = .ok (.ireturn, 1) := by decide +kernel
theorem dX6_goesOver_0 : decode cX6_goesOver 0 = .ok (.aload_n 0, 1) := by decide +kernel
theorem dX6_goesOver_1 : decode cX6_goesOver 1 = .ok (.getfield 60, 3) := by decide +kernel
theorem dX6_goesOver_4 : decode cX6_goesOver 4 = .ok (.iload_n 1, 1) := by decide +kernel
theorem dX6_goesOver_5 : decode cX6_goesOver 5 = .ok (.iaload, 1) := by decide +kernel
theorem dX6_goesOver_6 : decode cX6_goesOver 6 = .ok (.ifCond .ne 36, 3) := by decide +kernel
theorem dX6_goesOver_9 : decode cX6_goesOver 9 = .ok (.aload_n 0, 1) := by decide +kernel
theorem dX6_goesOver_10 : decode cX6_goesOver 10 = .ok (.getfield 29, 3) := by decide +kernel
theorem dX6_goesOver_13 : decode cX6_goesOver 13 = .ok (.aload_n 0, 1) := by decide +kernel
theorem dX6_goesOver_14 : decode cX6_goesOver 14 = .ok (.getfield 51, 3) := by decide +kernel
theorem dX6_goesOver_17 : decode cX6_goesOver 17 = .ok (.iload_n 1, 1) := by decide +kernel
theorem dX6_goesOver_18 : decode cX6_goesOver 18 = .ok (.iaload, 1) := by decide +kernel
theorem dX6_goesOver_19 : decode cX6_goesOver 19 = .ok (.iaload, 1) := by decide +kernel
theorem dX6_goesOver_20 : decode cX6_goesOver 20 = .ok (.aload_n 0, 1) := by decide +kernel
theorem dX6_goesOver_21 : decode cX6_goesOver 21 = .ok (.getfield 29, 3) := by decide +kernel
theorem dX6_goesOver_24 : decode cX6_goesOver 24 = .ok (.aload_n 0, 1) := by decide +kernel
theorem dX6_goesOver_25 : decode cX6_goesOver 25 = .ok (.getfield 48, 3) := by decide +kernel
theorem dX6_goesOver_28 : decode cX6_goesOver 28 = .ok (.iload_n 1, 1) := by decide +kernel
theorem dX6_goesOver_29 : decode cX6_goesOver 29 = .ok (.iaload, 1) := by decide +kernel
theorem dX6_goesOver_30 : decode cX6_goesOver 30 = .ok (.iaload, 1) := by decide +kernel
theorem dX6_goesOver_31 : decode cX6_goesOver 31 = .ok (.if_icmp .le 7, 3) := by decide +kernel
theorem dX6_goesOver_34 : decode cX6_goesOver 34 = .ok (.iconst 1, 1) := by decide +kernel
theorem dX6_goesOver_35 : decode cX6_goesOver 35 = .ok (.goto 30, 3) := by decide +kernel
theorem dX6_goesOver_38 : decode cX6_goesOver 38 = .ok (.iconst 0, 1) := by decide +kernel
theorem dX6_goesOver_39 : decode cX6_goesOver 39 = .ok (.goto 26, 3) := by decide +kernel
theorem dX6_goesOver_42 : decode cX6_goesOver 42 = .ok (.aload_n 0, 1) := by decide +kernel
theorem dX6_goesOver_43 : decode cX6_goesOver 43 = .ok (.getfield 66, 3) := by decide +kernel
theorem dX6_goesOver_46 : decode cX6_goesOver 46 = .ok (.iload_n 1, 1) := by decide +kernel
theorem dX6_goesOver_47 : decode cX6_goesOver 47 = .ok (.baload, 1) := by decide +kernel
theorem dX6_goesOver_48 : decode cX6_goesOver 48 = .ok (.ifCond .eq 16, 3) := by decide +kernel
theorem dX6_goesOver_51 : decode cX6_goesOver 51 = .ok (.aload_n 0, 1) := by decide +kernel
theorem dX6_goesOver_52 : decode cX6_goesOver 52 = .ok (.getfield 69, 3) := by decide +kernel
theorem dX6_goesOver_55 : decode cX6_goesOver 55 = .ok (.iload_n 1, 1) := by decide +kernel
theorem dX6_goesOver_56 : decode cX6_goesOver 56 = .ok (.baload, 1) := by decide +kernel
theorem dX6_goesOver_57 : decode cX6_goesOver 57 = .ok (.ifCond .ne 7, 3) := by decide +kernel
theorem dX6_goesOver_60 : decode cX6_goesOver 60 = .ok (.iconst 1, 1) := by decide +kernel
theorem dX6_goesOver_61 : decode cX6_goesOver 61 = .ok (.goto 4, 3) := by decide +kernel
theorem dX6_goesOver_64 : decode cX6_goesOver 64 = .ok (.iconst 0, 1) := by decide +kernel
theorem dX6_goesOver_65 : decode cX6_goesOver 65 = .ok (.ireturn, 1) := by decide +kernel
theorem dX6_over_0 : decode cX6_over 0 = .ok (.aload_n 0, 1) := by decide +kernel
theorem dX6_over_1 : decode cX6_over 1 = .ok (.getfield 41, 3) := by decide +kernel
theorem dX6_over_4 : decode cX6_over 4 = .ok (.aload_n 0, 1) := by decide +kernel
theorem dX6_over_5 : decode cX6_over 5 = .ok (.getfield 54, 3) := by decide +kernel
theorem dX6_over_8 : decode cX6_over 8 = .ok (.iload_n 1, 1) := by decide +kernel
theorem dX6_over_9 : decode cX6_over 9 = .ok (.iaload, 1) := by decide +kernel
theorem dX6_over_10 : decode cX6_over 10 = .ok (.aload_n 0, 1) := by decide +kernel
theorem dX6_over_11 : decode cX6_over 11 = .ok (.getfield 51, 3) := by decide +kernel
theorem dX6_over_14 : decode cX6_over 14 = .ok (.iload_n 1, 1) := by decide +kernel
theorem dX6_over_15 : decode cX6_over 15 = .ok (.iaload, 1) := by decide +kernel
theorem dX6_over_16 : decode cX6_over 16 = .ok (.iastore, 1) := by decide +kernel
theorem dX6_over_17 : decode cX6_over 17 = .ok (.aload_n 0, 1) := by decide +kernel
theorem dX6_over_18 : decode cX6_over 18 = .ok (.getfield 44, 3) := by decide +kernel
theorem dX6_over_21 : decode cX6_over 21 = .ok (.bipush 24, 2) := by decide +kernel
theorem dX6_over_23 : decode cX6_over 23 = .ok (.aload_n 0, 1) := by decide +kernel
theorem dX6_over_24 : decode cX6_over 24 = .ok (.getfield 51, 3) := by decide +kernel
theorem dX6_over_27 : decode cX6_over 27 = .ok (.iload_n 1, 1) := by decide +kernel
theorem dX6_over_28 : decode cX6_over 28 = .ok (.iaload, 1) := by decide +kernel
theorem dX6_over_29 : decode cX6_over 29 = .ok (.imul, 1) := by decide +kernel
theorem dX6_over_30 : decode cX6_over 30 = .ok (.aload_n 0, 1) := by decide +kernel
theorem dX6_over_31 : decode cX6_over 31 = .ok (.getfield 54, 3) := by decide +kernel
theorem dX6_over_34 : decode cX6_over 34 = .ok (.iload_n 1, 1) := by decide +kernel
theorem dX6_over_35 : decode cX6_over 35 = .ok (.iaload, 1) := by decide +kernel
theorem dX6_over_36 : decode cX6_over 36 = .ok (.iadd, 1) := by decide +kernel
theorem dX6_over_37 : decode cX6_over 37 = .ok (.iconst 1, 1) := by decide +kernel
theorem dX6_over_38 : decode cX6_over 38 = .ok (.bastore, 1) := by decide +kernel
theorem dX6_over_39 : decode cX6_over 39 = .ok (.return_, 1) := by decide +kernel
theorem dX6_judge_0 : decode cX6_judge 0 = .ok (.aload_n 0, 1) := by decide +kernel
theorem dX6_judge_1 : decode cX6_judge 1 = .ok (.iload_n 1, 1) := by decide +kernel
theorem dX6_judge_2 : decode cX6_judge 2 = .ok (.invokevirtual 175, 3) := by decide +kernel
theorem dX6_judge_5 : decode cX6_judge 5 = .ok (.istore_n 2, 1) := by decide +kernel
theorem dX6_judge_6 : decode cX6_judge 6 = .ok (.aload_n 0, 1) := by decide +kernel
theorem dX6_judge_7 : decode cX6_judge 7 = .ok (.getfield 60, 3) := by decide +kernel
theorem dX6_judge_10 : decode cX6_judge 10 = .ok (.iload_n 1, 1) := by decide +kernel
theorem dX6_judge_11 : decode cX6_judge 11 = .ok (.iload_n 2, 1) := by decide +kernel
theorem dX6_judge_12 : decode cX6_judge 12 = .ok (.ifCond .eq 7, 3) := by decide +kernel
theorem dX6_judge_15 : decode cX6_judge 15 = .ok (.iconst 4, 1) := by decide +kernel
theorem dX6_judge_16 : decode cX6_judge 16 = .ok (.goto 4, 3) := by decide +kernel
theorem dX6_judge_19 : decode cX6_judge 19 = .ok (.iconst 5, 1) := by decide +kernel
theorem dX6_judge_20 : decode cX6_judge 20 = .ok (.iastore, 1) := by decide +kernel
theorem dX6_judge_21 : decode cX6_judge 21 = .ok (.iload_n 2, 1) := by decide +kernel
theorem dX6_judge_22 : decode cX6_judge 22 = .ok (.ifCond .eq 8, 3) := by decide +kernel
theorem dX6_judge_25 : decode cX6_judge 25 = .ok (.aload_n 0, 1) := by decide +kernel
theorem dX6_judge_26 : decode cX6_judge 26 = .ok (.iload_n 1, 1) := by decide +kernel
theorem dX6_judge_27 : decode cX6_judge 27 = .ok (.invokevirtual 178, 3) := by decide +kernel
theorem dX6_judge_30 : decode cX6_judge 30 = .ok (.return_, 1) := by decide +kernel
theorem dX6_pass_0 : decode cX6_pass 0 = .ok (.aload_n 0, 1) := by decide +kernel
theorem dX6_pass_1 : decode cX6_pass 1 = .ok (.iconst 0, 1) := by decide +kernel
theorem dX6_pass_2 : decode cX6_pass 2 = .ok (.putfield 75, 3) := by decide +kernel
theorem dX6_pass_5 : decode cX6_pass 5 = .ok (.aload_n 0, 1) := by decide +kernel
theorem dX6_pass_6 : decode cX6_pass 6 = .ok (.getfield 132, 3) := by decide +kernel
theorem dX6_pass_9 : decode cX6_pass 9 = .ok (.ifCond .eq 26, 3) := by decide +kernel
theorem dX6_pass_12 : decode cX6_pass 12 = .ok (.iload_n 1, 1) := by decide +kernel
theorem dX6_pass_13 : decode cX6_pass 13 = .ok (.ifCond .lt 22, 3) := by decide +kernel
theorem dX6_pass_16 : decode cX6_pass 16 = .ok (.iload_n 1, 1) := by decide +kernel
theorem dX6_pass_17 : decode cX6_pass 17 = .ok (.sipush 400, 3) := by decide +kernel
theorem dX6_pass_20 : decode cX6_pass 20 = .ok (.if_icmp .gt 15, 3) := by decide +kernel
theorem dX6_pass_23 : decode cX6_pass 23 = .ok (.aload_n 0, 1) := by decide +kernel
theorem dX6_pass_24 : decode cX6_pass 24 = .ok (.getfield 162, 3) := by decide +kernel
theorem dX6_pass_27 : decode cX6_pass 27 = .ok (.iload_n 1, 1) := by decide +kernel
theorem dX6_pass_28 : decode cX6_pass 28 = .ok (.iadd, 1) := by decide +kernel
theorem dX6_pass_29 : decode cX6_pass 29 = .ok (.sipush 400, 3) := by decide +kernel
theorem dX6_pass_32 : decode cX6_pass 32 = .ok (.if_icmp .le 5, 3) := by decide +kernel
theorem dX6_pass_35 : decode cX6_pass 35 = .ok (.iconst (-1), 1) := by decide +kernel
theorem dX6_pass_36 : decode cX6_pass 36 = .ok (.ireturn, 1) := by decide +kernel
theorem dX6_pass_37 : decode cX6_pass 37 = .ok (.aload_n 0, 1) := by decide +kernel
theorem dX6_pass_38 : decode cX6_pass 38 = .ok (.dup, 1) := by decide +kernel
theorem dX6_pass_39 : decode cX6_pass 39 = .ok (.getfield 162, 3) := by decide +kernel
theorem dX6_pass_42 : decode cX6_pass 42 = .ok (.iload_n 1, 1) := by decide +kernel
theorem dX6_pass_43 : decode cX6_pass 43 = .ok (.iadd, 1) := by decide +kernel
theorem dX6_pass_44 : decode cX6_pass 44 = .ok (.putfield 162, 3) := by decide +kernel
theorem dX6_pass_47 : decode cX6_pass 47 = .ok (.iconst 0, 1) := by decide +kernel
theorem dX6_pass_48 : decode cX6_pass 48 = .ok (.istore_n 2, 1) := by decide +kernel
theorem dX6_pass_49 : decode cX6_pass 49 = .ok (.iload_n 2, 1) := by decide +kernel
theorem dX6_pass_50 : decode cX6_pass 50 = .ok (.aload_n 0, 1) := by decide +kernel
theorem dX6_pass_51 : decode cX6_pass 51 = .ok (.getfield 165, 3) := by decide +kernel
theorem dX6_pass_54 : decode cX6_pass 54 = .ok (.if_icmp .ge 35, 3) := by decide +kernel
theorem dX6_pass_57 : decode cX6_pass 57 = .ok (.aload_n 0, 1) := by decide +kernel
theorem dX6_pass_58 : decode cX6_pass 58 = .ok (.iload_n 2, 1) := by decide +kernel
theorem dX6_pass_59 : decode cX6_pass 59 = .ok (.invokevirtual 182, 3) := by decide +kernel
theorem dX6_pass_62 : decode cX6_pass 62 = .ok (.ifCond .eq 21, 3) := by decide +kernel
theorem dX6_pass_65 : decode cX6_pass 65 = .ok (.aload_n 0, 1) := by decide +kernel
theorem dX6_pass_66 : decode cX6_pass 66 = .ok (.getfield 63, 3) := by decide +kernel
theorem dX6_pass_69 : decode cX6_pass 69 = .ok (.iload_n 2, 1) := by decide +kernel
theorem dX6_pass_70 : decode cX6_pass 70 = .ok (.iaload, 1) := by decide +kernel
theorem dX6_pass_71 : decode cX6_pass 71 = .ok (.aload_n 0, 1) := by decide +kernel
theorem dX6_pass_72 : decode cX6_pass 72 = .ok (.getfield 162, 3) := by decide +kernel
theorem dX6_pass_75 : decode cX6_pass 75 = .ok (.if_icmp .ge 8, 3) := by decide +kernel
theorem dX6_pass_78 : decode cX6_pass 78 = .ok (.aload_n 0, 1) := by decide +kernel
theorem dX6_pass_79 : decode cX6_pass 79 = .ok (.iload_n 2, 1) := by decide +kernel
theorem dX6_pass_80 : decode cX6_pass 80 = .ok (.invokevirtual 185, 3) := by decide +kernel
theorem dX6_pass_83 : decode cX6_pass 83 = .ok (.iinc 2 1, 3) := by decide +kernel
theorem dX6_pass_86 : decode cX6_pass 86 = .ok (.goto (-37), 3) := by decide +kernel
theorem dX6_pass_89 : decode cX6_pass 89 = .ok (.aload_n 0, 1) := by decide +kernel
theorem dX6_pass_90 : decode cX6_pass 90 = .ok (.getfield 162, 3) := by decide +kernel
theorem dX6_pass_93 : decode cX6_pass 93 = .ok (.ireturn, 1) := by decide +kernel
theorem dX6_challenge_0 : decode cX6_challenge 0 = .ok (.aload_n 0, 1) := by decide +kernel
theorem dX6_challenge_1 : decode cX6_challenge 1 = .ok (.iconst 0, 1) := by decide +kernel
theorem dX6_challenge_2 : decode cX6_challenge 2 = .ok (.putfield 75, 3) := by decide +kernel
theorem dX6_challenge_5 : decode cX6_challenge 5 = .ok (.aload_n 0, 1) := by decide +kernel
theorem dX6_challenge_6 : decode cX6_challenge 6 = .ok (.getfield 132, 3) := by decide +kernel
theorem dX6_challenge_9 : decode cX6_challenge 9 = .ok (.ifCond .eq 28, 3) := by decide +kernel
theorem dX6_challenge_12 : decode cX6_challenge 12 = .ok (.aload_n 0, 1) := by decide +kernel
theorem dX6_challenge_13 : decode cX6_challenge 13 = .ok (.iload_n 1, 1) := by decide +kernel
theorem dX6_challenge_14 : decode cX6_challenge 14 = .ok (.invokevirtual 145, 3) := by decide +kernel
theorem dX6_challenge_17 : decode cX6_challenge 17 = .ok (.ifCond .eq 20, 3) := by decide +kernel
theorem dX6_challenge_20 : decode cX6_challenge 20 = .ok (.aload_n 0, 1) := by decide +kernel
theorem dX6_challenge_21 : decode cX6_challenge 21 = .ok (.iload_n 2, 1) := by decide +kernel
theorem dX6_challenge_22 : decode cX6_challenge 22 = .ok (.invokevirtual 145, 3) := by decide +kernel
theorem dX6_challenge_25 : decode cX6_challenge 25 = .ok (.ifCond .eq 12, 3) := by decide +kernel
theorem dX6_challenge_28 : decode cX6_challenge 28 = .ok (.aload_n 0, 1) := by decide +kernel
theorem dX6_challenge_29 : decode cX6_challenge 29 = .ok (.getfield 165, 3) := by decide +kernel
theorem dX6_challenge_32 : decode cX6_challenge 32 = .ok (.bipush 40, 2) := by decide +kernel
theorem dX6_challenge_34 : decode cX6_challenge 34 = .ok (.if_icmp .ne 5, 3) := by decide +kernel
theorem dX6_challenge_37 : decode cX6_challenge 37 = .ok (.iconst (-1), 1) := by decide +kernel
theorem dX6_challenge_38 : decode cX6_challenge 38 = .ok (.ireturn, 1) := by decide +kernel
theorem dX6_challenge_39 : decode cX6_challenge 39 = .ok (.aload_n 0, 1) := by decide +kernel
theorem dX6_challenge_40 : decode cX6_challenge 40 = .ok (.iload_n 1, 1) := by decide +kernel
theorem dX6_challenge_41 : decode cX6_challenge 41 = .ok (.iconst 0, 1) := by decide +kernel
theorem dX6_challenge_42 : decode cX6_challenge 42 = .ok (.invokevirtual 148, 3) := by decide +kernel
theorem dX6_challenge_45 : decode cX6_challenge 45 = .ok (.istore_n 3, 1) := by decide +kernel
theorem dX6_challenge_46 : decode cX6_challenge 46 = .ok (.iload_n 3, 1) := by decide +kernel
theorem dX6_challenge_47 : decode cX6_challenge 47 = .ok (.ifCond .lt 19, 3) := by decide +kernel
theorem dX6_challenge_50 : decode cX6_challenge 50 = .ok (.aload_n 0, 1) := by decide +kernel
theorem dX6_challenge_51 : decode cX6_challenge 51 = .ok (.iload_n 2, 1) := by decide +kernel
theorem dX6_challenge_52 : decode cX6_challenge 52 = .ok (.iconst 0, 1) := by decide +kernel
theorem dX6_challenge_53 : decode cX6_challenge 53 = .ok (.iconst 0, 1) := by decide +kernel
theorem dX6_challenge_54 : decode cX6_challenge 54 = .ok (.aload_n 0, 1) := by decide +kernel
theorem dX6_challenge_55 : decode cX6_challenge 55 = .ok (.getfield 155, 3) := by decide +kernel
theorem dX6_challenge_58 : decode cX6_challenge 58 = .ok (.iconst 1, 1) := by decide +kernel
theorem dX6_challenge_59 : decode cX6_challenge 59 = .ok (.isub, 1) := by decide +kernel
theorem dX6_challenge_60 : decode cX6_challenge 60 = .ok (.invokevirtual 158, 3) := by decide +kernel
theorem dX6_challenge_63 : decode cX6_challenge 63 = .ok (.ifCond .ne 5, 3) := by decide +kernel
theorem dX6_challenge_66 : decode cX6_challenge 66 = .ok (.iconst (-1), 1) := by decide +kernel
theorem dX6_challenge_67 : decode cX6_challenge 67 = .ok (.ireturn, 1) := by decide +kernel
theorem dX6_challenge_68 : decode cX6_challenge 68 = .ok (.iconst 0, 1) := by decide +kernel
theorem dX6_challenge_69 : decode cX6_challenge 69 = .ok (.istore 4, 2) := by decide +kernel
theorem dX6_challenge_71 : decode cX6_challenge 71 = .ok (.iload 4, 2) := by decide +kernel
theorem dX6_challenge_73 : decode cX6_challenge 73 = .ok (.aload_n 0, 1) := by decide +kernel
theorem dX6_challenge_74 : decode cX6_challenge 74 = .ok (.getfield 165, 3) := by decide +kernel
theorem dX6_challenge_77 : decode cX6_challenge 77 = .ok (.if_icmp .ge 64, 3) := by decide +kernel
theorem dX6_challenge_80 : decode cX6_challenge 80 = .ok (.aload_n 0, 1) := by decide +kernel
theorem dX6_challenge_81 : decode cX6_challenge 81 = .ok (.iload 4, 2) := by decide +kernel
theorem dX6_challenge_83 : decode cX6_challenge 83 = .ok (.invokevirtual 182, 3) := by decide +kernel
theorem dX6_challenge_86 : decode cX6_challenge 86 = .ok (.ifCond .eq 49, 3) := by decide +kernel
theorem dX6_challenge_89 : decode cX6_challenge 89 = .ok (.aload_n 0, 1) := by decide +kernel
theorem dX6_challenge_90 : decode cX6_challenge 90 = .ok (.getfield 48, 3) := by decide +kernel
theorem dX6_challenge_93 : decode cX6_challenge 93 = .ok (.iload 4, 2) := by decide +kernel
theorem dX6_challenge_95 : decode cX6_challenge 95 = .ok (.iaload, 1) := by decide +kernel
theorem dX6_challenge_96 : decode cX6_challenge 96 = .ok (.iload_n 1, 1) := by decide +kernel
theorem dX6_challenge_97 : decode cX6_challenge 97 = .ok (.if_icmp .eq 36, 3) := by decide +kernel
theorem dX6_challenge_100 : decode cX6_challenge 100 = .ok (.aload_n 0, 1) := by decide +kernel
theorem dX6_challenge_101 : decode cX6_challenge 101 = .ok (.getfield 51, 3) := by decide +kernel
theorem dX6_challenge_104 : decode cX6_challenge 104 = .ok (.iload 4, 2) := by decide +kernel
theorem dX6_challenge_106 : decode cX6_challenge 106 = .ok (.iaload, 1) := by decide +kernel
theorem dX6_challenge_107 : decode cX6_challenge 107 = .ok (.iload_n 1, 1) := by decide +kernel
theorem dX6_challenge_108 : decode cX6_challenge 108 = .ok (.if_icmp .eq 25, 3) := by decide +kernel
theorem dX6_challenge_111 : decode cX6_challenge 111 = .ok (.aload_n 0, 1) := by decide +kernel
theorem dX6_challenge_112 : decode cX6_challenge 112 = .ok (.getfield 48, 3) := by decide +kernel
theorem dX6_challenge_115 : decode cX6_challenge 115 = .ok (.iload 4, 2) := by decide +kernel
theorem dX6_challenge_117 : decode cX6_challenge 117 = .ok (.iaload, 1) := by decide +kernel
theorem dX6_challenge_118 : decode cX6_challenge 118 = .ok (.iload_n 2, 1) := by decide +kernel
theorem dX6_challenge_119 : decode cX6_challenge 119 = .ok (.if_icmp .eq 14, 3) := by decide +kernel
theorem dX6_challenge_122 : decode cX6_challenge 122 = .ok (.aload_n 0, 1) := by decide +kernel
theorem dX6_challenge_123 : decode cX6_challenge 123 = .ok (.getfield 51, 3) := by decide +kernel
theorem dX6_challenge_126 : decode cX6_challenge 126 = .ok (.iload 4, 2) := by decide +kernel
theorem dX6_challenge_128 : decode cX6_challenge 128 = .ok (.iaload, 1) := by decide +kernel
theorem dX6_challenge_129 : decode cX6_challenge 129 = .ok (.iload_n 2, 1) := by decide +kernel
theorem dX6_challenge_130 : decode cX6_challenge 130 = .ok (.if_icmp .ne 5, 3) := by decide +kernel
theorem dX6_challenge_133 : decode cX6_challenge 133 = .ok (.iconst (-1), 1) := by decide +kernel
theorem dX6_challenge_134 : decode cX6_challenge 134 = .ok (.ireturn, 1) := by decide +kernel
theorem dX6_challenge_135 : decode cX6_challenge 135 = .ok (.iinc 4 1, 3) := by decide +kernel
theorem dX6_challenge_138 : decode cX6_challenge 138 = .ok (.goto (-67), 3) := by decide +kernel
theorem dX6_challenge_141 : decode cX6_challenge 141 = .ok (.aload_n 0, 1) := by decide +kernel
theorem dX6_challenge_142 : decode cX6_challenge 142 = .ok (.getfield 44, 3) := by decide +kernel
theorem dX6_challenge_145 : decode cX6_challenge 145 = .ok (.bipush 24, 2) := by decide +kernel
theorem dX6_challenge_147 : decode cX6_challenge 147 = .ok (.iload_n 2, 1) := by decide +kernel
theorem dX6_challenge_148 : decode cX6_challenge 148 = .ok (.imul, 1) := by decide +kernel
theorem dX6_challenge_149 : decode cX6_challenge 149 = .ok (.iload_n 3, 1) := by decide +kernel
theorem dX6_challenge_150 : decode cX6_challenge 150 = .ok (.iadd, 1) := by decide +kernel
theorem dX6_challenge_151 : decode cX6_challenge 151 = .ok (.baload, 1) := by decide +kernel
theorem dX6_challenge_152 : decode cX6_challenge 152 = .ok (.ifCond .eq 6, 3) := by decide +kernel
theorem dX6_challenge_155 : decode cX6_challenge 155 = .ok (.bipush (-3), 2) := by decide +kernel
theorem dX6_challenge_157 : decode cX6_challenge 157 = .ok (.ireturn, 1) := by decide +kernel
theorem dX6_challenge_158 : decode cX6_challenge 158 = .ok (.aload_n 0, 1) := by decide +kernel
theorem dX6_challenge_159 : decode cX6_challenge 159 = .ok (.getfield 48, 3) := by decide +kernel
theorem dX6_challenge_162 : decode cX6_challenge 162 = .ok (.aload_n 0, 1) := by decide +kernel
theorem dX6_challenge_163 : decode cX6_challenge 163 = .ok (.getfield 165, 3) := by decide +kernel
theorem dX6_challenge_166 : decode cX6_challenge 166 = .ok (.iload_n 1, 1) := by decide +kernel
theorem dX6_challenge_167 : decode cX6_challenge 167 = .ok (.iastore, 1) := by decide +kernel
theorem dX6_challenge_168 : decode cX6_challenge 168 = .ok (.aload_n 0, 1) := by decide +kernel
theorem dX6_challenge_169 : decode cX6_challenge 169 = .ok (.getfield 51, 3) := by decide +kernel
theorem dX6_challenge_172 : decode cX6_challenge 172 = .ok (.aload_n 0, 1) := by decide +kernel
theorem dX6_challenge_173 : decode cX6_challenge 173 = .ok (.getfield 165, 3) := by decide +kernel
theorem dX6_challenge_176 : decode cX6_challenge 176 = .ok (.iload_n 2, 1) := by decide +kernel
theorem dX6_challenge_177 : decode cX6_challenge 177 = .ok (.iastore, 1) := by decide +kernel
theorem dX6_challenge_178 : decode cX6_challenge 178 = .ok (.aload_n 0, 1) := by decide +kernel
theorem dX6_challenge_179 : decode cX6_challenge 179 = .ok (.getfield 54, 3) := by decide +kernel
theorem dX6_challenge_182 : decode cX6_challenge 182 = .ok (.aload_n 0, 1) := by decide +kernel
theorem dX6_challenge_183 : decode cX6_challenge 183 = .ok (.getfield 165, 3) := by decide +kernel
theorem dX6_challenge_186 : decode cX6_challenge 186 = .ok (.iload_n 3, 1) := by decide +kernel
theorem dX6_challenge_187 : decode cX6_challenge 187 = .ok (.iastore, 1) := by decide +kernel
theorem dX6_challenge_188 : decode cX6_challenge 188 = .ok (.aload_n 0, 1) := by decide +kernel
theorem dX6_challenge_189 : decode cX6_challenge 189 = .ok (.getfield 57, 3) := by decide +kernel
theorem dX6_challenge_192 : decode cX6_challenge 192 = .ok (.aload_n 0, 1) := by decide +kernel
theorem dX6_challenge_193 : decode cX6_challenge 193 = .ok (.getfield 165, 3) := by decide +kernel
theorem dX6_challenge_196 : decode cX6_challenge 196 = .ok (.aload_n 0, 1) := by decide +kernel
theorem dX6_challenge_197 : decode cX6_challenge 197 = .ok (.getfield 162, 3) := by decide +kernel
theorem dX6_challenge_200 : decode cX6_challenge 200 = .ok (.iastore, 1) := by decide +kernel
theorem dX6_challenge_201 : decode cX6_challenge 201 = .ok (.aload_n 0, 1) := by decide +kernel
theorem dX6_challenge_202 : decode cX6_challenge 202 = .ok (.getfield 60, 3) := by decide +kernel
theorem dX6_challenge_205 : decode cX6_challenge 205 = .ok (.aload_n 0, 1) := by decide +kernel
theorem dX6_challenge_206 : decode cX6_challenge 206 = .ok (.getfield 165, 3) := by decide +kernel
theorem dX6_challenge_209 : decode cX6_challenge 209 = .ok (.iconst 0, 1) := by decide +kernel
theorem dX6_challenge_210 : decode cX6_challenge 210 = .ok (.iastore, 1) := by decide +kernel
theorem dX6_challenge_211 : decode cX6_challenge 211 = .ok (.aload_n 0, 1) := by decide +kernel
theorem dX6_challenge_212 : decode cX6_challenge 212 = .ok (.getfield 63, 3) := by decide +kernel
theorem dX6_challenge_215 : decode cX6_challenge 215 = .ok (.aload_n 0, 1) := by decide +kernel
theorem dX6_challenge_216 : decode cX6_challenge 216 = .ok (.getfield 165, 3) := by decide +kernel
theorem dX6_challenge_219 : decode cX6_challenge 219 = .ok (.aload_n 0, 1) := by decide +kernel
theorem dX6_challenge_220 : decode cX6_challenge 220 = .ok (.getfield 162, 3) := by decide +kernel
theorem dX6_challenge_223 : decode cX6_challenge 223 = .ok (.aload_n 0, 1) := by decide +kernel
theorem dX6_challenge_224 : decode cX6_challenge 224 = .ok (.getfield 19, 3) := by decide +kernel
theorem dX6_challenge_227 : decode cX6_challenge 227 = .ok (.iconst 2, 1) := by decide +kernel
theorem dX6_challenge_228 : decode cX6_challenge 228 = .ok (.iaload, 1) := by decide +kernel
theorem dX6_challenge_229 : decode cX6_challenge 229 = .ok (.iadd, 1) := by decide +kernel
theorem dX6_challenge_230 : decode cX6_challenge 230 = .ok (.iastore, 1) := by decide +kernel
theorem dX6_challenge_231 : decode cX6_challenge 231 = .ok (.aload_n 0, 1) := by decide +kernel
theorem dX6_challenge_232 : decode cX6_challenge 232 = .ok (.getfield 66, 3) := by decide +kernel
theorem dX6_challenge_235 : decode cX6_challenge 235 = .ok (.aload_n 0, 1) := by decide +kernel
theorem dX6_challenge_236 : decode cX6_challenge 236 = .ok (.getfield 165, 3) := by decide +kernel
theorem dX6_challenge_239 : decode cX6_challenge 239 = .ok (.iconst 0, 1) := by decide +kernel
theorem dX6_challenge_240 : decode cX6_challenge 240 = .ok (.bastore, 1) := by decide +kernel
theorem dX6_challenge_241 : decode cX6_challenge 241 = .ok (.aload_n 0, 1) := by decide +kernel
theorem dX6_challenge_242 : decode cX6_challenge 242 = .ok (.getfield 69, 3) := by decide +kernel
theorem dX6_challenge_245 : decode cX6_challenge 245 = .ok (.aload_n 0, 1) := by decide +kernel
theorem dX6_challenge_246 : decode cX6_challenge 246 = .ok (.getfield 165, 3) := by decide +kernel
theorem dX6_challenge_249 : decode cX6_challenge 249 = .ok (.iconst 0, 1) := by decide +kernel
theorem dX6_challenge_250 : decode cX6_challenge 250 = .ok (.bastore, 1) := by decide +kernel
theorem dX6_challenge_251 : decode cX6_challenge 251 = .ok (.aload_n 0, 1) := by decide +kernel
theorem dX6_challenge_252 : decode cX6_challenge 252 = .ok (.dup, 1) := by decide +kernel
theorem dX6_challenge_253 : decode cX6_challenge 253 = .ok (.getfield 165, 3) := by decide +kernel
theorem dX6_challenge_256 : decode cX6_challenge 256 = .ok (.iconst 1, 1) := by decide +kernel
theorem dX6_challenge_257 : decode cX6_challenge 257 = .ok (.iadd, 1) := by decide +kernel
theorem dX6_challenge_258 : decode cX6_challenge 258 = .ok (.putfield 165, 3) := by decide +kernel
theorem dX6_challenge_261 : decode cX6_challenge 261 = .ok (.aload_n 0, 1) := by decide +kernel
theorem dX6_challenge_262 : decode cX6_challenge 262 = .ok (.getfield 165, 3) := by decide +kernel
theorem dX6_challenge_265 : decode cX6_challenge 265 = .ok (.iconst 1, 1) := by decide +kernel
theorem dX6_challenge_266 : decode cX6_challenge 266 = .ok (.isub, 1) := by decide +kernel
theorem dX6_challenge_267 : decode cX6_challenge 267 = .ok (.ireturn, 1) := by decide +kernel
theorem dX6_answer_0 : decode cX6_answer 0 = .ok (.aload_n 0, 1) := by decide +kernel
theorem dX6_answer_1 : decode cX6_answer 1 = .ok (.iconst 0, 1) := by decide +kernel
theorem dX6_answer_2 : decode cX6_answer 2 = .ok (.putfield 75, 3) := by decide +kernel
theorem dX6_answer_5 : decode cX6_answer 5 = .ok (.aload_n 0, 1) := by decide +kernel
theorem dX6_answer_6 : decode cX6_answer 6 = .ok (.getfield 132, 3) := by decide +kernel
theorem dX6_answer_9 : decode cX6_answer 9 = .ok (.ifCond .eq 24, 3) := by decide +kernel
theorem dX6_answer_12 : decode cX6_answer 12 = .ok (.iload_n 1, 1) := by decide +kernel
theorem dX6_answer_13 : decode cX6_answer 13 = .ok (.ifCond .lt 20, 3) := by decide +kernel
theorem dX6_answer_16 : decode cX6_answer 16 = .ok (.iload_n 1, 1) := by decide +kernel
theorem dX6_answer_17 : decode cX6_answer 17 = .ok (.aload_n 0, 1) := by decide +kernel
theorem dX6_answer_18 : decode cX6_answer 18 = .ok (.getfield 165, 3) := by decide +kernel
theorem dX6_answer_21 : decode cX6_answer 21 = .ok (.if_icmp .ge 12, 3) := by decide +kernel
theorem dX6_answer_24 : decode cX6_answer 24 = .ok (.aload_n 0, 1) := by decide +kernel
theorem dX6_answer_25 : decode cX6_answer 25 = .ok (.getfield 60, 3) := by decide +kernel
theorem dX6_answer_28 : decode cX6_answer 28 = .ok (.iload_n 1, 1) := by decide +kernel
theorem dX6_answer_29 : decode cX6_answer 29 = .ok (.iaload, 1) := by decide +kernel
theorem dX6_answer_30 : decode cX6_answer 30 = .ok (.ifCond .eq 5, 3) := by decide +kernel
theorem dX6_answer_33 : decode cX6_answer 33 = .ok (.iconst 0, 1) := by decide +kernel
theorem dX6_answer_34 : decode cX6_answer 34 = .ok (.ireturn, 1) := by decide +kernel
theorem dX6_answer_35 : decode cX6_answer 35 = .ok (.iload_n 2, 1) := by decide +kernel
theorem dX6_answer_36 : decode cX6_answer 36 = .ok (.ifCond .eq 18, 3) := by decide +kernel
theorem dX6_answer_39 : decode cX6_answer 39 = .ok (.aload_n 0, 1) := by decide +kernel
theorem dX6_answer_40 : decode cX6_answer 40 = .ok (.getfield 60, 3) := by decide +kernel
theorem dX6_answer_43 : decode cX6_answer 43 = .ok (.iload_n 1, 1) := by decide +kernel
theorem dX6_answer_44 : decode cX6_answer 44 = .ok (.iconst 2, 1) := by decide +kernel
theorem dX6_answer_45 : decode cX6_answer 45 = .ok (.iastore, 1) := by decide +kernel
theorem dX6_answer_46 : decode cX6_answer 46 = .ok (.aload_n 0, 1) := by decide +kernel
theorem dX6_answer_47 : decode cX6_answer 47 = .ok (.iload_n 1, 1) := by decide +kernel
theorem dX6_answer_48 : decode cX6_answer 48 = .ok (.invokevirtual 178, 3) := by decide +kernel
theorem dX6_answer_51 : decode cX6_answer 51 = .ok (.goto 27, 3) := by decide +kernel
theorem dX6_answer_54 : decode cX6_answer 54 = .ok (.aload_n 0, 1) := by decide +kernel
theorem dX6_answer_55 : decode cX6_answer 55 = .ok (.getfield 60, 3) := by decide +kernel
theorem dX6_answer_58 : decode cX6_answer 58 = .ok (.iload_n 1, 1) := by decide +kernel
theorem dX6_answer_59 : decode cX6_answer 59 = .ok (.iconst 1, 1) := by decide +kernel
theorem dX6_answer_60 : decode cX6_answer 60 = .ok (.iastore, 1) := by decide +kernel
theorem dX6_answer_61 : decode cX6_answer 61 = .ok (.aload_n 0, 1) := by decide +kernel
theorem dX6_answer_62 : decode cX6_answer 62 = .ok (.getfield 63, 3) := by decide +kernel
theorem dX6_answer_65 : decode cX6_answer 65 = .ok (.iload_n 1, 1) := by decide +kernel
theorem dX6_answer_66 : decode cX6_answer 66 = .ok (.aload_n 0, 1) := by decide +kernel
theorem dX6_answer_67 : decode cX6_answer 67 = .ok (.getfield 162, 3) := by decide +kernel
theorem dX6_answer_70 : decode cX6_answer 70 = .ok (.aload_n 0, 1) := by decide +kernel
theorem dX6_answer_71 : decode cX6_answer 71 = .ok (.getfield 19, 3) := by decide +kernel
theorem dX6_answer_74 : decode cX6_answer 74 = .ok (.iconst 3, 1) := by decide +kernel
theorem dX6_answer_75 : decode cX6_answer 75 = .ok (.iaload, 1) := by decide +kernel
theorem dX6_answer_76 : decode cX6_answer 76 = .ok (.iadd, 1) := by decide +kernel
theorem dX6_answer_77 : decode cX6_answer 77 = .ok (.iastore, 1) := by decide +kernel
theorem dX6_answer_78 : decode cX6_answer 78 = .ok (.iconst 1, 1) := by decide +kernel
theorem dX6_answer_79 : decode cX6_answer 79 = .ok (.ireturn, 1) := by decide +kernel
theorem dX6_swear_0 : decode cX6_swear 0 = .ok (.aload_n 0, 1) := by decide +kernel
theorem dX6_swear_1 : decode cX6_swear 1 = .ok (.iconst 0, 1) := by decide +kernel
end
section
theorem dX6_swear_2 : decode cX6_swear 2 = .ok (.putfield 75, 3) := by decide +kernel
theorem dX6_swear_5 : decode cX6_swear 5 = .ok (.aload_n 0, 1) := by decide +kernel
theorem dX6_swear_6 : decode cX6_swear 6 = .ok (.getfield 132, 3) := by decide +kernel
theorem dX6_swear_9 : decode cX6_swear 9 = .ok (.ifCond .eq 50, 3) := by decide +kernel
theorem dX6_swear_12 : decode cX6_swear 12 = .ok (.iload_n 1, 1) := by decide +kernel
theorem dX6_swear_13 : decode cX6_swear 13 = .ok (.ifCond .lt 46, 3) := by decide +kernel
theorem dX6_swear_16 : decode cX6_swear 16 = .ok (.iload_n 1, 1) := by decide +kernel
theorem dX6_swear_17 : decode cX6_swear 17 = .ok (.aload_n 0, 1) := by decide +kernel
theorem dX6_swear_18 : decode cX6_swear 18 = .ok (.getfield 165, 3) := by decide +kernel
theorem dX6_swear_21 : decode cX6_swear 21 = .ok (.if_icmp .ge 38, 3) := by decide +kernel
theorem dX6_swear_24 : decode cX6_swear 24 = .ok (.aload_n 0, 1) := by decide +kernel
theorem dX6_swear_25 : decode cX6_swear 25 = .ok (.getfield 60, 3) := by decide +kernel
theorem dX6_swear_28 : decode cX6_swear 28 = .ok (.iload_n 1, 1) := by decide +kernel
theorem dX6_swear_29 : decode cX6_swear 29 = .ok (.iaload, 1) := by decide +kernel
theorem dX6_swear_30 : decode cX6_swear 30 = .ok (.iconst 1, 1) := by decide +kernel
theorem dX6_swear_31 : decode cX6_swear 31 = .ok (.if_icmp .ne 28, 3) := by decide +kernel
theorem dX6_swear_34 : decode cX6_swear 34 = .ok (.iload_n 2, 1) := by decide +kernel
theorem dX6_swear_35 : decode cX6_swear 35 = .ok (.ifCond .eq 15, 3) := by decide +kernel
theorem dX6_swear_38 : decode cX6_swear 38 = .ok (.aload_n 0, 1) := by decide +kernel
theorem dX6_swear_39 : decode cX6_swear 39 = .ok (.getfield 66, 3) := by decide +kernel
theorem dX6_swear_42 : decode cX6_swear 42 = .ok (.iload_n 1, 1) := by decide +kernel
theorem dX6_swear_43 : decode cX6_swear 43 = .ok (.baload, 1) := by decide +kernel
theorem dX6_swear_44 : decode cX6_swear 44 = .ok (.ifCond .eq 17, 3) := by decide +kernel
theorem dX6_swear_47 : decode cX6_swear 47 = .ok (.goto 12, 3) := by decide +kernel
theorem dX6_swear_50 : decode cX6_swear 50 = .ok (.aload_n 0, 1) := by decide +kernel
theorem dX6_swear_51 : decode cX6_swear 51 = .ok (.getfield 69, 3) := by decide +kernel
theorem dX6_swear_54 : decode cX6_swear 54 = .ok (.iload_n 1, 1) := by decide +kernel
theorem dX6_swear_55 : decode cX6_swear 55 = .ok (.baload, 1) := by decide +kernel
theorem dX6_swear_56 : decode cX6_swear 56 = .ok (.ifCond .eq 5, 3) := by decide +kernel
theorem dX6_swear_59 : decode cX6_swear 59 = .ok (.iconst 0, 1) := by decide +kernel
theorem dX6_swear_60 : decode cX6_swear 60 = .ok (.ireturn, 1) := by decide +kernel
theorem dX6_swear_61 : decode cX6_swear 61 = .ok (.iload_n 2, 1) := by decide +kernel
theorem dX6_swear_62 : decode cX6_swear 62 = .ok (.ifCond .eq 13, 3) := by decide +kernel
theorem dX6_swear_65 : decode cX6_swear 65 = .ok (.aload_n 0, 1) := by decide +kernel
theorem dX6_swear_66 : decode cX6_swear 66 = .ok (.getfield 66, 3) := by decide +kernel
theorem dX6_swear_69 : decode cX6_swear 69 = .ok (.iload_n 1, 1) := by decide +kernel
theorem dX6_swear_70 : decode cX6_swear 70 = .ok (.iconst 1, 1) := by decide +kernel
theorem dX6_swear_71 : decode cX6_swear 71 = .ok (.bastore, 1) := by decide +kernel
theorem dX6_swear_72 : decode cX6_swear 72 = .ok (.goto 10, 3) := by decide +kernel
theorem dX6_swear_75 : decode cX6_swear 75 = .ok (.aload_n 0, 1) := by decide +kernel
theorem dX6_swear_76 : decode cX6_swear 76 = .ok (.getfield 69, 3) := by decide +kernel
theorem dX6_swear_79 : decode cX6_swear 79 = .ok (.iload_n 1, 1) := by decide +kernel
theorem dX6_swear_80 : decode cX6_swear 80 = .ok (.iconst 1, 1) := by decide +kernel
theorem dX6_swear_81 : decode cX6_swear 81 = .ok (.bastore, 1) := by decide +kernel
theorem dX6_swear_82 : decode cX6_swear 82 = .ok (.aload_n 0, 1) := by decide +kernel
theorem dX6_swear_83 : decode cX6_swear 83 = .ok (.getfield 66, 3) := by decide +kernel
theorem dX6_swear_86 : decode cX6_swear 86 = .ok (.iload_n 1, 1) := by decide +kernel
theorem dX6_swear_87 : decode cX6_swear 87 = .ok (.baload, 1) := by decide +kernel
theorem dX6_swear_88 : decode cX6_swear 88 = .ok (.ifCond .eq 12, 3) := by decide +kernel
theorem dX6_swear_91 : decode cX6_swear 91 = .ok (.aload_n 0, 1) := by decide +kernel
theorem dX6_swear_92 : decode cX6_swear 92 = .ok (.getfield 69, 3) := by decide +kernel
theorem dX6_swear_95 : decode cX6_swear 95 = .ok (.iload_n 1, 1) := by decide +kernel
theorem dX6_swear_96 : decode cX6_swear 96 = .ok (.baload, 1) := by decide +kernel
theorem dX6_swear_97 : decode cX6_swear 97 = .ok (.ifCond .ne 5, 3) := by decide +kernel
theorem dX6_swear_100 : decode cX6_swear 100 = .ok (.iconst 1, 1) := by decide +kernel
theorem dX6_swear_101 : decode cX6_swear 101 = .ok (.ireturn, 1) := by decide +kernel
theorem dX6_swear_102 : decode cX6_swear 102 = .ok (.aload_n 0, 1) := by decide +kernel
theorem dX6_swear_103 : decode cX6_swear 103 = .ok (.getfield 60, 3) := by decide +kernel
theorem dX6_swear_106 : decode cX6_swear 106 = .ok (.iload_n 1, 1) := by decide +kernel
theorem dX6_swear_107 : decode cX6_swear 107 = .ok (.iconst 3, 1) := by decide +kernel
theorem dX6_swear_108 : decode cX6_swear 108 = .ok (.iastore, 1) := by decide +kernel
theorem dX6_swear_109 : decode cX6_swear 109 = .ok (.aload_n 0, 1) := by decide +kernel
theorem dX6_swear_110 : decode cX6_swear 110 = .ok (.getfield 48, 3) := by decide +kernel
theorem dX6_swear_113 : decode cX6_swear 113 = .ok (.iload_n 1, 1) := by decide +kernel
theorem dX6_swear_114 : decode cX6_swear 114 = .ok (.iaload, 1) := by decide +kernel
theorem dX6_swear_115 : decode cX6_swear 115 = .ok (.istore_n 3, 1) := by decide +kernel
theorem dX6_swear_116 : decode cX6_swear 116 = .ok (.aload_n 0, 1) := by decide +kernel
theorem dX6_swear_117 : decode cX6_swear 117 = .ok (.getfield 51, 3) := by decide +kernel
theorem dX6_swear_120 : decode cX6_swear 120 = .ok (.iload_n 1, 1) := by decide +kernel
theorem dX6_swear_121 : decode cX6_swear 121 = .ok (.iaload, 1) := by decide +kernel
theorem dX6_swear_122 : decode cX6_swear 122 = .ok (.istore 4, 2) := by decide +kernel
theorem dX6_swear_124 : decode cX6_swear 124 = .ok (.aload_n 0, 1) := by decide +kernel
theorem dX6_swear_125 : decode cX6_swear 125 = .ok (.getfield 29, 3) := by decide +kernel
theorem dX6_swear_128 : decode cX6_swear 128 = .ok (.iload_n 3, 1) := by decide +kernel
theorem dX6_swear_129 : decode cX6_swear 129 = .ok (.iaload, 1) := by decide +kernel
theorem dX6_swear_130 : decode cX6_swear 130 = .ok (.istore 5, 2) := by decide +kernel
theorem dX6_swear_132 : decode cX6_swear 132 = .ok (.aload_n 0, 1) := by decide +kernel
theorem dX6_swear_133 : decode cX6_swear 133 = .ok (.getfield 29, 3) := by decide +kernel
theorem dX6_swear_136 : decode cX6_swear 136 = .ok (.iload_n 3, 1) := by decide +kernel
theorem dX6_swear_137 : decode cX6_swear 137 = .ok (.aload_n 0, 1) := by decide +kernel
theorem dX6_swear_138 : decode cX6_swear 138 = .ok (.getfield 29, 3) := by decide +kernel
theorem dX6_swear_141 : decode cX6_swear 141 = .ok (.iload 4, 2) := by decide +kernel
theorem dX6_swear_143 : decode cX6_swear 143 = .ok (.iaload, 1) := by decide +kernel
theorem dX6_swear_144 : decode cX6_swear 144 = .ok (.iastore, 1) := by decide +kernel
theorem dX6_swear_145 : decode cX6_swear 145 = .ok (.aload_n 0, 1) := by decide +kernel
theorem dX6_swear_146 : decode cX6_swear 146 = .ok (.getfield 29, 3) := by decide +kernel
theorem dX6_swear_149 : decode cX6_swear 149 = .ok (.iload 4, 2) := by decide +kernel
theorem dX6_swear_151 : decode cX6_swear 151 = .ok (.iload 5, 2) := by decide +kernel
theorem dX6_swear_153 : decode cX6_swear 153 = .ok (.iastore, 1) := by decide +kernel
theorem dX6_swear_154 : decode cX6_swear 154 = .ok (.aload_n 0, 1) := by decide +kernel
theorem dX6_swear_155 : decode cX6_swear 155 = .ok (.getfield 32, 3) := by decide +kernel
theorem dX6_swear_158 : decode cX6_swear 158 = .ok (.iload_n 3, 1) := by decide +kernel
theorem dX6_swear_159 : decode cX6_swear 159 = .ok (.iaload, 1) := by decide +kernel
theorem dX6_swear_160 : decode cX6_swear 160 = .ok (.istore 6, 2) := by decide +kernel
theorem dX6_swear_162 : decode cX6_swear 162 = .ok (.aload_n 0, 1) := by decide +kernel
theorem dX6_swear_163 : decode cX6_swear 163 = .ok (.getfield 32, 3) := by decide +kernel
theorem dX6_swear_166 : decode cX6_swear 166 = .ok (.iload_n 3, 1) := by decide +kernel
theorem dX6_swear_167 : decode cX6_swear 167 = .ok (.aload_n 0, 1) := by decide +kernel
theorem dX6_swear_168 : decode cX6_swear 168 = .ok (.getfield 32, 3) := by decide +kernel
theorem dX6_swear_171 : decode cX6_swear 171 = .ok (.iload 4, 2) := by decide +kernel
theorem dX6_swear_173 : decode cX6_swear 173 = .ok (.iaload, 1) := by decide +kernel
theorem dX6_swear_174 : decode cX6_swear 174 = .ok (.iastore, 1) := by decide +kernel
theorem dX6_swear_175 : decode cX6_swear 175 = .ok (.aload_n 0, 1) := by decide +kernel
theorem dX6_swear_176 : decode cX6_swear 176 = .ok (.getfield 32, 3) := by decide +kernel
theorem dX6_swear_179 : decode cX6_swear 179 = .ok (.iload 4, 2) := by decide +kernel
theorem dX6_swear_181 : decode cX6_swear 181 = .ok (.iload 6, 2) := by decide +kernel
theorem dX6_swear_183 : decode cX6_swear 183 = .ok (.iastore, 1) := by decide +kernel
theorem dX6_swear_184 : decode cX6_swear 184 = .ok (.iconst 1, 1) := by decide +kernel
theorem dX6_swear_185 : decode cX6_swear 185 = .ok (.ireturn, 1) := by decide +kernel
theorem dX6_told_0 : decode cX6_told 0 = .ok (.aload_n 0, 1) := by decide +kernel
theorem dX6_told_1 : decode cX6_told 1 = .ok (.iconst 0, 1) := by decide +kernel
theorem dX6_told_2 : decode cX6_told 2 = .ok (.putfield 75, 3) := by decide +kernel
theorem dX6_told_5 : decode cX6_told 5 = .ok (.iload_n 1, 1) := by decide +kernel
theorem dX6_told_6 : decode cX6_told 6 = .ok (.ifCond .lt 11, 3) := by decide +kernel
theorem dX6_told_9 : decode cX6_told 9 = .ok (.iload_n 1, 1) := by decide +kernel
theorem dX6_told_10 : decode cX6_told 10 = .ok (.aload_n 0, 1) := by decide +kernel
theorem dX6_told_11 : decode cX6_told 11 = .ok (.getfield 165, 3) := by decide +kernel
theorem dX6_told_14 : decode cX6_told 14 = .ok (.if_icmp .lt 5, 3) := by decide +kernel
theorem dX6_told_17 : decode cX6_told 17 = .ok (.iconst (-1), 1) := by decide +kernel
theorem dX6_told_18 : decode cX6_told 18 = .ok (.ireturn, 1) := by decide +kernel
theorem dX6_told_19 : decode cX6_told 19 = .ok (.iload_n 2, 1) := by decide +kernel
theorem dX6_told_20 : decode cX6_told 20 = .ok (.tableswitch 94 0 5 #[40, 47, 54, 61, 68, 75], 40) := by decide +kernel
theorem dX6_told_60 : decode cX6_told 60 = .ok (.aload_n 0, 1) := by decide +kernel
theorem dX6_told_61 : decode cX6_told 61 = .ok (.getfield 48, 3) := by decide +kernel
theorem dX6_told_64 : decode cX6_told 64 = .ok (.iload_n 1, 1) := by decide +kernel
theorem dX6_told_65 : decode cX6_told 65 = .ok (.iaload, 1) := by decide +kernel
theorem dX6_told_66 : decode cX6_told 66 = .ok (.ireturn, 1) := by decide +kernel
theorem dX6_told_67 : decode cX6_told 67 = .ok (.aload_n 0, 1) := by decide +kernel
theorem dX6_told_68 : decode cX6_told 68 = .ok (.getfield 51, 3) := by decide +kernel
theorem dX6_told_71 : decode cX6_told 71 = .ok (.iload_n 1, 1) := by decide +kernel
theorem dX6_told_72 : decode cX6_told 72 = .ok (.iaload, 1) := by decide +kernel
theorem dX6_told_73 : decode cX6_told 73 = .ok (.ireturn, 1) := by decide +kernel
theorem dX6_told_74 : decode cX6_told 74 = .ok (.aload_n 0, 1) := by decide +kernel
theorem dX6_told_75 : decode cX6_told 75 = .ok (.getfield 54, 3) := by decide +kernel
theorem dX6_told_78 : decode cX6_told 78 = .ok (.iload_n 1, 1) := by decide +kernel
theorem dX6_told_79 : decode cX6_told 79 = .ok (.iaload, 1) := by decide +kernel
theorem dX6_told_80 : decode cX6_told 80 = .ok (.ireturn, 1) := by decide +kernel
theorem dX6_told_81 : decode cX6_told 81 = .ok (.aload_n 0, 1) := by decide +kernel
theorem dX6_told_82 : decode cX6_told 82 = .ok (.getfield 57, 3) := by decide +kernel
theorem dX6_told_85 : decode cX6_told 85 = .ok (.iload_n 1, 1) := by decide +kernel
theorem dX6_told_86 : decode cX6_told 86 = .ok (.iaload, 1) := by decide +kernel
theorem dX6_told_87 : decode cX6_told 87 = .ok (.ireturn, 1) := by decide +kernel
theorem dX6_told_88 : decode cX6_told 88 = .ok (.aload_n 0, 1) := by decide +kernel
theorem dX6_told_89 : decode cX6_told 89 = .ok (.getfield 60, 3) := by decide +kernel
theorem dX6_told_92 : decode cX6_told 92 = .ok (.iload_n 1, 1) := by decide +kernel
theorem dX6_told_93 : decode cX6_told 93 = .ok (.iaload, 1) := by decide +kernel
theorem dX6_told_94 : decode cX6_told 94 = .ok (.ireturn, 1) := by decide +kernel
theorem dX6_told_95 : decode cX6_told 95 = .ok (.aload_n 0, 1) := by decide +kernel
theorem dX6_told_96 : decode cX6_told 96 = .ok (.iload_n 1, 1) := by decide +kernel
theorem dX6_told_97 : decode cX6_told 97 = .ok (.invokevirtual 182, 3) := by decide +kernel
theorem dX6_told_100 : decode cX6_told 100 = .ok (.ifCond .eq 12, 3) := by decide +kernel
theorem dX6_told_103 : decode cX6_told 103 = .ok (.aload_n 0, 1) := by decide +kernel
theorem dX6_told_104 : decode cX6_told 104 = .ok (.getfield 63, 3) := by decide +kernel
theorem dX6_told_107 : decode cX6_told 107 = .ok (.iload_n 1, 1) := by decide +kernel
theorem dX6_told_108 : decode cX6_told 108 = .ok (.iaload, 1) := by decide +kernel
theorem dX6_told_109 : decode cX6_told 109 = .ok (.goto 4, 3) := by decide +kernel
theorem dX6_told_112 : decode cX6_told 112 = .ok (.iconst (-1), 1) := by decide +kernel
theorem dX6_told_113 : decode cX6_told 113 = .ok (.ireturn, 1) := by decide +kernel
theorem dX6_told_114 : decode cX6_told 114 = .ok (.iconst (-1), 1) := by decide +kernel
theorem dX6_told_115 : decode cX6_told 115 = .ok (.ireturn, 1) := by decide +kernel
theorem dX6_end_0 : decode cX6_end 0 = .ok (.aload_n 0, 1) := by decide +kernel
theorem dX6_end_1 : decode cX6_end 1 = .ok (.iconst 0, 1) := by decide +kernel
theorem dX6_end_2 : decode cX6_end 2 = .ok (.putfield 75, 3) := by decide +kernel
theorem dX6_end_5 : decode cX6_end 5 = .ok (.aload_n 0, 1) := by decide +kernel
theorem dX6_end_6 : decode cX6_end 6 = .ok (.getfield 132, 3) := by decide +kernel
theorem dX6_end_9 : decode cX6_end 9 = .ok (.ifCond .ne 5, 3) := by decide +kernel
theorem dX6_end_12 : decode cX6_end 12 = .ok (.iconst (-1), 1) := by decide +kernel
theorem dX6_end_13 : decode cX6_end 13 = .ok (.ireturn, 1) := by decide +kernel
theorem dX6_end_14 : decode cX6_end 14 = .ok (.iconst 0, 1) := by decide +kernel
theorem dX6_end_15 : decode cX6_end 15 = .ok (.istore_n 1, 1) := by decide +kernel
theorem dX6_end_16 : decode cX6_end 16 = .ok (.iload_n 1, 1) := by decide +kernel
theorem dX6_end_17 : decode cX6_end 17 = .ok (.aload_n 0, 1) := by decide +kernel
theorem dX6_end_18 : decode cX6_end 18 = .ok (.getfield 165, 3) := by decide +kernel
theorem dX6_end_21 : decode cX6_end 21 = .ok (.if_icmp .ge 22, 3) := by decide +kernel
theorem dX6_end_24 : decode cX6_end 24 = .ok (.aload_n 0, 1) := by decide +kernel
theorem dX6_end_25 : decode cX6_end 25 = .ok (.iload_n 1, 1) := by decide +kernel
theorem dX6_end_26 : decode cX6_end 26 = .ok (.invokevirtual 182, 3) := by decide +kernel
theorem dX6_end_29 : decode cX6_end 29 = .ok (.ifCond .eq 8, 3) := by decide +kernel
theorem dX6_end_32 : decode cX6_end 32 = .ok (.aload_n 0, 1) := by decide +kernel
theorem dX6_end_33 : decode cX6_end 33 = .ok (.iload_n 1, 1) := by decide +kernel
theorem dX6_end_34 : decode cX6_end 34 = .ok (.invokevirtual 185, 3) := by decide +kernel
theorem dX6_end_37 : decode cX6_end 37 = .ok (.iinc 1 1, 3) := by decide +kernel
theorem dX6_end_40 : decode cX6_end 40 = .ok (.goto (-24), 3) := by decide +kernel
theorem dX6_end_43 : decode cX6_end 43 = .ok (.iconst 0, 1) := by decide +kernel
theorem dX6_end_44 : decode cX6_end 44 = .ok (.istore_n 1, 1) := by decide +kernel
theorem dX6_end_45 : decode cX6_end 45 = .ok (.iload_n 1, 1) := by decide +kernel
theorem dX6_end_46 : decode cX6_end 46 = .ok (.aload_n 0, 1) := by decide +kernel
theorem dX6_end_47 : decode cX6_end 47 = .ok (.getfield 139, 3) := by decide +kernel
theorem dX6_end_50 : decode cX6_end 50 = .ok (.if_icmp .ge 33, 3) := by decide +kernel
theorem dX6_end_53 : decode cX6_end 53 = .ok (.aload_n 0, 1) := by decide +kernel
theorem dX6_end_54 : decode cX6_end 54 = .ok (.getfield 41, 3) := by decide +kernel
theorem dX6_end_57 : decode cX6_end 57 = .ok (.iload_n 1, 1) := by decide +kernel
theorem dX6_end_58 : decode cX6_end 58 = .ok (.iaload, 1) := by decide +kernel
theorem dX6_end_59 : decode cX6_end 59 = .ok (.ifCond .lt 18, 3) := by decide +kernel
theorem dX6_end_62 : decode cX6_end 62 = .ok (.aload_n 0, 1) := by decide +kernel
theorem dX6_end_63 : decode cX6_end 63 = .ok (.getfield 38, 3) := by decide +kernel
theorem dX6_end_66 : decode cX6_end 66 = .ok (.aload_n 0, 1) := by decide +kernel
theorem dX6_end_67 : decode cX6_end 67 = .ok (.getfield 41, 3) := by decide +kernel
theorem dX6_end_70 : decode cX6_end 70 = .ok (.iload_n 1, 1) := by decide +kernel
theorem dX6_end_71 : decode cX6_end 71 = .ok (.iaload, 1) := by decide +kernel
theorem dX6_end_72 : decode cX6_end 72 = .ok (.dup2, 1) := by decide +kernel
theorem dX6_end_73 : decode cX6_end 73 = .ok (.iaload, 1) := by decide +kernel
theorem dX6_end_74 : decode cX6_end 74 = .ok (.iconst 1, 1) := by decide +kernel
theorem dX6_end_75 : decode cX6_end 75 = .ok (.iadd, 1) := by decide +kernel
theorem dX6_end_76 : decode cX6_end 76 = .ok (.iastore, 1) := by decide +kernel
theorem dX6_end_77 : decode cX6_end 77 = .ok (.iinc 1 1, 3) := by decide +kernel
theorem dX6_end_80 : decode cX6_end 80 = .ok (.goto (-35), 3) := by decide +kernel
theorem dX6_end_83 : decode cX6_end 83 = .ok (.aload_n 0, 1) := by decide +kernel
theorem dX6_end_84 : decode cX6_end 84 = .ok (.iconst 0, 1) := by decide +kernel
theorem dX6_end_85 : decode cX6_end 85 = .ok (.iconst 0, 1) := by decide +kernel
theorem dX6_end_86 : decode cX6_end 86 = .ok (.aload_n 0, 1) := by decide +kernel
theorem dX6_end_87 : decode cX6_end 87 = .ok (.getfield 155, 3) := by decide +kernel
theorem dX6_end_90 : decode cX6_end 90 = .ok (.iconst 1, 1) := by decide +kernel
theorem dX6_end_91 : decode cX6_end 91 = .ok (.isub, 1) := by decide +kernel
theorem dX6_end_92 : decode cX6_end 92 = .ok (.invokevirtual 188, 3) := by decide +kernel
theorem dX6_end_95 : decode cX6_end 95 = .ok (.istore_n 1, 1) := by decide +kernel
theorem dX6_end_96 : decode cX6_end 96 = .ok (.aload_n 0, 1) := by decide +kernel
theorem dX6_end_97 : decode cX6_end 97 = .ok (.dup, 1) := by decide +kernel
theorem dX6_end_98 : decode cX6_end 98 = .ok (.getfield 191, 3) := by decide +kernel
theorem dX6_end_101 : decode cX6_end 101 = .ok (.iload_n 1, 1) := by decide +kernel
theorem dX6_end_102 : decode cX6_end 102 = .ok (.iadd, 1) := by decide +kernel
theorem dX6_end_103 : decode cX6_end 103 = .ok (.putfield 191, 3) := by decide +kernel
theorem dX6_end_106 : decode cX6_end 106 = .ok (.aload_n 0, 1) := by decide +kernel
theorem dX6_end_107 : decode cX6_end 107 = .ok (.iconst 0, 1) := by decide +kernel
theorem dX6_end_108 : decode cX6_end 108 = .ok (.putfield 132, 3) := by decide +kernel
theorem dX6_end_111 : decode cX6_end 111 = .ok (.iload_n 1, 1) := by decide +kernel
theorem dX6_end_112 : decode cX6_end 112 = .ok (.ireturn, 1) := by decide +kernel
theorem dX6_part_0 : decode cX6_part 0 = .ok (.aload_n 0, 1) := by decide +kernel
theorem dX6_part_1 : decode cX6_part 1 = .ok (.iconst 0, 1) := by decide +kernel
theorem dX6_part_2 : decode cX6_part 2 = .ok (.putfield 75, 3) := by decide +kernel
theorem dX6_part_5 : decode cX6_part 5 = .ok (.aload_n 0, 1) := by decide +kernel
theorem dX6_part_6 : decode cX6_part 6 = .ok (.getfield 132, 3) := by decide +kernel
theorem dX6_part_9 : decode cX6_part 9 = .ok (.ifCond .eq 24, 3) := by decide +kernel
theorem dX6_part_12 : decode cX6_part 12 = .ok (.iload_n 1, 1) := by decide +kernel
theorem dX6_part_13 : decode cX6_part 13 = .ok (.ifCond .lt 20, 3) := by decide +kernel
theorem dX6_part_16 : decode cX6_part 16 = .ok (.iload_n 1, 1) := by decide +kernel
theorem dX6_part_17 : decode cX6_part 17 = .ok (.aload_n 0, 1) := by decide +kernel
theorem dX6_part_18 : decode cX6_part 18 = .ok (.getfield 139, 3) := by decide +kernel
theorem dX6_part_21 : decode cX6_part 21 = .ok (.if_icmp .ge 12, 3) := by decide +kernel
theorem dX6_part_24 : decode cX6_part 24 = .ok (.aload_n 0, 1) := by decide +kernel
theorem dX6_part_25 : decode cX6_part 25 = .ok (.getfield 41, 3) := by decide +kernel
theorem dX6_part_28 : decode cX6_part 28 = .ok (.iload_n 1, 1) := by decide +kernel
theorem dX6_part_29 : decode cX6_part 29 = .ok (.iaload, 1) := by decide +kernel
theorem dX6_part_30 : decode cX6_part 30 = .ok (.ifCond .ge 7, 3) := by decide +kernel
theorem dX6_part_33 : decode cX6_part 33 = .ok (.iconst (-1), 1) := by decide +kernel
theorem dX6_part_34 : decode cX6_part 34 = .ok (.goto 9, 3) := by decide +kernel
theorem dX6_part_37 : decode cX6_part 37 = .ok (.aload_n 0, 1) := by decide +kernel
theorem dX6_part_38 : decode cX6_part 38 = .ok (.iload_n 1, 1) := by decide +kernel
theorem dX6_part_39 : decode cX6_part 39 = .ok (.iconst 0, 1) := by decide +kernel
theorem dX6_part_40 : decode cX6_part 40 = .ok (.invokevirtual 172, 3) := by decide +kernel
theorem dX6_part_43 : decode cX6_part 43 = .ok (.ireturn, 1) := by decide +kernel
theorem dX6_gain_0 : decode cX6_gain 0 = .ok (.aload_n 0, 1) := by decide +kernel
theorem dX6_gain_1 : decode cX6_gain 1 = .ok (.iconst 0, 1) := by decide +kernel
theorem dX6_gain_2 : decode cX6_gain 2 = .ok (.putfield 75, 3) := by decide +kernel
theorem dX6_gain_5 : decode cX6_gain 5 = .ok (.aload_n 0, 1) := by decide +kernel
theorem dX6_gain_6 : decode cX6_gain 6 = .ok (.getfield 132, 3) := by decide +kernel
theorem dX6_gain_9 : decode cX6_gain 9 = .ok (.ifCond .eq 33, 3) := by decide +kernel
theorem dX6_gain_12 : decode cX6_gain 12 = .ok (.aload_n 0, 1) := by decide +kernel
theorem dX6_gain_13 : decode cX6_gain 13 = .ok (.iload_n 1, 1) := by decide +kernel
theorem dX6_gain_14 : decode cX6_gain 14 = .ok (.invokevirtual 145, 3) := by decide +kernel
theorem dX6_gain_17 : decode cX6_gain 17 = .ok (.ifCond .eq 25, 3) := by decide +kernel
theorem dX6_gain_20 : decode cX6_gain 20 = .ok (.aload_n 0, 1) := by decide +kernel
theorem dX6_gain_21 : decode cX6_gain 21 = .ok (.iload_n 2, 1) := by decide +kernel
theorem dX6_gain_22 : decode cX6_gain 22 = .ok (.invokevirtual 145, 3) := by decide +kernel
theorem dX6_gain_25 : decode cX6_gain 25 = .ok (.ifCond .eq 17, 3) := by decide +kernel
theorem dX6_gain_28 : decode cX6_gain 28 = .ok (.iload_n 1, 1) := by decide +kernel
theorem dX6_gain_29 : decode cX6_gain 29 = .ok (.iload_n 2, 1) := by decide +kernel
theorem dX6_gain_30 : decode cX6_gain 30 = .ok (.if_icmp .eq 12, 3) := by decide +kernel
theorem dX6_gain_33 : decode cX6_gain 33 = .ok (.aload_n 0, 1) := by decide +kernel
theorem dX6_gain_34 : decode cX6_gain 34 = .ok (.iload_n 1, 1) := by decide +kernel
theorem dX6_gain_35 : decode cX6_gain 35 = .ok (.iconst 0, 1) := by decide +kernel
theorem dX6_gain_36 : decode cX6_gain 36 = .ok (.invokevirtual 148, 3) := by decide +kernel
theorem dX6_gain_39 : decode cX6_gain 39 = .ok (.goto 4, 3) := by decide +kernel
theorem dX6_gain_42 : decode cX6_gain 42 = .ok (.iconst (-1), 1) := by decide +kernel
theorem dX6_gain_43 : decode cX6_gain 43 = .ok (.istore_n 3, 1) := by decide +kernel
theorem dX6_gain_44 : decode cX6_gain 44 = .ok (.iload_n 3, 1) := by decide +kernel
theorem dX6_gain_45 : decode cX6_gain 45 = .ok (.ifCond .ge 6, 3) := by decide +kernel
theorem dX6_gain_48 : decode cX6_gain 48 = .ok (.ldc 194, 2) := by decide +kernel
theorem dX6_gain_50 : decode cX6_gain 50 = .ok (.ireturn, 1) := by decide +kernel
theorem dX6_gain_51 : decode cX6_gain 51 = .ok (.aload_n 0, 1) := by decide +kernel
theorem dX6_gain_52 : decode cX6_gain 52 = .ok (.iload_n 3, 1) := by decide +kernel
theorem dX6_gain_53 : decode cX6_gain 53 = .ok (.iconst 0, 1) := by decide +kernel
theorem dX6_gain_54 : decode cX6_gain 54 = .ok (.invokevirtual 172, 3) := by decide +kernel
theorem dX6_gain_57 : decode cX6_gain 57 = .ok (.istore 4, 2) := by decide +kernel
theorem dX6_gain_59 : decode cX6_gain 59 = .ok (.aload_n 0, 1) := by decide +kernel
theorem dX6_gain_60 : decode cX6_gain 60 = .ok (.getfield 29, 3) := by decide +kernel
theorem dX6_gain_63 : decode cX6_gain 63 = .ok (.iload_n 1, 1) := by decide +kernel
theorem dX6_gain_64 : decode cX6_gain 64 = .ok (.iaload, 1) := by decide +kernel
theorem dX6_gain_65 : decode cX6_gain 65 = .ok (.aload_n 0, 1) := by decide +kernel
theorem dX6_gain_66 : decode cX6_gain 66 = .ok (.getfield 32, 3) := by decide +kernel
theorem dX6_gain_69 : decode cX6_gain 69 = .ok (.iload_n 1, 1) := by decide +kernel
theorem dX6_gain_70 : decode cX6_gain 70 = .ok (.iaload, 1) := by decide +kernel
theorem dX6_gain_71 : decode cX6_gain 71 = .ok (.iadd, 1) := by decide +kernel
theorem dX6_gain_72 : decode cX6_gain 72 = .ok (.istore 5, 2) := by decide +kernel
theorem dX6_gain_74 : decode cX6_gain 74 = .ok (.aload_n 0, 1) := by decide +kernel
theorem dX6_gain_75 : decode cX6_gain 75 = .ok (.getfield 29, 3) := by decide +kernel
theorem dX6_gain_78 : decode cX6_gain 78 = .ok (.iload_n 2, 1) := by decide +kernel
theorem dX6_gain_79 : decode cX6_gain 79 = .ok (.iaload, 1) := by decide +kernel
theorem dX6_gain_80 : decode cX6_gain 80 = .ok (.aload_n 0, 1) := by decide +kernel
theorem dX6_gain_81 : decode cX6_gain 81 = .ok (.getfield 32, 3) := by decide +kernel
theorem dX6_gain_84 : decode cX6_gain 84 = .ok (.iload_n 2, 1) := by decide +kernel
theorem dX6_gain_85 : decode cX6_gain 85 = .ok (.iaload, 1) := by decide +kernel
theorem dX6_gain_86 : decode cX6_gain 86 = .ok (.iadd, 1) := by decide +kernel
theorem dX6_gain_87 : decode cX6_gain 87 = .ok (.istore 6, 2) := by decide +kernel
theorem dX6_gain_89 : decode cX6_gain 89 = .ok (.iload 6, 2) := by decide +kernel
theorem dX6_gain_91 : decode cX6_gain 91 = .ok (.iload 4, 2) := by decide +kernel
theorem dX6_gain_93 : decode cX6_gain 93 = .ok (.isub, 1) := by decide +kernel
theorem dX6_gain_94 : decode cX6_gain 94 = .ok (.iload 5, 2) := by decide +kernel
theorem dX6_gain_96 : decode cX6_gain 96 = .ok (.if_icmp .lt 8, 3) := by decide +kernel
theorem dX6_gain_99 : decode cX6_gain 99 = .ok (.iload 4, 2) := by decide +kernel
theorem dX6_gain_101 : decode cX6_gain 101 = .ok (.goto 8, 3) := by decide +kernel
theorem dX6_gain_104 : decode cX6_gain 104 = .ok (.iload 6, 2) := by decide +kernel
theorem dX6_gain_106 : decode cX6_gain 106 = .ok (.iload 5, 2) := by decide +kernel
theorem dX6_gain_108 : decode cX6_gain 108 = .ok (.isub, 1) := by decide +kernel
theorem dX6_gain_109 : decode cX6_gain 109 = .ok (.ireturn, 1) := by decide +kernel
theorem dX6_ahead_0 : decode cX6_ahead 0 = .ok (.aload_n 0, 1) := by decide +kernel
theorem dX6_ahead_1 : decode cX6_ahead 1 = .ok (.iconst 0, 1) := by decide +kernel
theorem dX6_ahead_2 : decode cX6_ahead 2 = .ok (.putfield 75, 3) := by decide +kernel
theorem dX6_ahead_5 : decode cX6_ahead 5 = .ok (.iload_n 1, 1) := by decide +kernel
theorem dX6_ahead_6 : decode cX6_ahead 6 = .ok (.ifCond .lt 9, 3) := by decide +kernel
theorem dX6_ahead_9 : decode cX6_ahead 9 = .ok (.iload_n 1, 1) := by decide +kernel
theorem dX6_ahead_10 : decode cX6_ahead 10 = .ok (.bipush 20, 2) := by decide +kernel
theorem dX6_ahead_12 : decode cX6_ahead 12 = .ok (.if_icmp .le 5, 3) := by decide +kernel
theorem dX6_ahead_15 : decode cX6_ahead 15 = .ok (.iconst (-1), 1) := by decide +kernel
theorem dX6_ahead_16 : decode cX6_ahead 16 = .ok (.ireturn, 1) := by decide +kernel
theorem dX6_ahead_17 : decode cX6_ahead 17 = .ok (.iconst 0, 1) := by decide +kernel
theorem dX6_ahead_18 : decode cX6_ahead 18 = .ok (.istore_n 2, 1) := by decide +kernel
theorem dX6_ahead_19 : decode cX6_ahead 19 = .ok (.iload_n 2, 1) := by decide +kernel
theorem dX6_ahead_20 : decode cX6_ahead 20 = .ok (.bipush 12, 2) := by decide +kernel
theorem dX6_ahead_22 : decode cX6_ahead 22 = .ok (.if_icmp .ge 39, 3) := by decide +kernel
theorem dX6_ahead_25 : decode cX6_ahead 25 = .ok (.aload_n 0, 1) := by decide +kernel
theorem dX6_ahead_26 : decode cX6_ahead 26 = .ok (.getfield 29, 3) := by decide +kernel
theorem dX6_ahead_29 : decode cX6_ahead 29 = .ok (.bipush 12, 2) := by decide +kernel
theorem dX6_ahead_31 : decode cX6_ahead 31 = .ok (.iload_n 2, 1) := by decide +kernel
theorem dX6_ahead_32 : decode cX6_ahead 32 = .ok (.iadd, 1) := by decide +kernel
theorem dX6_ahead_33 : decode cX6_ahead 33 = .ok (.aload_n 0, 1) := by decide +kernel
theorem dX6_ahead_34 : decode cX6_ahead 34 = .ok (.getfield 29, 3) := by decide +kernel
theorem dX6_ahead_37 : decode cX6_ahead 37 = .ok (.iload_n 2, 1) := by decide +kernel
theorem dX6_ahead_38 : decode cX6_ahead 38 = .ok (.iaload, 1) := by decide +kernel
theorem dX6_ahead_39 : decode cX6_ahead 39 = .ok (.iastore, 1) := by decide +kernel
theorem dX6_ahead_40 : decode cX6_ahead 40 = .ok (.aload_n 0, 1) := by decide +kernel
theorem dX6_ahead_41 : decode cX6_ahead 41 = .ok (.getfield 35, 3) := by decide +kernel
theorem dX6_ahead_44 : decode cX6_ahead 44 = .ok (.bipush 12, 2) := by decide +kernel
theorem dX6_ahead_46 : decode cX6_ahead 46 = .ok (.iload_n 2, 1) := by decide +kernel
theorem dX6_ahead_47 : decode cX6_ahead 47 = .ok (.iadd, 1) := by decide +kernel
theorem dX6_ahead_48 : decode cX6_ahead 48 = .ok (.aload_n 0, 1) := by decide +kernel
theorem dX6_ahead_49 : decode cX6_ahead 49 = .ok (.getfield 35, 3) := by decide +kernel
theorem dX6_ahead_52 : decode cX6_ahead 52 = .ok (.iload_n 2, 1) := by decide +kernel
theorem dX6_ahead_53 : decode cX6_ahead 53 = .ok (.iaload, 1) := by decide +kernel
theorem dX6_ahead_54 : decode cX6_ahead 54 = .ok (.iastore, 1) := by decide +kernel
theorem dX6_ahead_55 : decode cX6_ahead 55 = .ok (.iinc 2 1, 3) := by decide +kernel
theorem dX6_ahead_58 : decode cX6_ahead 58 = .ok (.goto (-39), 3) := by decide +kernel
theorem dX6_ahead_61 : decode cX6_ahead 61 = .ok (.aload_n 0, 1) := by decide +kernel
theorem dX6_ahead_62 : decode cX6_ahead 62 = .ok (.getfield 132, 3) := by decide +kernel
theorem dX6_ahead_65 : decode cX6_ahead 65 = .ok (.ifCond .eq 101, 3) := by decide +kernel
theorem dX6_ahead_68 : decode cX6_ahead 68 = .ok (.iconst 0, 1) := by decide +kernel
theorem dX6_ahead_69 : decode cX6_ahead 69 = .ok (.istore_n 2, 1) := by decide +kernel
theorem dX6_ahead_70 : decode cX6_ahead 70 = .ok (.iload_n 2, 1) := by decide +kernel
theorem dX6_ahead_71 : decode cX6_ahead 71 = .ok (.aload_n 0, 1) := by decide +kernel
theorem dX6_ahead_72 : decode cX6_ahead 72 = .ok (.getfield 139, 3) := by decide +kernel
theorem dX6_ahead_75 : decode cX6_ahead 75 = .ok (.if_icmp .ge 24, 3) := by decide +kernel
theorem dX6_ahead_78 : decode cX6_ahead 78 = .ok (.aload_n 0, 1) := by decide +kernel
theorem dX6_ahead_79 : decode cX6_ahead 79 = .ok (.getfield 41, 3) := by decide +kernel
theorem dX6_ahead_82 : decode cX6_ahead 82 = .ok (.bipush 24, 2) := by decide +kernel
theorem dX6_ahead_84 : decode cX6_ahead 84 = .ok (.iload_n 2, 1) := by decide +kernel
theorem dX6_ahead_85 : decode cX6_ahead 85 = .ok (.iadd, 1) := by decide +kernel
theorem dX6_ahead_86 : decode cX6_ahead 86 = .ok (.aload_n 0, 1) := by decide +kernel
theorem dX6_ahead_87 : decode cX6_ahead 87 = .ok (.getfield 41, 3) := by decide +kernel
theorem dX6_ahead_90 : decode cX6_ahead 90 = .ok (.iload_n 2, 1) := by decide +kernel
theorem dX6_ahead_91 : decode cX6_ahead 91 = .ok (.iaload, 1) := by decide +kernel
theorem dX6_ahead_92 : decode cX6_ahead 92 = .ok (.iastore, 1) := by decide +kernel
theorem dX6_ahead_93 : decode cX6_ahead 93 = .ok (.iinc 2 1, 3) := by decide +kernel
theorem dX6_ahead_96 : decode cX6_ahead 96 = .ok (.goto (-26), 3) := by decide +kernel
theorem dX6_ahead_99 : decode cX6_ahead 99 = .ok (.iconst 0, 1) := by decide +kernel
theorem dX6_ahead_100 : decode cX6_ahead 100 = .ok (.istore_n 2, 1) := by decide +kernel
theorem dX6_ahead_101 : decode cX6_ahead 101 = .ok (.iload_n 2, 1) := by decide +kernel
theorem dX6_ahead_102 : decode cX6_ahead 102 = .ok (.aload_n 0, 1) := by decide +kernel
theorem dX6_ahead_103 : decode cX6_ahead 103 = .ok (.getfield 165, 3) := by decide +kernel
theorem dX6_ahead_106 : decode cX6_ahead 106 = .ok (.if_icmp .ge 45, 3) := by decide +kernel
theorem dX6_ahead_109 : decode cX6_ahead 109 = .ok (.aload_n 0, 1) := by decide +kernel
theorem dX6_ahead_110 : decode cX6_ahead 110 = .ok (.iload_n 2, 1) := by decide +kernel
theorem dX6_ahead_111 : decode cX6_ahead 111 = .ok (.invokevirtual 182, 3) := by decide +kernel
theorem dX6_ahead_114 : decode cX6_ahead 114 = .ok (.ifCond .eq 31, 3) := by decide +kernel
theorem dX6_ahead_117 : decode cX6_ahead 117 = .ok (.aload_n 0, 1) := by decide +kernel
theorem dX6_ahead_118 : decode cX6_ahead 118 = .ok (.iload_n 2, 1) := by decide +kernel
theorem dX6_ahead_119 : decode cX6_ahead 119 = .ok (.invokevirtual 175, 3) := by decide +kernel
theorem dX6_ahead_122 : decode cX6_ahead 122 = .ok (.ifCond .eq 23, 3) := by decide +kernel
theorem dX6_ahead_125 : decode cX6_ahead 125 = .ok (.aload_n 0, 1) := by decide +kernel
theorem dX6_ahead_126 : decode cX6_ahead 126 = .ok (.getfield 41, 3) := by decide +kernel
theorem dX6_ahead_129 : decode cX6_ahead 129 = .ok (.bipush 24, 2) := by decide +kernel
theorem dX6_ahead_131 : decode cX6_ahead 131 = .ok (.aload_n 0, 1) := by decide +kernel
theorem dX6_ahead_132 : decode cX6_ahead 132 = .ok (.getfield 54, 3) := by decide +kernel
theorem dX6_ahead_135 : decode cX6_ahead 135 = .ok (.iload_n 2, 1) := by decide +kernel
theorem dX6_ahead_136 : decode cX6_ahead 136 = .ok (.iaload, 1) := by decide +kernel
theorem dX6_ahead_137 : decode cX6_ahead 137 = .ok (.iadd, 1) := by decide +kernel
theorem dX6_ahead_138 : decode cX6_ahead 138 = .ok (.aload_n 0, 1) := by decide +kernel
theorem dX6_ahead_139 : decode cX6_ahead 139 = .ok (.getfield 51, 3) := by decide +kernel
theorem dX6_ahead_142 : decode cX6_ahead 142 = .ok (.iload_n 2, 1) := by decide +kernel
theorem dX6_ahead_143 : decode cX6_ahead 143 = .ok (.iaload, 1) := by decide +kernel
theorem dX6_ahead_144 : decode cX6_ahead 144 = .ok (.iastore, 1) := by decide +kernel
theorem dX6_ahead_145 : decode cX6_ahead 145 = .ok (.iinc 2 1, 3) := by decide +kernel
theorem dX6_ahead_148 : decode cX6_ahead 148 = .ok (.goto (-47), 3) := by decide +kernel
theorem dX6_ahead_151 : decode cX6_ahead 151 = .ok (.aload_n 0, 1) := by decide +kernel
theorem dX6_ahead_152 : decode cX6_ahead 152 = .ok (.bipush 12, 2) := by decide +kernel
theorem dX6_ahead_154 : decode cX6_ahead 154 = .ok (.bipush 24, 2) := by decide +kernel
theorem dX6_ahead_156 : decode cX6_ahead 156 = .ok (.aload_n 0, 1) := by decide +kernel
theorem dX6_ahead_157 : decode cX6_ahead 157 = .ok (.getfield 155, 3) := by decide +kernel
theorem dX6_ahead_160 : decode cX6_ahead 160 = .ok (.iconst 1, 1) := by decide +kernel
theorem dX6_ahead_161 : decode cX6_ahead 161 = .ok (.isub, 1) := by decide +kernel
theorem dX6_ahead_162 : decode cX6_ahead 162 = .ok (.invokevirtual 188, 3) := by decide +kernel
theorem dX6_ahead_165 : decode cX6_ahead 165 = .ok (.istore_n 2, 1) := by decide +kernel
theorem dX6_ahead_166 : decode cX6_ahead 166 = .ok (.iconst 0, 1) := by decide +kernel
theorem dX6_ahead_167 : decode cX6_ahead 167 = .ok (.istore_n 2, 1) := by decide +kernel
theorem dX6_ahead_168 : decode cX6_ahead 168 = .ok (.iconst 0, 1) := by decide +kernel
theorem dX6_ahead_169 : decode cX6_ahead 169 = .ok (.istore_n 3, 1) := by decide +kernel
theorem dX6_ahead_170 : decode cX6_ahead 170 = .ok (.iload_n 3, 1) := by decide +kernel
theorem dX6_ahead_171 : decode cX6_ahead 171 = .ok (.iload_n 1, 1) := by decide +kernel
theorem dX6_ahead_172 : decode cX6_ahead 172 = .ok (.if_icmp .gt 40, 3) := by decide +kernel
theorem dX6_ahead_175 : decode cX6_ahead 175 = .ok (.aload_n 0, 1) := by decide +kernel
theorem dX6_ahead_176 : decode cX6_ahead 176 = .ok (.bipush 12, 2) := by decide +kernel
theorem dX6_ahead_178 : decode cX6_ahead 178 = .ok (.bipush 24, 2) := by decide +kernel
theorem dX6_ahead_180 : decode cX6_ahead 180 = .ok (.aload_n 0, 1) := by decide +kernel
theorem dX6_ahead_181 : decode cX6_ahead 181 = .ok (.getfield 155, 3) := by decide +kernel
theorem dX6_ahead_184 : decode cX6_ahead 184 = .ok (.iload_n 3, 1) := by decide +kernel
theorem dX6_ahead_185 : decode cX6_ahead 185 = .ok (.iadd, 1) := by decide +kernel
theorem dX6_ahead_186 : decode cX6_ahead 186 = .ok (.invokevirtual 168, 3) := by decide +kernel
theorem dX6_ahead_189 : decode cX6_ahead 189 = .ok (.istore_n 2, 1) := by decide +kernel
theorem dX6_ahead_190 : decode cX6_ahead 190 = .ok (.aload_n 0, 1) := by decide +kernel
theorem dX6_ahead_191 : decode cX6_ahead 191 = .ok (.bipush 12, 2) := by decide +kernel
theorem dX6_ahead_193 : decode cX6_ahead 193 = .ok (.bipush 24, 2) := by decide +kernel
theorem dX6_ahead_195 : decode cX6_ahead 195 = .ok (.aload_n 0, 1) := by decide +kernel
theorem dX6_ahead_196 : decode cX6_ahead 196 = .ok (.getfield 155, 3) := by decide +kernel
theorem dX6_ahead_199 : decode cX6_ahead 199 = .ok (.iload_n 3, 1) := by decide +kernel
theorem dX6_ahead_200 : decode cX6_ahead 200 = .ok (.iadd, 1) := by decide +kernel
theorem dX6_ahead_201 : decode cX6_ahead 201 = .ok (.invokevirtual 188, 3) := by decide +kernel
theorem dX6_ahead_204 : decode cX6_ahead 204 = .ok (.istore 4, 2) := by decide +kernel
theorem dX6_ahead_206 : decode cX6_ahead 206 = .ok (.iinc 3 1, 3) := by decide +kernel
theorem dX6_ahead_209 : decode cX6_ahead 209 = .ok (.goto (-39), 3) := by decide +kernel
theorem dX6_ahead_212 : decode cX6_ahead 212 = .ok (.iload_n 2, 1) := by decide +kernel
theorem dX6_ahead_213 : decode cX6_ahead 213 = .ok (.ireturn, 1) := by decide +kernel
theorem dX6_count_0 : decode cX6_count 0 = .ok (.aload_n 0, 1) := by decide +kernel
theorem dX6_count_1 : decode cX6_count 1 = .ok (.iconst 0, 1) := by decide +kernel
theorem dX6_count_2 : decode cX6_count 2 = .ok (.putfield 75, 3) := by decide +kernel
theorem dX6_count_5 : decode cX6_count 5 = .ok (.iload_n 1, 1) := by decide +kernel
theorem dX6_count_6 : decode cX6_count 6 = .ok (.tableswitch 79 0 5 #[38, 43, 48, 53, 69, 74], 38) := by decide +kernel
theorem dX6_count_44 : decode cX6_count 44 = .ok (.aload_n 0, 1) := by decide +kernel
theorem dX6_count_45 : decode cX6_count 45 = .ok (.getfield 142, 3) := by decide +kernel
theorem dX6_count_48 : decode cX6_count 48 = .ok (.ireturn, 1) := by decide +kernel
theorem dX6_count_49 : decode cX6_count 49 = .ok (.aload_n 0, 1) := by decide +kernel
theorem dX6_count_50 : decode cX6_count 50 = .ok (.getfield 139, 3) := by decide +kernel
theorem dX6_count_53 : decode cX6_count 53 = .ok (.ireturn, 1) := by decide +kernel
theorem dX6_count_54 : decode cX6_count 54 = .ok (.aload_n 0, 1) := by decide +kernel
theorem dX6_count_55 : decode cX6_count 55 = .ok (.getfield 155, 3) := by decide +kernel
theorem dX6_count_58 : decode cX6_count 58 = .ok (.ireturn, 1) := by decide +kernel
theorem dX6_count_59 : decode cX6_count 59 = .ok (.aload_n 0, 1) := by decide +kernel
theorem dX6_count_60 : decode cX6_count 60 = .ok (.getfield 132, 3) := by decide +kernel
theorem dX6_count_63 : decode cX6_count 63 = .ok (.ifCond .eq 10, 3) := by decide +kernel
theorem dX6_count_66 : decode cX6_count 66 = .ok (.aload_n 0, 1) := by decide +kernel
theorem dX6_count_67 : decode cX6_count 67 = .ok (.getfield 162, 3) := by decide +kernel
theorem dX6_count_70 : decode cX6_count 70 = .ok (.goto 4, 3) := by decide +kernel
theorem dX6_count_73 : decode cX6_count 73 = .ok (.iconst (-1), 1) := by decide +kernel
theorem dX6_count_74 : decode cX6_count 74 = .ok (.ireturn, 1) := by decide +kernel
theorem dX6_count_75 : decode cX6_count 75 = .ok (.aload_n 0, 1) := by decide +kernel
theorem dX6_count_76 : decode cX6_count 76 = .ok (.getfield 165, 3) := by decide +kernel
theorem dX6_count_79 : decode cX6_count 79 = .ok (.ireturn, 1) := by decide +kernel
theorem dX6_count_80 : decode cX6_count 80 = .ok (.aload_n 0, 1) := by decide +kernel
theorem dX6_count_81 : decode cX6_count 81 = .ok (.getfield 191, 3) := by decide +kernel
theorem dX6_count_84 : decode cX6_count 84 = .ok (.ireturn, 1) := by decide +kernel
theorem dX6_count_85 : decode cX6_count 85 = .ok (.iconst (-1), 1) := by decide +kernel
theorem dX6_count_86 : decode cX6_count 86 = .ok (.ireturn, 1) := by decide +kernel
theorem dJ9_min_7cf53_0 : decode cJ9_min_7cf53 0 = .ok (.iload_n 0, 1) := by decide +kernel
theorem dJ9_min_7cf53_1 : decode cJ9_min_7cf53 1 = .ok (.iload_n 1, 1) := by decide +kernel
theorem dJ9_min_7cf53_2 : decode cJ9_min_7cf53 2 = .ok (.if_icmp .gt 7, 3) := by decide +kernel
theorem dJ9_min_7cf53_5 : decode cJ9_min_7cf53 5 = .ok (.iload_n 0, 1) := by decide +kernel
theorem dJ9_min_7cf53_6 : decode cJ9_min_7cf53 6 = .ok (.goto 4, 3) := by decide +kernel
theorem dJ9_min_7cf53_9 : decode cJ9_min_7cf53 9 = .ok (.iload_n 1, 1) := by decide +kernel
theorem dJ9_min_7cf53_10 : decode cJ9_min_7cf53 10 = .ok (.ireturn, 1) := by decide +kernel
theorem dJ0_length_8abf5_0 : decode cJ0_length_8abf5 0 = .ok (.aload_n 0, 1) := by decide +kernel
theorem dJ0_length_8abf5_1 : decode cJ0_length_8abf5 1 = .ok (.getfield 9, 3) := by decide +kernel
theorem dJ0_length_8abf5_4 : decode cJ0_length_8abf5 4 = .ok (.arraylength, 1) := by decide +kernel
theorem dJ0_length_8abf5_5 : decode cJ0_length_8abf5 5 = .ok (.aload_n 0, 1) := by decide +kernel
theorem dJ0_length_8abf5_6 : decode cJ0_length_8abf5 6 = .ok (.invokevirtual 335, 3) := by decide +kernel
theorem dJ0_length_8abf5_9 : decode cJ0_length_8abf5 9 = .ok (.ishr, 1) := by decide +kernel
theorem dJ0_length_8abf5_10 : decode cJ0_length_8abf5 10 = .ok (.ireturn, 1) := by decide +kernel
theorem dJ0_charAt_5068e_0 : decode cJ0_charAt_5068e 0 = .ok (.aload_n 0, 1) := by decide +kernel
theorem dJ0_charAt_5068e_1 : decode cJ0_charAt_5068e 1 = .ok (.invokevirtual 492, 3) := by decide +kernel
theorem dJ0_charAt_5068e_4 : decode cJ0_charAt_5068e 4 = .ok (.ifCond .eq 12, 3) := by decide +kernel
theorem dJ0_charAt_5068e_7 : decode cJ0_charAt_5068e 7 = .ok (.aload_n 0, 1) := by decide +kernel
theorem dJ0_charAt_5068e_8 : decode cJ0_charAt_5068e 8 = .ok (.getfield 9, 3) := by decide +kernel
theorem dJ0_charAt_5068e_11 : decode cJ0_charAt_5068e 11 = .ok (.iload_n 1, 1) := by decide +kernel
theorem dJ0_charAt_5068e_12 : decode cJ0_charAt_5068e 12 = .ok (.invokestatic 495, 3) := by decide +kernel
theorem dJ0_charAt_5068e_15 : decode cJ0_charAt_5068e 15 = .ok (.ireturn, 1) := by decide +kernel
theorem dJ0_charAt_5068e_16 : decode cJ0_charAt_5068e 16 = .ok (.aload_n 0, 1) := by decide +kernel
theorem dJ0_charAt_5068e_17 : decode cJ0_charAt_5068e 17 = .ok (.getfield 9, 3) := by decide +kernel
theorem dJ0_charAt_5068e_20 : decode cJ0_charAt_5068e 20 = .ok (.iload_n 1, 1) := by decide +kernel
theorem dJ0_charAt_5068e_21 : decode cJ0_charAt_5068e 21 = .ok (.invokestatic 498, 3) := by decide +kernel
theorem dJ0_charAt_5068e_24 : decode cJ0_charAt_5068e 24 = .ok (.ireturn, 1) := by decide +kernel
theorem dJ0_coder_7d493_0 : decode cJ0_coder_7d493 0 = .ok (.getstatic 38, 3) := by decide +kernel
theorem dJ0_coder_7d493_3 : decode cJ0_coder_7d493 3 = .ok (.ifCond .eq 10, 3) := by decide +kernel
theorem dJ0_coder_7d493_6 : decode cJ0_coder_7d493 6 = .ok (.aload_n 0, 1) := by decide +kernel
theorem dJ0_coder_7d493_7 : decode cJ0_coder_7d493 7 = .ok (.getfield 15, 3) := by decide +kernel
theorem dJ0_coder_7d493_10 : decode cJ0_coder_7d493 10 = .ok (.goto 4, 3) := by decide +kernel
theorem dJ0_coder_7d493_13 : decode cJ0_coder_7d493 13 = .ok (.iconst 1, 1) := by decide +kernel
theorem dJ0_coder_7d493_14 : decode cJ0_coder_7d493 14 = .ok (.ireturn, 1) := by decide +kernel
theorem dJ0_isLatin1_aae02_0 : decode cJ0_isLatin1_aae02 0 = .ok (.getstatic 38, 3) := by decide +kernel
theorem dJ0_isLatin1_aae02_3 : decode cJ0_isLatin1_aae02 3 = .ok (.ifCond .eq 14, 3) := by decide +kernel
theorem dJ0_isLatin1_aae02_6 : decode cJ0_isLatin1_aae02 6 = .ok (.aload_n 0, 1) := by decide +kernel
theorem dJ0_isLatin1_aae02_7 : decode cJ0_isLatin1_aae02 7 = .ok (.getfield 15, 3) := by decide +kernel
theorem dJ0_isLatin1_aae02_10 : decode cJ0_isLatin1_aae02 10 = .ok (.ifCond .ne 7, 3) := by decide +kernel
theorem dJ0_isLatin1_aae02_13 : decode cJ0_isLatin1_aae02 13 = .ok (.iconst 1, 1) := by decide +kernel
theorem dJ0_isLatin1_aae02_14 : decode cJ0_isLatin1_aae02 14 = .ok (.goto 4, 3) := by decide +kernel
theorem dJ0_isLatin1_aae02_17 : decode cJ0_isLatin1_aae02 17 = .ok (.iconst 0, 1) := by decide +kernel
theorem dJ0_isLatin1_aae02_18 : decode cJ0_isLatin1_aae02 18 = .ok (.ireturn, 1) := by decide +kernel
theorem dJ0_checkIndex_df160_0 : decode cJ0_checkIndex_df160 0 = .ok (.iload_n 0, 1) := by decide +kernel
theorem dJ0_checkIndex_df160_1 : decode cJ0_checkIndex_df160 1 = .ok (.iload_n 1, 1) := by decide +kernel
theorem dJ0_checkIndex_df160_2 : decode cJ0_checkIndex_df160 2 = .ok (.getstatic 1053, 3) := by decide +kernel
theorem dJ0_checkIndex_df160_5 : decode cJ0_checkIndex_df160 5 = .ok (.invokestatic 1059, 3) := by decide +kernel
theorem dJ0_checkIndex_df160_8 : decode cJ0_checkIndex_df160 8 = .ok (.pop, 1) := by decide +kernel
theorem dJ0_checkIndex_df160_9 : decode cJ0_checkIndex_df160 9 = .ok (.return_, 1) := by decide +kernel
theorem dJ1_charAt_3b067_0 : decode cJ1_charAt_3b067 0 = .ok (.iload_n 1, 1) := by decide +kernel
theorem dJ1_charAt_3b067_1 : decode cJ1_charAt_3b067 1 = .ok (.aload_n 0, 1) := by decide +kernel
theorem dJ1_charAt_3b067_2 : decode cJ1_charAt_3b067 2 = .ok (.arraylength, 1) := by decide +kernel
theorem dJ1_charAt_3b067_3 : decode cJ1_charAt_3b067 3 = .ok (.invokestatic 9, 3) := by decide +kernel
theorem dJ1_charAt_3b067_6 : decode cJ1_charAt_3b067 6 = .ok (.aload_n 0, 1) := by decide +kernel
theorem dJ1_charAt_3b067_7 : decode cJ1_charAt_3b067 7 = .ok (.iload_n 1, 1) := by decide +kernel
theorem dJ1_charAt_3b067_8 : decode cJ1_charAt_3b067 8 = .ok (.baload, 1) := by decide +kernel
theorem dJ1_charAt_3b067_9 : decode cJ1_charAt_3b067 9 = .ok (.sipush 255, 3) := by decide +kernel
theorem dJ1_charAt_3b067_12 : decode cJ1_charAt_3b067 12 = .ok (.iand, 1) := by decide +kernel
theorem dJ1_charAt_3b067_13 : decode cJ1_charAt_3b067 13 = .ok (.i2c, 1) := by decide +kernel
theorem dJ1_charAt_3b067_14 : decode cJ1_charAt_3b067 14 = .ok (.ireturn, 1) := by decide +kernel
theorem dJ2_getChar_3b067_0 : decode cJ2_getChar_3b067 0 = .ok (.getstatic 44, 3) := by decide +kernel
theorem dJ2_getChar_3b067_3 : decode cJ2_getChar_3b067 3 = .ok (.ifCond .ne 25, 3) := by decide +kernel
theorem dJ2_getChar_3b067_6 : decode cJ2_getChar_3b067 6 = .ok (.iload_n 1, 1) := by decide +kernel
theorem dJ2_getChar_3b067_7 : decode cJ2_getChar_3b067 7 = .ok (.ifCond .lt 11, 3) := by decide +kernel
theorem dJ2_getChar_3b067_10 : decode cJ2_getChar_3b067 10 = .ok (.iload_n 1, 1) := by decide +kernel
theorem dJ2_getChar_3b067_11 : decode cJ2_getChar_3b067 11 = .ok (.aload_n 0, 1) := by decide +kernel
theorem dJ2_getChar_3b067_12 : decode cJ2_getChar_3b067 12 = .ok (.invokestatic 48, 3) := by decide +kernel
theorem dJ2_getChar_3b067_15 : decode cJ2_getChar_3b067 15 = .ok (.if_icmp .lt 13, 3) := by decide +kernel
theorem dJ2_getChar_3b067_18 : decode cJ2_getChar_3b067 18 = .ok (.new 52, 3) := by decide +kernel
theorem dJ2_getChar_3b067_21 : decode cJ2_getChar_3b067 21 = .ok (.dup, 1) := by decide +kernel
theorem dJ2_getChar_3b067_22 : decode cJ2_getChar_3b067 22 = .ok (.ldc 54, 2) := by decide +kernel
theorem dJ2_getChar_3b067_24 : decode cJ2_getChar_3b067 24 = .ok (.invokespecial 56, 3) := by decide +kernel
theorem dJ2_getChar_3b067_27 : decode cJ2_getChar_3b067 27 = .ok (.athrow, 1) := by decide +kernel
theorem dJ2_getChar_3b067_28 : decode cJ2_getChar_3b067 28 = .ok (.iload_n 1, 1) := by decide +kernel
theorem dJ2_getChar_3b067_29 : decode cJ2_getChar_3b067 29 = .ok (.iconst 1, 1) := by decide +kernel
theorem dJ2_getChar_3b067_30 : decode cJ2_getChar_3b067 30 = .ok (.ishl, 1) := by decide +kernel
theorem dJ2_getChar_3b067_31 : decode cJ2_getChar_3b067 31 = .ok (.istore_n 1, 1) := by decide +kernel
theorem dJ2_getChar_3b067_32 : decode cJ2_getChar_3b067 32 = .ok (.aload_n 0, 1) := by decide +kernel
theorem dJ2_getChar_3b067_33 : decode cJ2_getChar_3b067 33 = .ok (.iload_n 1, 1) := by decide +kernel
theorem dJ2_getChar_3b067_34 : decode cJ2_getChar_3b067 34 = .ok (.iinc 1 1, 3) := by decide +kernel
theorem dJ2_getChar_3b067_37 : decode cJ2_getChar_3b067 37 = .ok (.baload, 1) := by decide +kernel
theorem dJ2_getChar_3b067_38 : decode cJ2_getChar_3b067 38 = .ok (.sipush 255, 3) := by decide +kernel
theorem dJ2_getChar_3b067_41 : decode cJ2_getChar_3b067 41 = .ok (.iand, 1) := by decide +kernel
theorem dJ2_getChar_3b067_42 : decode cJ2_getChar_3b067 42 = .ok (.getstatic 59, 3) := by decide +kernel
theorem dJ2_getChar_3b067_45 : decode cJ2_getChar_3b067 45 = .ok (.ishl, 1) := by decide +kernel
theorem dJ2_getChar_3b067_46 : decode cJ2_getChar_3b067 46 = .ok (.aload_n 0, 1) := by decide +kernel
theorem dJ2_getChar_3b067_47 : decode cJ2_getChar_3b067 47 = .ok (.iload_n 1, 1) := by decide +kernel
theorem dJ2_getChar_3b067_48 : decode cJ2_getChar_3b067 48 = .ok (.baload, 1) := by decide +kernel
theorem dJ2_getChar_3b067_49 : decode cJ2_getChar_3b067 49 = .ok (.sipush 255, 3) := by decide +kernel
theorem dJ2_getChar_3b067_52 : decode cJ2_getChar_3b067 52 = .ok (.iand, 1) := by decide +kernel
theorem dJ2_getChar_3b067_53 : decode cJ2_getChar_3b067 53 = .ok (.getstatic 63, 3) := by decide +kernel
theorem dJ2_getChar_3b067_56 : decode cJ2_getChar_3b067 56 = .ok (.ishl, 1) := by decide +kernel
theorem dJ2_getChar_3b067_57 : decode cJ2_getChar_3b067 57 = .ok (.ior, 1) := by decide +kernel
theorem dJ2_getChar_3b067_58 : decode cJ2_getChar_3b067 58 = .ok (.i2c, 1) := by decide +kernel
theorem dJ2_getChar_3b067_59 : decode cJ2_getChar_3b067 59 = .ok (.ireturn, 1) := by decide +kernel
theorem dJ2_length_9d52b_0 : decode cJ2_length_9d52b 0 = .ok (.aload_n 0, 1) := by decide +kernel
theorem dJ2_length_9d52b_1 : decode cJ2_length_9d52b 1 = .ok (.arraylength, 1) := by decide +kernel
theorem dJ2_length_9d52b_2 : decode cJ2_length_9d52b 2 = .ok (.iconst 1, 1) := by decide +kernel
theorem dJ2_length_9d52b_3 : decode cJ2_length_9d52b 3 = .ok (.ishr, 1) := by decide +kernel
theorem dJ2_length_9d52b_4 : decode cJ2_length_9d52b 4 = .ok (.ireturn, 1) := by decide +kernel
theorem dJ2_charAt_3b067_0 : decode cJ2_charAt_3b067 0 = .ok (.iload_n 1, 1) := by decide +kernel
theorem dJ2_charAt_3b067_1 : decode cJ2_charAt_3b067 1 = .ok (.aload_n 0, 1) := by decide +kernel
theorem dJ2_charAt_3b067_2 : decode cJ2_charAt_3b067 2 = .ok (.invokestatic 67, 3) := by decide +kernel
theorem dJ2_charAt_3b067_5 : decode cJ2_charAt_3b067 5 = .ok (.aload_n 0, 1) := by decide +kernel
theorem dJ2_charAt_3b067_6 : decode cJ2_charAt_3b067 6 = .ok (.iload_n 1, 1) := by decide +kernel
theorem dJ2_charAt_3b067_7 : decode cJ2_charAt_3b067 7 = .ok (.invokestatic 71, 3) := by decide +kernel
theorem dJ2_charAt_3b067_10 : decode cJ2_charAt_3b067 10 = .ok (.ireturn, 1) := by decide +kernel
theorem dJ2_checkIndex_2214a_0 : decode cJ2_checkIndex_2214a 0 = .ok (.iload_n 0, 1) := by decide +kernel
theorem dJ2_checkIndex_2214a_1 : decode cJ2_checkIndex_2214a 1 = .ok (.aload_n 1, 1) := by decide +kernel
theorem dJ2_checkIndex_2214a_2 : decode cJ2_checkIndex_2214a 2 = .ok (.invokestatic 48, 3) := by decide +kernel
theorem dJ2_checkIndex_2214a_5 : decode cJ2_checkIndex_2214a 5 = .ok (.invokestatic 414, 3) := by decide +kernel
theorem dJ2_checkIndex_2214a_8 : decode cJ2_checkIndex_2214a 8 = .ok (.return_, 1) := by decide +kernel
theorem dJ3_checkIndex_8e157_0 : decode cJ3_checkIndex_8e157 0 = .ok (.iload_n 0, 1) := by decide +kernel
theorem dJ3_checkIndex_8e157_1 : decode cJ3_checkIndex_8e157 1 = .ok (.ifCond .lt 8, 3) := by decide +kernel
theorem dJ3_checkIndex_8e157_4 : decode cJ3_checkIndex_8e157 4 = .ok (.iload_n 0, 1) := by decide +kernel
theorem dJ3_checkIndex_8e157_5 : decode cJ3_checkIndex_8e157 5 = .ok (.iload_n 1, 1) := by decide +kernel
theorem dJ3_checkIndex_8e157_6 : decode cJ3_checkIndex_8e157 6 = .ok (.if_icmp .lt 10, 3) := by decide +kernel
theorem dJ3_checkIndex_8e157_9 : decode cJ3_checkIndex_8e157 9 = .ok (.aload_n 2, 1) := by decide +kernel
theorem dJ3_checkIndex_8e157_10 : decode cJ3_checkIndex_8e157 10 = .ok (.iload_n 0, 1) := by decide +kernel
theorem dJ3_checkIndex_8e157_11 : decode cJ3_checkIndex_8e157 11 = .ok (.iload_n 1, 1) := by decide +kernel
theorem dJ3_checkIndex_8e157_12 : decode cJ3_checkIndex_8e157 12 = .ok (.invokestatic 95, 3) := by decide +kernel
theorem dJ3_checkIndex_8e157_15 : decode cJ3_checkIndex_8e157 15 = .ok (.athrow, 1) := by decide +kernel
theorem dJ3_checkIndex_8e157_16 : decode cJ3_checkIndex_8e157 16 = .ok (.iload_n 0, 1) := by decide +kernel
theorem dJ3_checkIndex_8e157_17 : decode cJ3_checkIndex_8e157 17 = .ok (.ireturn, 1) := by decide +kernel
theorem dL_look_0 : decode cL_look 0 = .ok (.aload_n 3, 1) := by decide +kernel
theorem dL_look_1 : decode cL_look 1 = .ok (.iconst 0, 1) := by decide +kernel
theorem dL_look_2 : decode cL_look 2 = .ok (.aload_n 0, 1) := by decide +kernel
theorem dL_look_3 : decode cL_look 3 = .ok (.iload_n 1, 1) := by decide +kernel
theorem dL_look_4 : decode cL_look 4 = .ok (.iload_n 2, 1) := by decide +kernel
theorem dL_look_5 : decode cL_look 5 = .ok (.invokevirtual 7, 3) := by decide +kernel
theorem dL_look_8 : decode cL_look 8 = .ok (.i2l, 1) := by decide +kernel
theorem dL_look_9 : decode cL_look 9 = .ok (.lastore, 1) := by decide +kernel
theorem dL_look_10 : decode cL_look 10 = .ok (.goto 11, 3) := by decide +kernel
theorem dL_look_13 : decode cL_look 13 = .ok (.astore 4, 2) := by decide +kernel
theorem dL_look_15 : decode cL_look 15 = .ok (.iconst 1, 1) := by decide +kernel
theorem dL_look_16 : decode cL_look 16 = .ok (.ireturn, 1) := by decide +kernel
theorem dL_look_17 : decode cL_look 17 = .ok (.astore 4, 2) := by decide +kernel
theorem dL_look_19 : decode cL_look 19 = .ok (.iconst 2, 1) := by decide +kernel
theorem dL_look_20 : decode cL_look 20 = .ok (.ireturn, 1) := by decide +kernel
theorem dL_look_21 : decode cL_look 21 = .ok (.iconst 0, 1) := by decide +kernel
theorem dL_look_22 : decode cL_look 22 = .ok (.ireturn, 1) := by decide +kernel
theorem dL_law_0 : decode cL_law 0 = .ok (.new 8, 3) := by decide +kernel
theorem dL_law_3 : decode cL_law 3 = .ok (.dup, 1) := by decide +kernel
theorem dL_law_4 : decode cL_law 4 = .ok (.invokespecial 17, 3) := by decide +kernel
theorem dL_law_7 : decode cL_law 7 = .ok (.astore_n 1, 1) := by decide +kernel
theorem dL_law_8 : decode cL_law 8 = .ok (.new 18, 3) := by decide +kernel
theorem dL_law_11 : decode cL_law 11 = .ok (.dup, 1) := by decide +kernel
theorem dL_law_12 : decode cL_law 12 = .ok (.invokespecial 20, 3) := by decide +kernel
theorem dL_law_15 : decode cL_law 15 = .ok (.astore_n 2, 1) := by decide +kernel
theorem dL_law_16 : decode cL_law 16 = .ok (.iconst 1, 1) := by decide +kernel
theorem dL_law_17 : decode cL_law 17 = .ok (.newarray .long, 2) := by decide +kernel
theorem dL_law_19 : decode cL_law 19 = .ok (.astore_n 3, 1) := by decide +kernel
theorem dL_law_20 : decode cL_law 20 = .ok (.iconst 0, 1) := by decide +kernel
theorem dL_law_21 : decode cL_law 21 = .ok (.istore 4, 2) := by decide +kernel
theorem dL_law_23 : decode cL_law 23 = .ok (.iload 4, 2) := by decide +kernel
theorem dL_law_25 : decode cL_law 25 = .ok (.aload_n 0, 1) := by decide +kernel
theorem dL_law_26 : decode cL_law 26 = .ok (.arraylength, 1) := by decide +kernel
theorem dL_law_27 : decode cL_law 27 = .ok (.bipush 6, 2) := by decide +kernel
theorem dL_law_29 : decode cL_law 29 = .ok (.isub, 1) := by decide +kernel
theorem dL_law_30 : decode cL_law 30 = .ok (.if_icmp .gt 778, 3) := by decide +kernel
theorem dL_law_33 : decode cL_law 33 = .ok (.aload_n 0, 1) := by decide +kernel
theorem dL_law_34 : decode cL_law 34 = .ok (.iload 4, 2) := by decide +kernel
theorem dL_law_36 : decode cL_law 36 = .ok (.iaload, 1) := by decide +kernel
theorem dL_law_37 : decode cL_law 37 = .ok (.bipush 31, 2) := by decide +kernel
theorem dL_law_39 : decode cL_law 39 = .ok (.iand, 1) := by decide +kernel
theorem dL_law_40 : decode cL_law 40 = .ok (.tableswitch 762 0 18 #[92, 165, 190, 215, 252, 289, 357, 382, 419, 432, 457, 494, 547, 600, 637, 650, 675, 712, 737], 92) := by decide +kernel
theorem dL_law_132 : decode cL_law 132 = .ok (.aload_n 1, 1) := by decide +kernel
theorem dL_law_133 : decode cL_law 133 = .ok (.aload_n 0, 1) := by decide +kernel
theorem dL_law_134 : decode cL_law 134 = .ok (.iload 4, 2) := by decide +kernel
theorem dL_law_136 : decode cL_law 136 = .ok (.iconst 1, 1) := by decide +kernel
theorem dL_law_137 : decode cL_law 137 = .ok (.iadd, 1) := by decide +kernel
theorem dL_law_138 : decode cL_law 138 = .ok (.iaload, 1) := by decide +kernel
theorem dL_law_139 : decode cL_law 139 = .ok (.aload_n 0, 1) := by decide +kernel
theorem dL_law_140 : decode cL_law 140 = .ok (.iload 4, 2) := by decide +kernel
theorem dL_law_142 : decode cL_law 142 = .ok (.iconst 2, 1) := by decide +kernel
theorem dL_law_143 : decode cL_law 143 = .ok (.iadd, 1) := by decide +kernel
theorem dL_law_144 : decode cL_law 144 = .ok (.iaload, 1) := by decide +kernel
theorem dL_law_145 : decode cL_law 145 = .ok (.aload_n 0, 1) := by decide +kernel
theorem dL_law_146 : decode cL_law 146 = .ok (.iload 4, 2) := by decide +kernel
theorem dL_law_148 : decode cL_law 148 = .ok (.iconst 3, 1) := by decide +kernel
theorem dL_law_149 : decode cL_law 149 = .ok (.iadd, 1) := by decide +kernel
theorem dL_law_150 : decode cL_law 150 = .ok (.iaload, 1) := by decide +kernel
theorem dL_law_151 : decode cL_law 151 = .ok (.aload_n 0, 1) := by decide +kernel
theorem dL_law_152 : decode cL_law 152 = .ok (.iload 4, 2) := by decide +kernel
theorem dL_law_154 : decode cL_law 154 = .ok (.iconst 4, 1) := by decide +kernel
theorem dL_law_155 : decode cL_law 155 = .ok (.iadd, 1) := by decide +kernel
theorem dL_law_156 : decode cL_law 156 = .ok (.iaload, 1) := by decide +kernel
theorem dL_law_157 : decode cL_law 157 = .ok (.aload_n 0, 1) := by decide +kernel
theorem dL_law_158 : decode cL_law 158 = .ok (.iload 4, 2) := by decide +kernel
theorem dL_law_160 : decode cL_law 160 = .ok (.iconst 5, 1) := by decide +kernel
theorem dL_law_161 : decode cL_law 161 = .ok (.iadd, 1) := by decide +kernel
theorem dL_law_162 : decode cL_law 162 = .ok (.iaload, 1) := by decide +kernel
theorem dL_law_163 : decode cL_law 163 = .ok (.invokevirtual 21, 3) := by decide +kernel
theorem dL_law_166 : decode cL_law 166 = .ok (.aload_n 2, 1) := by decide +kernel
theorem dL_law_167 : decode cL_law 167 = .ok (.aload_n 0, 1) := by decide +kernel
theorem dL_law_168 : decode cL_law 168 = .ok (.iload 4, 2) := by decide +kernel
theorem dL_law_170 : decode cL_law 170 = .ok (.iconst 1, 1) := by decide +kernel
theorem dL_law_171 : decode cL_law 171 = .ok (.iadd, 1) := by decide +kernel
theorem dL_law_172 : decode cL_law 172 = .ok (.iaload, 1) := by decide +kernel
theorem dL_law_173 : decode cL_law 173 = .ok (.aload_n 0, 1) := by decide +kernel
theorem dL_law_174 : decode cL_law 174 = .ok (.iload 4, 2) := by decide +kernel
theorem dL_law_176 : decode cL_law 176 = .ok (.iconst 2, 1) := by decide +kernel
theorem dL_law_177 : decode cL_law 177 = .ok (.iadd, 1) := by decide +kernel
theorem dL_law_178 : decode cL_law 178 = .ok (.iaload, 1) := by decide +kernel
theorem dL_law_179 : decode cL_law 179 = .ok (.aload_n 0, 1) := by decide +kernel
theorem dL_law_180 : decode cL_law 180 = .ok (.iload 4, 2) := by decide +kernel
theorem dL_law_182 : decode cL_law 182 = .ok (.iconst 3, 1) := by decide +kernel
theorem dL_law_183 : decode cL_law 183 = .ok (.iadd, 1) := by decide +kernel
theorem dL_law_184 : decode cL_law 184 = .ok (.iaload, 1) := by decide +kernel
theorem dL_law_185 : decode cL_law 185 = .ok (.aload_n 0, 1) := by decide +kernel
theorem dL_law_186 : decode cL_law 186 = .ok (.iload 4, 2) := by decide +kernel
theorem dL_law_188 : decode cL_law 188 = .ok (.iconst 4, 1) := by decide +kernel
theorem dL_law_189 : decode cL_law 189 = .ok (.iadd, 1) := by decide +kernel
theorem dL_law_190 : decode cL_law 190 = .ok (.iaload, 1) := by decide +kernel
theorem dL_law_191 : decode cL_law 191 = .ok (.aload_n 0, 1) := by decide +kernel
theorem dL_law_192 : decode cL_law 192 = .ok (.iload 4, 2) := by decide +kernel
theorem dL_law_194 : decode cL_law 194 = .ok (.iconst 5, 1) := by decide +kernel
theorem dL_law_195 : decode cL_law 195 = .ok (.iadd, 1) := by decide +kernel
theorem dL_law_196 : decode cL_law 196 = .ok (.iaload, 1) := by decide +kernel
theorem dL_law_197 : decode cL_law 197 = .ok (.invokevirtual 25, 3) := by decide +kernel
theorem dL_law_200 : decode cL_law 200 = .ok (.if_icmp .eq 602, 3) := by decide +kernel
theorem dL_law_203 : decode cL_law 203 = .ok (.iconst 0, 1) := by decide +kernel
theorem dL_law_204 : decode cL_law 204 = .ok (.ireturn, 1) := by decide +kernel
theorem dL_law_205 : decode cL_law 205 = .ok (.aload_n 1, 1) := by decide +kernel
theorem dL_law_206 : decode cL_law 206 = .ok (.aload_n 0, 1) := by decide +kernel
theorem dL_law_207 : decode cL_law 207 = .ok (.iload 4, 2) := by decide +kernel
theorem dL_law_209 : decode cL_law 209 = .ok (.iconst 1, 1) := by decide +kernel
theorem dL_law_210 : decode cL_law 210 = .ok (.iadd, 1) := by decide +kernel
theorem dL_law_211 : decode cL_law 211 = .ok (.iaload, 1) := by decide +kernel
theorem dL_law_212 : decode cL_law 212 = .ok (.invokevirtual 26, 3) := by decide +kernel
theorem dL_law_215 : decode cL_law 215 = .ok (.aload_n 2, 1) := by decide +kernel
theorem dL_law_216 : decode cL_law 216 = .ok (.aload_n 0, 1) := by decide +kernel
theorem dL_law_217 : decode cL_law 217 = .ok (.iload 4, 2) := by decide +kernel
theorem dL_law_219 : decode cL_law 219 = .ok (.iconst 1, 1) := by decide +kernel
theorem dL_law_220 : decode cL_law 220 = .ok (.iadd, 1) := by decide +kernel
theorem dL_law_221 : decode cL_law 221 = .ok (.iaload, 1) := by decide +kernel
theorem dL_law_222 : decode cL_law 222 = .ok (.invokevirtual 30, 3) := by decide +kernel
theorem dL_law_225 : decode cL_law 225 = .ok (.if_icmp .eq 577, 3) := by decide +kernel
theorem dL_law_228 : decode cL_law 228 = .ok (.iconst 0, 1) := by decide +kernel
theorem dL_law_229 : decode cL_law 229 = .ok (.ireturn, 1) := by decide +kernel
theorem dL_law_230 : decode cL_law 230 = .ok (.aload_n 1, 1) := by decide +kernel
theorem dL_law_231 : decode cL_law 231 = .ok (.aload_n 0, 1) := by decide +kernel
theorem dL_law_232 : decode cL_law 232 = .ok (.iload 4, 2) := by decide +kernel
theorem dL_law_234 : decode cL_law 234 = .ok (.iconst 1, 1) := by decide +kernel
theorem dL_law_235 : decode cL_law 235 = .ok (.iadd, 1) := by decide +kernel
theorem dL_law_236 : decode cL_law 236 = .ok (.iaload, 1) := by decide +kernel
theorem dL_law_237 : decode cL_law 237 = .ok (.invokevirtual 31, 3) := by decide +kernel
theorem dL_law_240 : decode cL_law 240 = .ok (.aload_n 2, 1) := by decide +kernel
theorem dL_law_241 : decode cL_law 241 = .ok (.aload_n 0, 1) := by decide +kernel
theorem dL_law_242 : decode cL_law 242 = .ok (.iload 4, 2) := by decide +kernel
theorem dL_law_244 : decode cL_law 244 = .ok (.iconst 1, 1) := by decide +kernel
theorem dL_law_245 : decode cL_law 245 = .ok (.iadd, 1) := by decide +kernel
theorem dL_law_246 : decode cL_law 246 = .ok (.iaload, 1) := by decide +kernel
theorem dL_law_247 : decode cL_law 247 = .ok (.invokevirtual 34, 3) := by decide +kernel
theorem dL_law_250 : decode cL_law 250 = .ok (.if_icmp .eq 552, 3) := by decide +kernel
theorem dL_law_253 : decode cL_law 253 = .ok (.iconst 0, 1) := by decide +kernel
theorem dL_law_254 : decode cL_law 254 = .ok (.ireturn, 1) := by decide +kernel
theorem dL_law_255 : decode cL_law 255 = .ok (.aload_n 1, 1) := by decide +kernel
theorem dL_law_256 : decode cL_law 256 = .ok (.aload_n 0, 1) := by decide +kernel
theorem dL_law_257 : decode cL_law 257 = .ok (.iload 4, 2) := by decide +kernel
theorem dL_law_259 : decode cL_law 259 = .ok (.iconst 1, 1) := by decide +kernel
theorem dL_law_260 : decode cL_law 260 = .ok (.iadd, 1) := by decide +kernel
theorem dL_law_261 : decode cL_law 261 = .ok (.iaload, 1) := by decide +kernel
theorem dL_law_262 : decode cL_law 262 = .ok (.aload_n 0, 1) := by decide +kernel
theorem dL_law_263 : decode cL_law 263 = .ok (.iload 4, 2) := by decide +kernel
theorem dL_law_265 : decode cL_law 265 = .ok (.iconst 2, 1) := by decide +kernel
theorem dL_law_266 : decode cL_law 266 = .ok (.iadd, 1) := by decide +kernel
theorem dL_law_267 : decode cL_law 267 = .ok (.iaload, 1) := by decide +kernel
theorem dL_law_268 : decode cL_law 268 = .ok (.invokevirtual 35, 3) := by decide +kernel
theorem dL_law_271 : decode cL_law 271 = .ok (.aload_n 2, 1) := by decide +kernel
theorem dL_law_272 : decode cL_law 272 = .ok (.aload_n 0, 1) := by decide +kernel
theorem dL_law_273 : decode cL_law 273 = .ok (.iload 4, 2) := by decide +kernel
theorem dL_law_275 : decode cL_law 275 = .ok (.iconst 1, 1) := by decide +kernel
theorem dL_law_276 : decode cL_law 276 = .ok (.iadd, 1) := by decide +kernel
theorem dL_law_277 : decode cL_law 277 = .ok (.iaload, 1) := by decide +kernel
theorem dL_law_278 : decode cL_law 278 = .ok (.aload_n 0, 1) := by decide +kernel
theorem dL_law_279 : decode cL_law 279 = .ok (.iload 4, 2) := by decide +kernel
theorem dL_law_281 : decode cL_law 281 = .ok (.iconst 2, 1) := by decide +kernel
theorem dL_law_282 : decode cL_law 282 = .ok (.iadd, 1) := by decide +kernel
theorem dL_law_283 : decode cL_law 283 = .ok (.iaload, 1) := by decide +kernel
theorem dL_law_284 : decode cL_law 284 = .ok (.invokevirtual 38, 3) := by decide +kernel
theorem dL_law_287 : decode cL_law 287 = .ok (.if_icmp .eq 515, 3) := by decide +kernel
theorem dL_law_290 : decode cL_law 290 = .ok (.iconst 0, 1) := by decide +kernel
theorem dL_law_291 : decode cL_law 291 = .ok (.ireturn, 1) := by decide +kernel
theorem dL_law_292 : decode cL_law 292 = .ok (.aload_n 1, 1) := by decide +kernel
theorem dL_law_293 : decode cL_law 293 = .ok (.aload_n 0, 1) := by decide +kernel
theorem dL_law_294 : decode cL_law 294 = .ok (.iload 4, 2) := by decide +kernel
theorem dL_law_296 : decode cL_law 296 = .ok (.iconst 1, 1) := by decide +kernel
theorem dL_law_297 : decode cL_law 297 = .ok (.iadd, 1) := by decide +kernel
theorem dL_law_298 : decode cL_law 298 = .ok (.iaload, 1) := by decide +kernel
theorem dL_law_299 : decode cL_law 299 = .ok (.aload_n 0, 1) := by decide +kernel
theorem dL_law_300 : decode cL_law 300 = .ok (.iload 4, 2) := by decide +kernel
theorem dL_law_302 : decode cL_law 302 = .ok (.iconst 2, 1) := by decide +kernel
theorem dL_law_303 : decode cL_law 303 = .ok (.iadd, 1) := by decide +kernel
theorem dL_law_304 : decode cL_law 304 = .ok (.iaload, 1) := by decide +kernel
theorem dL_law_305 : decode cL_law 305 = .ok (.invokevirtual 39, 3) := by decide +kernel
theorem dL_law_308 : decode cL_law 308 = .ok (.aload_n 2, 1) := by decide +kernel
theorem dL_law_309 : decode cL_law 309 = .ok (.aload_n 0, 1) := by decide +kernel
theorem dL_law_310 : decode cL_law 310 = .ok (.iload 4, 2) := by decide +kernel
theorem dL_law_312 : decode cL_law 312 = .ok (.iconst 1, 1) := by decide +kernel
theorem dL_law_313 : decode cL_law 313 = .ok (.iadd, 1) := by decide +kernel
theorem dL_law_314 : decode cL_law 314 = .ok (.iaload, 1) := by decide +kernel
theorem dL_law_315 : decode cL_law 315 = .ok (.aload_n 0, 1) := by decide +kernel
theorem dL_law_316 : decode cL_law 316 = .ok (.iload 4, 2) := by decide +kernel
theorem dL_law_318 : decode cL_law 318 = .ok (.iconst 2, 1) := by decide +kernel
theorem dL_law_319 : decode cL_law 319 = .ok (.iadd, 1) := by decide +kernel
theorem dL_law_320 : decode cL_law 320 = .ok (.iaload, 1) := by decide +kernel
theorem dL_law_321 : decode cL_law 321 = .ok (.invokevirtual 43, 3) := by decide +kernel
theorem dL_law_324 : decode cL_law 324 = .ok (.if_icmp .eq 478, 3) := by decide +kernel
theorem dL_law_327 : decode cL_law 327 = .ok (.iconst 0, 1) := by decide +kernel
theorem dL_law_328 : decode cL_law 328 = .ok (.ireturn, 1) := by decide +kernel
theorem dL_law_329 : decode cL_law 329 = .ok (.aload_n 1, 1) := by decide +kernel
theorem dL_law_330 : decode cL_law 330 = .ok (.aload_n 0, 1) := by decide +kernel
theorem dL_law_331 : decode cL_law 331 = .ok (.iload 4, 2) := by decide +kernel
theorem dL_law_333 : decode cL_law 333 = .ok (.iconst 1, 1) := by decide +kernel
theorem dL_law_334 : decode cL_law 334 = .ok (.iadd, 1) := by decide +kernel
theorem dL_law_335 : decode cL_law 335 = .ok (.iaload, 1) := by decide +kernel
theorem dL_law_336 : decode cL_law 336 = .ok (.aload_n 0, 1) := by decide +kernel
theorem dL_law_337 : decode cL_law 337 = .ok (.iload 4, 2) := by decide +kernel
theorem dL_law_339 : decode cL_law 339 = .ok (.iconst 2, 1) := by decide +kernel
theorem dL_law_340 : decode cL_law 340 = .ok (.iadd, 1) := by decide +kernel
theorem dL_law_341 : decode cL_law 341 = .ok (.iaload, 1) := by decide +kernel
theorem dL_law_342 : decode cL_law 342 = .ok (.aload_n 3, 1) := by decide +kernel
theorem dL_law_343 : decode cL_law 343 = .ok (.invokestatic 44, 3) := by decide +kernel
theorem dL_law_346 : decode cL_law 346 = .ok (.istore 5, 2) := by decide +kernel
theorem dL_law_348 : decode cL_law 348 = .ok (.aload_n 2, 1) := by decide +kernel
theorem dL_law_349 : decode cL_law 349 = .ok (.aload_n 0, 1) := by decide +kernel
theorem dL_law_350 : decode cL_law 350 = .ok (.iload 4, 2) := by decide +kernel
theorem dL_law_352 : decode cL_law 352 = .ok (.iconst 1, 1) := by decide +kernel
theorem dL_law_353 : decode cL_law 353 = .ok (.iadd, 1) := by decide +kernel
theorem dL_law_354 : decode cL_law 354 = .ok (.iaload, 1) := by decide +kernel
theorem dL_law_355 : decode cL_law 355 = .ok (.aload_n 0, 1) := by decide +kernel
theorem dL_law_356 : decode cL_law 356 = .ok (.iload 4, 2) := by decide +kernel
theorem dL_law_358 : decode cL_law 358 = .ok (.iconst 2, 1) := by decide +kernel
theorem dL_law_359 : decode cL_law 359 = .ok (.iadd, 1) := by decide +kernel
theorem dL_law_360 : decode cL_law 360 = .ok (.iaload, 1) := by decide +kernel
theorem dL_law_361 : decode cL_law 361 = .ok (.invokevirtual 49, 3) := by decide +kernel
theorem dL_law_364 : decode cL_law 364 = .ok (.istore 6, 2) := by decide +kernel
theorem dL_law_366 : decode cL_law 366 = .ok (.aload_n 2, 1) := by decide +kernel
theorem dL_law_367 : decode cL_law 367 = .ok (.invokevirtual 50, 3) := by decide +kernel
theorem dL_law_370 : decode cL_law 370 = .ok (.iload 5, 2) := by decide +kernel
theorem dL_law_372 : decode cL_law 372 = .ok (.if_icmp .eq 5, 3) := by decide +kernel
theorem dL_law_375 : decode cL_law 375 = .ok (.iconst 0, 1) := by decide +kernel
theorem dL_law_376 : decode cL_law 376 = .ok (.ireturn, 1) := by decide +kernel
theorem dL_law_377 : decode cL_law 377 = .ok (.iload 5, 2) := by decide +kernel
theorem dL_law_379 : decode cL_law 379 = .ok (.ifCond .ne 15, 3) := by decide +kernel
theorem dL_law_382 : decode cL_law 382 = .ok (.aload_n 3, 1) := by decide +kernel
theorem dL_law_383 : decode cL_law 383 = .ok (.iconst 0, 1) := by decide +kernel
theorem dL_law_384 : decode cL_law 384 = .ok (.laload, 1) := by decide +kernel
theorem dL_law_385 : decode cL_law 385 = .ok (.iload 6, 2) := by decide +kernel
theorem dL_law_387 : decode cL_law 387 = .ok (.i2l, 1) := by decide +kernel
theorem dL_law_388 : decode cL_law 388 = .ok (.lcmp, 1) := by decide +kernel
theorem dL_law_389 : decode cL_law 389 = .ok (.ifCond .eq 5, 3) := by decide +kernel
theorem dL_law_392 : decode cL_law 392 = .ok (.iconst 0, 1) := by decide +kernel
theorem dL_law_393 : decode cL_law 393 = .ok (.ireturn, 1) := by decide +kernel
theorem dL_law_394 : decode cL_law 394 = .ok (.goto 408, 3) := by decide +kernel
theorem dL_law_397 : decode cL_law 397 = .ok (.aload_n 1, 1) := by decide +kernel
theorem dL_law_398 : decode cL_law 398 = .ok (.aload_n 0, 1) := by decide +kernel
theorem dL_law_399 : decode cL_law 399 = .ok (.iload 4, 2) := by decide +kernel
theorem dL_law_401 : decode cL_law 401 = .ok (.iconst 1, 1) := by decide +kernel
theorem dL_law_402 : decode cL_law 402 = .ok (.iadd, 1) := by decide +kernel
theorem dL_law_403 : decode cL_law 403 = .ok (.iaload, 1) := by decide +kernel
theorem dL_law_404 : decode cL_law 404 = .ok (.invokevirtual 54, 3) := by decide +kernel
theorem dL_law_407 : decode cL_law 407 = .ok (.aload_n 2, 1) := by decide +kernel
theorem dL_law_408 : decode cL_law 408 = .ok (.aload_n 0, 1) := by decide +kernel
theorem dL_law_409 : decode cL_law 409 = .ok (.iload 4, 2) := by decide +kernel
theorem dL_law_411 : decode cL_law 411 = .ok (.iconst 1, 1) := by decide +kernel
theorem dL_law_412 : decode cL_law 412 = .ok (.iadd, 1) := by decide +kernel
theorem dL_law_413 : decode cL_law 413 = .ok (.iaload, 1) := by decide +kernel
theorem dL_law_414 : decode cL_law 414 = .ok (.invokevirtual 57, 3) := by decide +kernel
theorem dL_law_417 : decode cL_law 417 = .ok (.if_icmp .eq 385, 3) := by decide +kernel
theorem dL_law_420 : decode cL_law 420 = .ok (.iconst 0, 1) := by decide +kernel
theorem dL_law_421 : decode cL_law 421 = .ok (.ireturn, 1) := by decide +kernel
theorem dL_law_422 : decode cL_law 422 = .ok (.aload_n 1, 1) := by decide +kernel
theorem dL_law_423 : decode cL_law 423 = .ok (.aload_n 0, 1) := by decide +kernel
theorem dL_law_424 : decode cL_law 424 = .ok (.iload 4, 2) := by decide +kernel
theorem dL_law_426 : decode cL_law 426 = .ok (.iconst 1, 1) := by decide +kernel
theorem dL_law_427 : decode cL_law 427 = .ok (.iadd, 1) := by decide +kernel
theorem dL_law_428 : decode cL_law 428 = .ok (.iaload, 1) := by decide +kernel
theorem dL_law_429 : decode cL_law 429 = .ok (.aload_n 0, 1) := by decide +kernel
theorem dL_law_430 : decode cL_law 430 = .ok (.iload 4, 2) := by decide +kernel
theorem dL_law_432 : decode cL_law 432 = .ok (.iconst 2, 1) := by decide +kernel
theorem dL_law_433 : decode cL_law 433 = .ok (.iadd, 1) := by decide +kernel
theorem dL_law_434 : decode cL_law 434 = .ok (.iaload, 1) := by decide +kernel
theorem dL_law_435 : decode cL_law 435 = .ok (.invokevirtual 58, 3) := by decide +kernel
theorem dL_law_438 : decode cL_law 438 = .ok (.aload_n 2, 1) := by decide +kernel
theorem dL_law_439 : decode cL_law 439 = .ok (.aload_n 0, 1) := by decide +kernel
theorem dL_law_440 : decode cL_law 440 = .ok (.iload 4, 2) := by decide +kernel
theorem dL_law_442 : decode cL_law 442 = .ok (.iconst 1, 1) := by decide +kernel
theorem dL_law_443 : decode cL_law 443 = .ok (.iadd, 1) := by decide +kernel
theorem dL_law_444 : decode cL_law 444 = .ok (.iaload, 1) := by decide +kernel
theorem dL_law_445 : decode cL_law 445 = .ok (.aload_n 0, 1) := by decide +kernel
theorem dL_law_446 : decode cL_law 446 = .ok (.iload 4, 2) := by decide +kernel
theorem dL_law_448 : decode cL_law 448 = .ok (.iconst 2, 1) := by decide +kernel
theorem dL_law_449 : decode cL_law 449 = .ok (.iadd, 1) := by decide +kernel
theorem dL_law_450 : decode cL_law 450 = .ok (.iaload, 1) := by decide +kernel
theorem dL_law_451 : decode cL_law 451 = .ok (.invokevirtual 61, 3) := by decide +kernel
theorem dL_law_454 : decode cL_law 454 = .ok (.if_icmp .eq 348, 3) := by decide +kernel
theorem dL_law_457 : decode cL_law 457 = .ok (.iconst 0, 1) := by decide +kernel
theorem dL_law_458 : decode cL_law 458 = .ok (.ireturn, 1) := by decide +kernel
theorem dL_law_459 : decode cL_law 459 = .ok (.aload_n 1, 1) := by decide +kernel
theorem dL_law_460 : decode cL_law 460 = .ok (.invokevirtual 62, 3) := by decide +kernel
theorem dL_law_463 : decode cL_law 463 = .ok (.aload_n 2, 1) := by decide +kernel
theorem dL_law_464 : decode cL_law 464 = .ok (.invokevirtual 65, 3) := by decide +kernel
theorem dL_law_467 : decode cL_law 467 = .ok (.if_icmp .eq 335, 3) := by decide +kernel
theorem dL_law_470 : decode cL_law 470 = .ok (.iconst 0, 1) := by decide +kernel
theorem dL_law_471 : decode cL_law 471 = .ok (.ireturn, 1) := by decide +kernel
theorem dL_law_472 : decode cL_law 472 = .ok (.aload_n 1, 1) := by decide +kernel
theorem dL_law_473 : decode cL_law 473 = .ok (.aload_n 0, 1) := by decide +kernel
theorem dL_law_474 : decode cL_law 474 = .ok (.iload 4, 2) := by decide +kernel
theorem dL_law_476 : decode cL_law 476 = .ok (.iconst 1, 1) := by decide +kernel
theorem dL_law_477 : decode cL_law 477 = .ok (.iadd, 1) := by decide +kernel
theorem dL_law_478 : decode cL_law 478 = .ok (.iaload, 1) := by decide +kernel
theorem dL_law_479 : decode cL_law 479 = .ok (.invokevirtual 66, 3) := by decide +kernel
theorem dL_law_482 : decode cL_law 482 = .ok (.aload_n 2, 1) := by decide +kernel
theorem dL_law_483 : decode cL_law 483 = .ok (.aload_n 0, 1) := by decide +kernel
theorem dL_law_484 : decode cL_law 484 = .ok (.iload 4, 2) := by decide +kernel
theorem dL_law_486 : decode cL_law 486 = .ok (.iconst 1, 1) := by decide +kernel
theorem dL_law_487 : decode cL_law 487 = .ok (.iadd, 1) := by decide +kernel
theorem dL_law_488 : decode cL_law 488 = .ok (.iaload, 1) := by decide +kernel
theorem dL_law_489 : decode cL_law 489 = .ok (.invokevirtual 69, 3) := by decide +kernel
theorem dL_law_492 : decode cL_law 492 = .ok (.if_icmp .eq 310, 3) := by decide +kernel
theorem dL_law_495 : decode cL_law 495 = .ok (.iconst 0, 1) := by decide +kernel
theorem dL_law_496 : decode cL_law 496 = .ok (.ireturn, 1) := by decide +kernel
theorem dL_law_497 : decode cL_law 497 = .ok (.aload_n 1, 1) := by decide +kernel
theorem dL_law_498 : decode cL_law 498 = .ok (.aload_n 0, 1) := by decide +kernel
theorem dL_law_499 : decode cL_law 499 = .ok (.iload 4, 2) := by decide +kernel
theorem dL_law_501 : decode cL_law 501 = .ok (.iconst 1, 1) := by decide +kernel
theorem dL_law_502 : decode cL_law 502 = .ok (.iadd, 1) := by decide +kernel
theorem dL_law_503 : decode cL_law 503 = .ok (.iaload, 1) := by decide +kernel
end
section
theorem dL_law_504 : decode cL_law 504 = .ok (.aload_n 0, 1) := by decide +kernel
theorem dL_law_505 : decode cL_law 505 = .ok (.iload 4, 2) := by decide +kernel
theorem dL_law_507 : decode cL_law 507 = .ok (.iconst 2, 1) := by decide +kernel
theorem dL_law_508 : decode cL_law 508 = .ok (.iadd, 1) := by decide +kernel
theorem dL_law_509 : decode cL_law 509 = .ok (.iaload, 1) := by decide +kernel
theorem dL_law_510 : decode cL_law 510 = .ok (.invokevirtual 70, 3) := by decide +kernel
theorem dL_law_513 : decode cL_law 513 = .ok (.aload_n 2, 1) := by decide +kernel
theorem dL_law_514 : decode cL_law 514 = .ok (.aload_n 0, 1) := by decide +kernel
theorem dL_law_515 : decode cL_law 515 = .ok (.iload 4, 2) := by decide +kernel
theorem dL_law_517 : decode cL_law 517 = .ok (.iconst 1, 1) := by decide +kernel
theorem dL_law_518 : decode cL_law 518 = .ok (.iadd, 1) := by decide +kernel
theorem dL_law_519 : decode cL_law 519 = .ok (.iaload, 1) := by decide +kernel
theorem dL_law_520 : decode cL_law 520 = .ok (.aload_n 0, 1) := by decide +kernel
theorem dL_law_521 : decode cL_law 521 = .ok (.iload 4, 2) := by decide +kernel
theorem dL_law_523 : decode cL_law 523 = .ok (.iconst 2, 1) := by decide +kernel
theorem dL_law_524 : decode cL_law 524 = .ok (.iadd, 1) := by decide +kernel
theorem dL_law_525 : decode cL_law 525 = .ok (.iaload, 1) := by decide +kernel
theorem dL_law_526 : decode cL_law 526 = .ok (.invokevirtual 73, 3) := by decide +kernel
theorem dL_law_529 : decode cL_law 529 = .ok (.if_icmp .eq 273, 3) := by decide +kernel
theorem dL_law_532 : decode cL_law 532 = .ok (.iconst 0, 1) := by decide +kernel
theorem dL_law_533 : decode cL_law 533 = .ok (.ireturn, 1) := by decide +kernel
theorem dL_law_534 : decode cL_law 534 = .ok (.aload_n 1, 1) := by decide +kernel
theorem dL_law_535 : decode cL_law 535 = .ok (.aload_n 0, 1) := by decide +kernel
theorem dL_law_536 : decode cL_law 536 = .ok (.iload 4, 2) := by decide +kernel
theorem dL_law_538 : decode cL_law 538 = .ok (.iconst 1, 1) := by decide +kernel
theorem dL_law_539 : decode cL_law 539 = .ok (.iadd, 1) := by decide +kernel
theorem dL_law_540 : decode cL_law 540 = .ok (.iaload, 1) := by decide +kernel
theorem dL_law_541 : decode cL_law 541 = .ok (.aload_n 0, 1) := by decide +kernel
theorem dL_law_542 : decode cL_law 542 = .ok (.iload 4, 2) := by decide +kernel
theorem dL_law_544 : decode cL_law 544 = .ok (.iconst 2, 1) := by decide +kernel
theorem dL_law_545 : decode cL_law 545 = .ok (.iadd, 1) := by decide +kernel
theorem dL_law_546 : decode cL_law 546 = .ok (.iaload, 1) := by decide +kernel
theorem dL_law_547 : decode cL_law 547 = .ok (.ifCond .eq 7, 3) := by decide +kernel
theorem dL_law_550 : decode cL_law 550 = .ok (.iconst 1, 1) := by decide +kernel
theorem dL_law_551 : decode cL_law 551 = .ok (.goto 4, 3) := by decide +kernel
theorem dL_law_554 : decode cL_law 554 = .ok (.iconst 0, 1) := by decide +kernel
theorem dL_law_555 : decode cL_law 555 = .ok (.invokevirtual 74, 3) := by decide +kernel
theorem dL_law_558 : decode cL_law 558 = .ok (.aload_n 2, 1) := by decide +kernel
theorem dL_law_559 : decode cL_law 559 = .ok (.aload_n 0, 1) := by decide +kernel
theorem dL_law_560 : decode cL_law 560 = .ok (.iload 4, 2) := by decide +kernel
theorem dL_law_562 : decode cL_law 562 = .ok (.iconst 1, 1) := by decide +kernel
theorem dL_law_563 : decode cL_law 563 = .ok (.iadd, 1) := by decide +kernel
theorem dL_law_564 : decode cL_law 564 = .ok (.iaload, 1) := by decide +kernel
theorem dL_law_565 : decode cL_law 565 = .ok (.aload_n 0, 1) := by decide +kernel
theorem dL_law_566 : decode cL_law 566 = .ok (.iload 4, 2) := by decide +kernel
theorem dL_law_568 : decode cL_law 568 = .ok (.iconst 2, 1) := by decide +kernel
theorem dL_law_569 : decode cL_law 569 = .ok (.iadd, 1) := by decide +kernel
theorem dL_law_570 : decode cL_law 570 = .ok (.iaload, 1) := by decide +kernel
theorem dL_law_571 : decode cL_law 571 = .ok (.ifCond .eq 7, 3) := by decide +kernel
theorem dL_law_574 : decode cL_law 574 = .ok (.iconst 1, 1) := by decide +kernel
theorem dL_law_575 : decode cL_law 575 = .ok (.goto 4, 3) := by decide +kernel
theorem dL_law_578 : decode cL_law 578 = .ok (.iconst 0, 1) := by decide +kernel
theorem dL_law_579 : decode cL_law 579 = .ok (.invokevirtual 78, 3) := by decide +kernel
theorem dL_law_582 : decode cL_law 582 = .ok (.if_icmp .eq 220, 3) := by decide +kernel
theorem dL_law_585 : decode cL_law 585 = .ok (.iconst 0, 1) := by decide +kernel
theorem dL_law_586 : decode cL_law 586 = .ok (.ireturn, 1) := by decide +kernel
theorem dL_law_587 : decode cL_law 587 = .ok (.aload_n 1, 1) := by decide +kernel
theorem dL_law_588 : decode cL_law 588 = .ok (.aload_n 0, 1) := by decide +kernel
theorem dL_law_589 : decode cL_law 589 = .ok (.iload 4, 2) := by decide +kernel
theorem dL_law_591 : decode cL_law 591 = .ok (.iconst 1, 1) := by decide +kernel
theorem dL_law_592 : decode cL_law 592 = .ok (.iadd, 1) := by decide +kernel
theorem dL_law_593 : decode cL_law 593 = .ok (.iaload, 1) := by decide +kernel
theorem dL_law_594 : decode cL_law 594 = .ok (.aload_n 0, 1) := by decide +kernel
theorem dL_law_595 : decode cL_law 595 = .ok (.iload 4, 2) := by decide +kernel
theorem dL_law_597 : decode cL_law 597 = .ok (.iconst 2, 1) := by decide +kernel
theorem dL_law_598 : decode cL_law 598 = .ok (.iadd, 1) := by decide +kernel
theorem dL_law_599 : decode cL_law 599 = .ok (.iaload, 1) := by decide +kernel
theorem dL_law_600 : decode cL_law 600 = .ok (.ifCond .eq 7, 3) := by decide +kernel
theorem dL_law_603 : decode cL_law 603 = .ok (.iconst 1, 1) := by decide +kernel
theorem dL_law_604 : decode cL_law 604 = .ok (.goto 4, 3) := by decide +kernel
theorem dL_law_607 : decode cL_law 607 = .ok (.iconst 0, 1) := by decide +kernel
theorem dL_law_608 : decode cL_law 608 = .ok (.invokevirtual 79, 3) := by decide +kernel
theorem dL_law_611 : decode cL_law 611 = .ok (.aload_n 2, 1) := by decide +kernel
theorem dL_law_612 : decode cL_law 612 = .ok (.aload_n 0, 1) := by decide +kernel
theorem dL_law_613 : decode cL_law 613 = .ok (.iload 4, 2) := by decide +kernel
theorem dL_law_615 : decode cL_law 615 = .ok (.iconst 1, 1) := by decide +kernel
theorem dL_law_616 : decode cL_law 616 = .ok (.iadd, 1) := by decide +kernel
theorem dL_law_617 : decode cL_law 617 = .ok (.iaload, 1) := by decide +kernel
theorem dL_law_618 : decode cL_law 618 = .ok (.aload_n 0, 1) := by decide +kernel
theorem dL_law_619 : decode cL_law 619 = .ok (.iload 4, 2) := by decide +kernel
theorem dL_law_621 : decode cL_law 621 = .ok (.iconst 2, 1) := by decide +kernel
theorem dL_law_622 : decode cL_law 622 = .ok (.iadd, 1) := by decide +kernel
theorem dL_law_623 : decode cL_law 623 = .ok (.iaload, 1) := by decide +kernel
theorem dL_law_624 : decode cL_law 624 = .ok (.ifCond .eq 7, 3) := by decide +kernel
theorem dL_law_627 : decode cL_law 627 = .ok (.iconst 1, 1) := by decide +kernel
theorem dL_law_628 : decode cL_law 628 = .ok (.goto 4, 3) := by decide +kernel
theorem dL_law_631 : decode cL_law 631 = .ok (.iconst 0, 1) := by decide +kernel
theorem dL_law_632 : decode cL_law 632 = .ok (.invokevirtual 82, 3) := by decide +kernel
theorem dL_law_635 : decode cL_law 635 = .ok (.if_icmp .eq 167, 3) := by decide +kernel
theorem dL_law_638 : decode cL_law 638 = .ok (.iconst 0, 1) := by decide +kernel
theorem dL_law_639 : decode cL_law 639 = .ok (.ireturn, 1) := by decide +kernel
theorem dL_law_640 : decode cL_law 640 = .ok (.aload_n 1, 1) := by decide +kernel
theorem dL_law_641 : decode cL_law 641 = .ok (.aload_n 0, 1) := by decide +kernel
theorem dL_law_642 : decode cL_law 642 = .ok (.iload 4, 2) := by decide +kernel
theorem dL_law_644 : decode cL_law 644 = .ok (.iconst 1, 1) := by decide +kernel
theorem dL_law_645 : decode cL_law 645 = .ok (.iadd, 1) := by decide +kernel
theorem dL_law_646 : decode cL_law 646 = .ok (.iaload, 1) := by decide +kernel
theorem dL_law_647 : decode cL_law 647 = .ok (.aload_n 0, 1) := by decide +kernel
theorem dL_law_648 : decode cL_law 648 = .ok (.iload 4, 2) := by decide +kernel
theorem dL_law_650 : decode cL_law 650 = .ok (.iconst 2, 1) := by decide +kernel
theorem dL_law_651 : decode cL_law 651 = .ok (.iadd, 1) := by decide +kernel
theorem dL_law_652 : decode cL_law 652 = .ok (.iaload, 1) := by decide +kernel
theorem dL_law_653 : decode cL_law 653 = .ok (.invokevirtual 83, 3) := by decide +kernel
theorem dL_law_656 : decode cL_law 656 = .ok (.aload_n 2, 1) := by decide +kernel
theorem dL_law_657 : decode cL_law 657 = .ok (.aload_n 0, 1) := by decide +kernel
theorem dL_law_658 : decode cL_law 658 = .ok (.iload 4, 2) := by decide +kernel
theorem dL_law_660 : decode cL_law 660 = .ok (.iconst 1, 1) := by decide +kernel
theorem dL_law_661 : decode cL_law 661 = .ok (.iadd, 1) := by decide +kernel
theorem dL_law_662 : decode cL_law 662 = .ok (.iaload, 1) := by decide +kernel
theorem dL_law_663 : decode cL_law 663 = .ok (.aload_n 0, 1) := by decide +kernel
theorem dL_law_664 : decode cL_law 664 = .ok (.iload 4, 2) := by decide +kernel
theorem dL_law_666 : decode cL_law 666 = .ok (.iconst 2, 1) := by decide +kernel
theorem dL_law_667 : decode cL_law 667 = .ok (.iadd, 1) := by decide +kernel
theorem dL_law_668 : decode cL_law 668 = .ok (.iaload, 1) := by decide +kernel
theorem dL_law_669 : decode cL_law 669 = .ok (.invokevirtual 86, 3) := by decide +kernel
theorem dL_law_672 : decode cL_law 672 = .ok (.if_icmp .eq 130, 3) := by decide +kernel
theorem dL_law_675 : decode cL_law 675 = .ok (.iconst 0, 1) := by decide +kernel
theorem dL_law_676 : decode cL_law 676 = .ok (.ireturn, 1) := by decide +kernel
theorem dL_law_677 : decode cL_law 677 = .ok (.aload_n 1, 1) := by decide +kernel
theorem dL_law_678 : decode cL_law 678 = .ok (.invokevirtual 87, 3) := by decide +kernel
theorem dL_law_681 : decode cL_law 681 = .ok (.aload_n 2, 1) := by decide +kernel
theorem dL_law_682 : decode cL_law 682 = .ok (.invokevirtual 90, 3) := by decide +kernel
theorem dL_law_685 : decode cL_law 685 = .ok (.if_icmp .eq 117, 3) := by decide +kernel
theorem dL_law_688 : decode cL_law 688 = .ok (.iconst 0, 1) := by decide +kernel
theorem dL_law_689 : decode cL_law 689 = .ok (.ireturn, 1) := by decide +kernel
theorem dL_law_690 : decode cL_law 690 = .ok (.aload_n 1, 1) := by decide +kernel
theorem dL_law_691 : decode cL_law 691 = .ok (.aload_n 0, 1) := by decide +kernel
theorem dL_law_692 : decode cL_law 692 = .ok (.iload 4, 2) := by decide +kernel
theorem dL_law_694 : decode cL_law 694 = .ok (.iconst 1, 1) := by decide +kernel
theorem dL_law_695 : decode cL_law 695 = .ok (.iadd, 1) := by decide +kernel
theorem dL_law_696 : decode cL_law 696 = .ok (.iaload, 1) := by decide +kernel
theorem dL_law_697 : decode cL_law 697 = .ok (.invokevirtual 91, 3) := by decide +kernel
theorem dL_law_700 : decode cL_law 700 = .ok (.aload_n 2, 1) := by decide +kernel
theorem dL_law_701 : decode cL_law 701 = .ok (.aload_n 0, 1) := by decide +kernel
theorem dL_law_702 : decode cL_law 702 = .ok (.iload 4, 2) := by decide +kernel
theorem dL_law_704 : decode cL_law 704 = .ok (.iconst 1, 1) := by decide +kernel
theorem dL_law_705 : decode cL_law 705 = .ok (.iadd, 1) := by decide +kernel
theorem dL_law_706 : decode cL_law 706 = .ok (.iaload, 1) := by decide +kernel
theorem dL_law_707 : decode cL_law 707 = .ok (.invokevirtual 94, 3) := by decide +kernel
theorem dL_law_710 : decode cL_law 710 = .ok (.if_icmp .eq 92, 3) := by decide +kernel
theorem dL_law_713 : decode cL_law 713 = .ok (.iconst 0, 1) := by decide +kernel
theorem dL_law_714 : decode cL_law 714 = .ok (.ireturn, 1) := by decide +kernel
theorem dL_law_715 : decode cL_law 715 = .ok (.aload_n 1, 1) := by decide +kernel
theorem dL_law_716 : decode cL_law 716 = .ok (.aload_n 0, 1) := by decide +kernel
theorem dL_law_717 : decode cL_law 717 = .ok (.iload 4, 2) := by decide +kernel
theorem dL_law_719 : decode cL_law 719 = .ok (.iconst 1, 1) := by decide +kernel
theorem dL_law_720 : decode cL_law 720 = .ok (.iadd, 1) := by decide +kernel
theorem dL_law_721 : decode cL_law 721 = .ok (.iaload, 1) := by decide +kernel
theorem dL_law_722 : decode cL_law 722 = .ok (.aload_n 0, 1) := by decide +kernel
theorem dL_law_723 : decode cL_law 723 = .ok (.iload 4, 2) := by decide +kernel
theorem dL_law_725 : decode cL_law 725 = .ok (.iconst 2, 1) := by decide +kernel
theorem dL_law_726 : decode cL_law 726 = .ok (.iadd, 1) := by decide +kernel
theorem dL_law_727 : decode cL_law 727 = .ok (.iaload, 1) := by decide +kernel
theorem dL_law_728 : decode cL_law 728 = .ok (.invokevirtual 95, 3) := by decide +kernel
theorem dL_law_731 : decode cL_law 731 = .ok (.aload_n 2, 1) := by decide +kernel
theorem dL_law_732 : decode cL_law 732 = .ok (.aload_n 0, 1) := by decide +kernel
theorem dL_law_733 : decode cL_law 733 = .ok (.iload 4, 2) := by decide +kernel
theorem dL_law_735 : decode cL_law 735 = .ok (.iconst 1, 1) := by decide +kernel
theorem dL_law_736 : decode cL_law 736 = .ok (.iadd, 1) := by decide +kernel
theorem dL_law_737 : decode cL_law 737 = .ok (.iaload, 1) := by decide +kernel
theorem dL_law_738 : decode cL_law 738 = .ok (.aload_n 0, 1) := by decide +kernel
theorem dL_law_739 : decode cL_law 739 = .ok (.iload 4, 2) := by decide +kernel
theorem dL_law_741 : decode cL_law 741 = .ok (.iconst 2, 1) := by decide +kernel
theorem dL_law_742 : decode cL_law 742 = .ok (.iadd, 1) := by decide +kernel
theorem dL_law_743 : decode cL_law 743 = .ok (.iaload, 1) := by decide +kernel
theorem dL_law_744 : decode cL_law 744 = .ok (.invokevirtual 98, 3) := by decide +kernel
theorem dL_law_747 : decode cL_law 747 = .ok (.if_icmp .eq 55, 3) := by decide +kernel
theorem dL_law_750 : decode cL_law 750 = .ok (.iconst 0, 1) := by decide +kernel
theorem dL_law_751 : decode cL_law 751 = .ok (.ireturn, 1) := by decide +kernel
theorem dL_law_752 : decode cL_law 752 = .ok (.aload_n 1, 1) := by decide +kernel
theorem dL_law_753 : decode cL_law 753 = .ok (.aload_n 0, 1) := by decide +kernel
theorem dL_law_754 : decode cL_law 754 = .ok (.iload 4, 2) := by decide +kernel
theorem dL_law_756 : decode cL_law 756 = .ok (.iconst 1, 1) := by decide +kernel
theorem dL_law_757 : decode cL_law 757 = .ok (.iadd, 1) := by decide +kernel
theorem dL_law_758 : decode cL_law 758 = .ok (.iaload, 1) := by decide +kernel
theorem dL_law_759 : decode cL_law 759 = .ok (.invokevirtual 99, 3) := by decide +kernel
theorem dL_law_762 : decode cL_law 762 = .ok (.aload_n 2, 1) := by decide +kernel
theorem dL_law_763 : decode cL_law 763 = .ok (.aload_n 0, 1) := by decide +kernel
theorem dL_law_764 : decode cL_law 764 = .ok (.iload 4, 2) := by decide +kernel
theorem dL_law_766 : decode cL_law 766 = .ok (.iconst 1, 1) := by decide +kernel
theorem dL_law_767 : decode cL_law 767 = .ok (.iadd, 1) := by decide +kernel
theorem dL_law_768 : decode cL_law 768 = .ok (.iaload, 1) := by decide +kernel
theorem dL_law_769 : decode cL_law 769 = .ok (.invokevirtual 102, 3) := by decide +kernel
theorem dL_law_772 : decode cL_law 772 = .ok (.if_icmp .eq 30, 3) := by decide +kernel
theorem dL_law_775 : decode cL_law 775 = .ok (.iconst 0, 1) := by decide +kernel
theorem dL_law_776 : decode cL_law 776 = .ok (.ireturn, 1) := by decide +kernel
theorem dL_law_777 : decode cL_law 777 = .ok (.aload_n 1, 1) := by decide +kernel
theorem dL_law_778 : decode cL_law 778 = .ok (.aload_n 0, 1) := by decide +kernel
theorem dL_law_779 : decode cL_law 779 = .ok (.iload 4, 2) := by decide +kernel
theorem dL_law_781 : decode cL_law 781 = .ok (.iconst 1, 1) := by decide +kernel
theorem dL_law_782 : decode cL_law 782 = .ok (.iadd, 1) := by decide +kernel
theorem dL_law_783 : decode cL_law 783 = .ok (.iaload, 1) := by decide +kernel
theorem dL_law_784 : decode cL_law 784 = .ok (.invokevirtual 103, 3) := by decide +kernel
theorem dL_law_787 : decode cL_law 787 = .ok (.aload_n 2, 1) := by decide +kernel
theorem dL_law_788 : decode cL_law 788 = .ok (.aload_n 0, 1) := by decide +kernel
theorem dL_law_789 : decode cL_law 789 = .ok (.iload 4, 2) := by decide +kernel
theorem dL_law_791 : decode cL_law 791 = .ok (.iconst 1, 1) := by decide +kernel
theorem dL_law_792 : decode cL_law 792 = .ok (.iadd, 1) := by decide +kernel
theorem dL_law_793 : decode cL_law 793 = .ok (.iaload, 1) := by decide +kernel
theorem dL_law_794 : decode cL_law 794 = .ok (.invokevirtual 106, 3) := by decide +kernel
theorem dL_law_797 : decode cL_law 797 = .ok (.if_icmp .eq 5, 3) := by decide +kernel
theorem dL_law_800 : decode cL_law 800 = .ok (.iconst 0, 1) := by decide +kernel
theorem dL_law_801 : decode cL_law 801 = .ok (.ireturn, 1) := by decide +kernel
theorem dL_law_802 : decode cL_law 802 = .ok (.iinc 4 6, 3) := by decide +kernel
theorem dL_law_805 : decode cL_law 805 = .ok (.goto (-782), 3) := by decide +kernel
theorem dL_law_808 : decode cL_law 808 = .ok (.iconst 1, 1) := by decide +kernel
theorem dL_law_809 : decode cL_law 809 = .ok (.ireturn, 1) := by decide +kernel
end
section
/-- a truth as an int -/
def bI (p : Prop) [Decidable p] : Int32 := if p then 1 else 0
theorem bI_t {p : Prop} [Decidable p] (h : p) : bI p = 1 := if_pos h
theorem bI_f {p : Prop} [Decidable p] (h : ¬ p) : bI p = 0 := if_neg h
theorem bI_0 {p : Prop} [Decidable p] : bI p = 0 ↔ ¬ p := by unfold bI; split <;> simp_all
theorem bI_n0 {p : Prop} [Decidable p] : ¬ bI p = 0 ↔ p := by unfold bI; split <;> simp_all
theorem bI_or {p : Prop} [Decidable p] : bI p = 0 ∨ bI p = 1 := by unfold bI; split <;> simp
theorem bI_eq {p q : Prop} [Decidable p] [Decidable q] (h : p ↔ q) : bI p = bI q := by unfold bI; simp [h]
theorem nar_b {x : Int32} (h : x = 0 ∨ x = 1) : narrow .boolean (.int x) = .int x := by rcases h with rfl | rfl <;> rfl
theorem nar_bI {p : Prop} [Decidable p] : narrow .boolean (.int (bI p)) = .int (bI p) := nar_b bI_or
theorem vin {i : Int32} {n : Nat} (N : Int32) (hN : N.toInt = n) (h : 0 ≤ i ∧ i < N) : vp_in i n := by
  rw [vp_in_iff, ← hN]
  exact ⟨Int32.le_iff_toInt_le.mp h.1, Int32.lt_iff_toInt_lt.mp h.2⟩
theorem dn_ind (n : Nat) (P : Nat → Prop) (hb : P n) (hs : ∀ j, j < n → P (j + 1) → P j) : ∀ j, j ≤ n → P j := by
  intro j hj
  induction h : n - j generalizing j with
  | zero =>
    have : j = n := by omega
    rw [this]
    exact hb
  | succ k ih => exact hs j (by omega) (ih (j + 1) (by omega) (by omega))
theorem nI_int {n : Nat} (h : n < 2 ^ 31) : (nI n).toInt = (n : Int) := nI_toInt h
section RM
variable {M : rM} {pc : Nat} {ls st : List rV} {σ σ' : rS} {r : Option rV}
theorem e_inc {n : Nat} {d : Int} {x : Int32} (dv : Int32) (hdv : Int32.ofInt d = dv) (hd : decode (mC M) pc = .ok (.iinc n d, 3)) (hx0 : ls[n]? = some (.inl x)) (hn : n < mN M) (hl : n ≤ ls.length) (k : E M (pc + 3) (lset ls n (.inl (x + dv))) st σ r σ') : E M pc ls st σ r σ' := by
  subst hdv
  exact e_iinc hd hx0 hn hl k
theorem e_if_eqB {p : Prop} [Decidable p] {off : Int} {tgt : Nat} (hd : decode (mC M) pc = .ok (.ifCond .eq off, 3)) (ht : (pc : Int) + off = (tgt : Int)) (kt : ¬ p → E M tgt ls st σ r σ') (kf : p → E M (pc + 3) ls st σ r σ') : E M pc ls (.inl (bI p) :: st) σ r σ' :=
  e_if_eq hd ht (fun h => kt (bI_0.mp h)) (fun h => kf (bI_n0.mp h))
theorem e_if_neB {p : Prop} [Decidable p] {off : Int} {tgt : Nat} (hd : decode (mC M) pc = .ok (.ifCond .ne off, 3)) (ht : (pc : Int) + off = (tgt : Int)) (kt : p → E M tgt ls st σ r σ') (kf : ¬ p → E M (pc + 3) ls st σ r σ') : E M pc ls (.inl (bI p) :: st) σ r σ' :=
  e_if_ne hd ht (fun h => kt (bI_n0.mp h)) (fun h => kf (bI_0.mp h))
theorem e_ireB {p q : Prop} [Decidable p] [Decidable q] {x : Int32} {σ2 : rS} (hr : mR M = some .boolean) (hd : decode (mC M) pc = .ok (.ireturn, 1)) (hx : x = bI p) (hpq : p ↔ q) (hs : σ = σ2) : E M pc ls [.inl x] σ (some (.inl (bI q))) σ2 := by
  subst hx
  exact e_ireq hr nar_bI hd (bI_eq hpq) hs
/-- true, false as constants -/
theorem e_ret1 {q : Prop} [Decidable q] {σ2 : rS} (hr : mR M = some .boolean) (hd : decode (mC M) pc = .ok (.ireturn, 1)) (hq : q) (hs : σ = σ2) : E M pc ls [.inl 1] σ (some (.inl (bI q))) σ2 := by
  rw [bI_t hq, ← hs]
  exact e_iret hr rfl hd
theorem e_ret0 {q : Prop} [Decidable q] {σ2 : rS} (hr : mR M = some .boolean) (hd : decode (mC M) pc = .ok (.ireturn, 1)) (hq : ¬ q) (hs : σ = σ2) : E M pc ls [.inl 0] σ (some (.inl (bI q))) σ2 := by
  rw [bI_f hq, ← hs]
  exact e_iret hr rfl hd
theorem e_vreq {σ2 : rS} (hr : mR M = none) (hd : decode (mC M) pc = .ok (.return_, 1)) (hs : σ = σ2) : E M pc ls [] σ none σ2 := by
  subst hs
  exact e_vret hr hd
theorem e_tab6 {x : Int32} {dflt o0 o1 o2 o3 o4 o5 : Int} {len : Nat} (t0 t1 t2 t3 t4 t5 td : Nat) (hd : decode (mC M) pc = .ok (.tableswitch dflt 0 5 #[o0, o1, o2, o3, o4, o5], len)) (h0 : (pc : Int) + o0 = (t0 : Int)) (h1 : (pc : Int) + o1 = (t1 : Int)) (h2 : (pc : Int) + o2 = (t2 : Int)) (h3 : (pc : Int) + o3 = (t3 : Int)) (h4 : (pc : Int) + o4 = (t4 : Int)) (h5 : (pc : Int) + o5 = (t5 : Int)) (h6 : (pc : Int) + dflt = (td : Int))
    (k0 : x = 0 → E M t0 ls st σ r σ') (k1 : x = 1 → E M t1 ls st σ r σ') (k2 : x = 2 → E M t2 ls st σ r σ') (k3 : x = 3 → E M t3 ls st σ r σ') (k4 : x = 4 → E M t4 ls st σ r σ') (k5 : x = 5 → E M t5 ls st σ r σ') (kd : x ≠ 0 ∧ x ≠ 1 ∧ x ≠ 2 ∧ x ≠ 3 ∧ x ≠ 4 ∧ x ≠ 5 → E M td ls st σ r σ') : E M pc ls (.inl x :: st) σ r σ' := by
  intro p l e s m args below meth c g A H locs lsC X hP hD hS hL
  by_cases e0 : x = 0
  · subst e0; exact lv_tableIn X.1 X.2.1 hd (by decide) (by decide) rfl h0 (k0 rfl p l e s m args below meth c g A H locs lsC X hP hD hS hL)
  by_cases e1 : x = 1
  · subst e1; exact lv_tableIn X.1 X.2.1 hd (by decide) (by decide) rfl h1 (k1 rfl p l e s m args below meth c g A H locs lsC X hP hD hS hL)
  by_cases e2 : x = 2
  · subst e2; exact lv_tableIn X.1 X.2.1 hd (by decide) (by decide) rfl h2 (k2 rfl p l e s m args below meth c g A H locs lsC X hP hD hS hL)
  by_cases e3 : x = 3
  · subst e3; exact lv_tableIn X.1 X.2.1 hd (by decide) (by decide) rfl h3 (k3 rfl p l e s m args below meth c g A H locs lsC X hP hD hS hL)
  by_cases e4 : x = 4
  · subst e4; exact lv_tableIn X.1 X.2.1 hd (by decide) (by decide) rfl h4 (k4 rfl p l e s m args below meth c g A H locs lsC X hP hD hS hL)
  by_cases e5 : x = 5
  · subst e5; exact lv_tableIn X.1 X.2.1 hd (by decide) (by decide) rfl h5 (k5 rfl p l e s m args below meth c g A H locs lsC X hP hD hS hL)
  have hne : x < 0 ∨ 5 < x := by grind
  refine lv_tableOut X.1 X.2.1 hd ?_ h6 (kd ⟨e0, e1, e2, e3, e4, e5⟩ p l e s m args below meth c g A H locs lsC X hP hD hS hL)
  rcases hne with h | h
  · exact Or.inl (Int32.lt_iff_toInt_lt.mp h)
  · exact Or.inr (Int32.lt_iff_toInt_lt.mp h)
theorem e_tab3 {x : Int32} {dflt o0 o1 o2 : Int} {len : Nat} (t0 t1 t2 td : Nat) (hd : decode (mC M) pc = .ok (.tableswitch dflt 0 2 #[o0, o1, o2], len)) (h0 : (pc : Int) + o0 = (t0 : Int)) (h1 : (pc : Int) + o1 = (t1 : Int)) (h2 : (pc : Int) + o2 = (t2 : Int)) (h6 : (pc : Int) + dflt = (td : Int))
    (k0 : x = 0 → E M t0 ls st σ r σ') (k1 : x = 1 → E M t1 ls st σ r σ') (k2 : x = 2 → E M t2 ls st σ r σ') (kd : x ≠ 0 ∧ x ≠ 1 ∧ x ≠ 2 → E M td ls st σ r σ') : E M pc ls (.inl x :: st) σ r σ' := by
  intro p l e s m args below meth c g A H locs lsC X hP hD hS hL
  by_cases e0 : x = 0
  · subst e0; exact lv_tableIn X.1 X.2.1 hd (by decide) (by decide) rfl h0 (k0 rfl p l e s m args below meth c g A H locs lsC X hP hD hS hL)
  by_cases e1 : x = 1
  · subst e1; exact lv_tableIn X.1 X.2.1 hd (by decide) (by decide) rfl h1 (k1 rfl p l e s m args below meth c g A H locs lsC X hP hD hS hL)
  by_cases e2 : x = 2
  · subst e2; exact lv_tableIn X.1 X.2.1 hd (by decide) (by decide) rfl h2 (k2 rfl p l e s m args below meth c g A H locs lsC X hP hD hS hL)
  have hne : x < 0 ∨ 2 < x := by grind
  refine lv_tableOut X.1 X.2.1 hd ?_ h6 (kd ⟨e0, e1, e2⟩ p l e s m args below meth c g A H locs lsC X hP hD hS hL)
  rcases hne with h | h
  · exact Or.inl (Int32.lt_iff_toInt_lt.mp h)
  · exact Or.inr (Int32.lt_iff_toInt_lt.mp h)
theorem e_look2 {x : Int32} {dflt o0 o1 : Int} {len : Nat} (t0 t1 td : Nat) (hd : decode (mC M) pc = .ok (.lookupswitch dflt #[(0, o0), (1, o1)], len)) (h0 : (pc : Int) + o0 = (t0 : Int)) (h1 : (pc : Int) + o1 = (t1 : Int)) (h6 : (pc : Int) + dflt = (td : Int))
    (k0 : x = 0 → E M t0 ls st σ r σ') (k1 : x = 1 → E M t1 ls st σ r σ') (kd : x ≠ 0 ∧ x ≠ 1 → E M td ls st σ r σ') : E M pc ls (.inl x :: st) σ r σ' := by
  intro p l e s m args below meth c g A H locs lsC X hP hD hS hL
  by_cases e0 : x = 0
  · subst e0; exact lv_lookup X.1 X.2.1 hd rfl rfl h0 (k0 rfl p l e s m args below meth c g A H locs lsC X hP hD hS hL)
  by_cases e1 : x = 1
  · subst e1; exact lv_lookup X.1 X.2.1 hd rfl rfl h1 (k1 rfl p l e s m args below meth c g A H locs lsC X hP hD hS hL)
  refine lv_lookup X.1 X.2.1 hd rfl ?_ h6 (kd ⟨e0, e1⟩ p l e s m args below meth c g A H locs lsC X hP hD hS hL)
  show Op.lookupswitch.offset [(0, o0), (1, o1)] dflt x.toInt = dflt
  rw [lv_osw (k := 0) e0 (by decide), lv_osw (k := 1) e1 (by decide)]
  rfl
end RM
section RC
variable {M N : rM} {pc idx o ci : Nat} {ls st : List rV} {σ σ1 σ' : rS} {r : Option rV} {v : rV}
theorem e_V0v (hN : okV N 0 ci) (hl : Cond.methodLink (mO M) idx (mY N) ∈ gW) (hR : mF N + 1 ≤ mF M ∧ 8 + (mN N + 11) + mL N ≤ mL M) (hd : decode (mC M) pc = .ok (.invokevirtual idx, 3)) (ho : isO o ci) (hst : st.length ≤ 8) (hC : Ct N [.inr (o, 0)] σ none σ1) (kk : E M (pc + 3) ls st σ1 r σ') : E M pc ls (.inr (o, 0) :: st) σ r σ' :=
  e_callV (as := []) (v := none) hC hN hl ho rfl hst hR hd kk
theorem e_V0 (hN : okV N 0 ci) (hl : Cond.methodLink (mO M) idx (mY N) ∈ gW) (hR : mF N + 1 ≤ mF M ∧ 8 + (mN N + 11) + mL N ≤ mL M) (hd : decode (mC M) pc = .ok (.invokevirtual idx, 3)) (ho : isO o ci) (hst : st.length ≤ 8) (hC : Ct N [.inr (o, 0)] σ (some v) σ1) (kk : E M (pc + 3) ls (v :: st) σ1 r σ') : E M pc ls (.inr (o, 0) :: st) σ r σ' :=
  e_callV (as := []) (v := (some v)) hC hN hl ho rfl hst hR hd kk
theorem e_V1v {a0 : rV} (hN : okV N 1 ci) (hl : Cond.methodLink (mO M) idx (mY N) ∈ gW) (hR : mF N + 1 ≤ mF M ∧ 8 + (mN N + 11) + mL N ≤ mL M) (hd : decode (mC M) pc = .ok (.invokevirtual idx, 3)) (ho : isO o ci) (hst : st.length ≤ 8) (hC : Ct N [.inr (o, 0), a0] σ none σ1) (kk : E M (pc + 3) ls st σ1 r σ') : E M pc ls (a0 :: .inr (o, 0) :: st) σ r σ' :=
  e_callV (as := [a0]) (v := none) hC hN hl ho rfl hst hR hd kk
theorem e_V1 {a0 : rV} (hN : okV N 1 ci) (hl : Cond.methodLink (mO M) idx (mY N) ∈ gW) (hR : mF N + 1 ≤ mF M ∧ 8 + (mN N + 11) + mL N ≤ mL M) (hd : decode (mC M) pc = .ok (.invokevirtual idx, 3)) (ho : isO o ci) (hst : st.length ≤ 8) (hC : Ct N [.inr (o, 0), a0] σ (some v) σ1) (kk : E M (pc + 3) ls (v :: st) σ1 r σ') : E M pc ls (a0 :: .inr (o, 0) :: st) σ r σ' :=
  e_callV (as := [a0]) (v := (some v)) hC hN hl ho rfl hst hR hd kk
theorem e_V2v {a0 a1 : rV} (hN : okV N 2 ci) (hl : Cond.methodLink (mO M) idx (mY N) ∈ gW) (hR : mF N + 1 ≤ mF M ∧ 8 + (mN N + 11) + mL N ≤ mL M) (hd : decode (mC M) pc = .ok (.invokevirtual idx, 3)) (ho : isO o ci) (hst : st.length ≤ 8) (hC : Ct N [.inr (o, 0), a0, a1] σ none σ1) (kk : E M (pc + 3) ls st σ1 r σ') : E M pc ls (a1 :: a0 :: .inr (o, 0) :: st) σ r σ' :=
  e_callV (as := [a0, a1]) (v := none) hC hN hl ho rfl hst hR hd kk
theorem e_V2 {a0 a1 : rV} (hN : okV N 2 ci) (hl : Cond.methodLink (mO M) idx (mY N) ∈ gW) (hR : mF N + 1 ≤ mF M ∧ 8 + (mN N + 11) + mL N ≤ mL M) (hd : decode (mC M) pc = .ok (.invokevirtual idx, 3)) (ho : isO o ci) (hst : st.length ≤ 8) (hC : Ct N [.inr (o, 0), a0, a1] σ (some v) σ1) (kk : E M (pc + 3) ls (v :: st) σ1 r σ') : E M pc ls (a1 :: a0 :: .inr (o, 0) :: st) σ r σ' :=
  e_callV (as := [a0, a1]) (v := (some v)) hC hN hl ho rfl hst hR hd kk
theorem e_V3v {a0 a1 a2 : rV} (hN : okV N 3 ci) (hl : Cond.methodLink (mO M) idx (mY N) ∈ gW) (hR : mF N + 1 ≤ mF M ∧ 8 + (mN N + 11) + mL N ≤ mL M) (hd : decode (mC M) pc = .ok (.invokevirtual idx, 3)) (ho : isO o ci) (hst : st.length ≤ 8) (hC : Ct N [.inr (o, 0), a0, a1, a2] σ none σ1) (kk : E M (pc + 3) ls st σ1 r σ') : E M pc ls (a2 :: a1 :: a0 :: .inr (o, 0) :: st) σ r σ' :=
  e_callV (as := [a0, a1, a2]) (v := none) hC hN hl ho rfl hst hR hd kk
theorem e_V3 {a0 a1 a2 : rV} (hN : okV N 3 ci) (hl : Cond.methodLink (mO M) idx (mY N) ∈ gW) (hR : mF N + 1 ≤ mF M ∧ 8 + (mN N + 11) + mL N ≤ mL M) (hd : decode (mC M) pc = .ok (.invokevirtual idx, 3)) (ho : isO o ci) (hst : st.length ≤ 8) (hC : Ct N [.inr (o, 0), a0, a1, a2] σ (some v) σ1) (kk : E M (pc + 3) ls (v :: st) σ1 r σ') : E M pc ls (a2 :: a1 :: a0 :: .inr (o, 0) :: st) σ r σ' :=
  e_callV (as := [a0, a1, a2]) (v := (some v)) hC hN hl ho rfl hst hR hd kk
theorem e_V4v {a0 a1 a2 a3 : rV} (hN : okV N 4 ci) (hl : Cond.methodLink (mO M) idx (mY N) ∈ gW) (hR : mF N + 1 ≤ mF M ∧ 8 + (mN N + 11) + mL N ≤ mL M) (hd : decode (mC M) pc = .ok (.invokevirtual idx, 3)) (ho : isO o ci) (hst : st.length ≤ 8) (hC : Ct N [.inr (o, 0), a0, a1, a2, a3] σ none σ1) (kk : E M (pc + 3) ls st σ1 r σ') : E M pc ls (a3 :: a2 :: a1 :: a0 :: .inr (o, 0) :: st) σ r σ' :=
  e_callV (as := [a0, a1, a2, a3]) (v := none) hC hN hl ho rfl hst hR hd kk
theorem e_V4 {a0 a1 a2 a3 : rV} (hN : okV N 4 ci) (hl : Cond.methodLink (mO M) idx (mY N) ∈ gW) (hR : mF N + 1 ≤ mF M ∧ 8 + (mN N + 11) + mL N ≤ mL M) (hd : decode (mC M) pc = .ok (.invokevirtual idx, 3)) (ho : isO o ci) (hst : st.length ≤ 8) (hC : Ct N [.inr (o, 0), a0, a1, a2, a3] σ (some v) σ1) (kk : E M (pc + 3) ls (v :: st) σ1 r σ') : E M pc ls (a3 :: a2 :: a1 :: a0 :: .inr (o, 0) :: st) σ r σ' :=
  e_callV (as := [a0, a1, a2, a3]) (v := (some v)) hC hN hl ho rfl hst hR hd kk
theorem e_V5v {a0 a1 a2 a3 a4 : rV} (hN : okV N 5 ci) (hl : Cond.methodLink (mO M) idx (mY N) ∈ gW) (hR : mF N + 1 ≤ mF M ∧ 8 + (mN N + 11) + mL N ≤ mL M) (hd : decode (mC M) pc = .ok (.invokevirtual idx, 3)) (ho : isO o ci) (hst : st.length ≤ 8) (hC : Ct N [.inr (o, 0), a0, a1, a2, a3, a4] σ none σ1) (kk : E M (pc + 3) ls st σ1 r σ') : E M pc ls (a4 :: a3 :: a2 :: a1 :: a0 :: .inr (o, 0) :: st) σ r σ' :=
  e_callV (as := [a0, a1, a2, a3, a4]) (v := none) hC hN hl ho rfl hst hR hd kk
theorem e_V5 {a0 a1 a2 a3 a4 : rV} (hN : okV N 5 ci) (hl : Cond.methodLink (mO M) idx (mY N) ∈ gW) (hR : mF N + 1 ≤ mF M ∧ 8 + (mN N + 11) + mL N ≤ mL M) (hd : decode (mC M) pc = .ok (.invokevirtual idx, 3)) (ho : isO o ci) (hst : st.length ≤ 8) (hC : Ct N [.inr (o, 0), a0, a1, a2, a3, a4] σ (some v) σ1) (kk : E M (pc + 3) ls (v :: st) σ1 r σ') : E M pc ls (a4 :: a3 :: a2 :: a1 :: a0 :: .inr (o, 0) :: st) σ r σ' :=
  e_callV (as := [a0, a1, a2, a3, a4]) (v := (some v)) hC hN hl ho rfl hst hR hd kk
theorem e_S1 {a0 : rV} (hN : okM N 1) (hs : Cond.static (mY N) ∈ gW) (hl : Cond.methodLink (mO M) idx (mY N) ∈ gW) (hR : mF N + 1 ≤ mF M ∧ 8 + (mN N + 11) + mL N ≤ mL M) (hd : decode (mC M) pc = .ok (.invokestatic idx, 3)) (hst : st.length ≤ 8) (hC : Ct N [a0] σ (some v) σ1) (kk : E M (pc + 3) ls (v :: st) σ1 r σ') : E M pc ls (a0 :: st) σ r σ' :=
  e_callS (as := [a0]) (v := some v) hC hN hs hl rfl hst hR hd kk
theorem e_S2 {a0 a1 : rV} (hN : okM N 2) (hs : Cond.static (mY N) ∈ gW) (hl : Cond.methodLink (mO M) idx (mY N) ∈ gW) (hR : mF N + 1 ≤ mF M ∧ 8 + (mN N + 11) + mL N ≤ mL M) (hd : decode (mC M) pc = .ok (.invokestatic idx, 3)) (hst : st.length ≤ 8) (hC : Ct N [a0, a1] σ (some v) σ1) (kk : E M (pc + 3) ls (v :: st) σ1 r σ') : E M pc ls (a1 :: a0 :: st) σ r σ' :=
  e_callS (as := [a0, a1]) (v := some v) hC hN hs hl rfl hst hR hd kk
end RC
theorem e_to {M : rM} {pc : Nat} {ls ls2 st : List rV} {σ σ2 σ' : rS} {r : Option rV} (ih : E M pc ls2 st σ2 r σ') (h1 : ls.take ls2.length = ls2) (h2 : σ = σ2) : E M pc ls st σ r σ' := by
  subst h2
  exact e_drop ls2.length (by rw [h1]; exact ih)
theorem nI_facts {j n N : Nat} (L : Int32) (hj : j < n) (hn : n ≤ N) (hN : N < 2 ^ 31) (hL : nI N = L) : 0 ≤ nI j ∧ nI j < nI n ∧ nI n ≤ L ∧ nI (j + 1) = nI j + 1 := by
  subst hL
  exact ⟨nI_pos' (by omega), nI_lt hj (by omega), nI_le hn (by omega), nI_succ j⟩
end
section
-- the JDK's own methods over the literals
section RSTR
variable {M : rM} {pc : Nat} {ls st : List rV} {σ σ' : rS} {r : Option rV}
theorem e_getsC {idx : Nat} (hf : Cond.fieldLink (mO M) idx "java/lang/String" "COMPACT_STRINGS" "Z" ∈ gW) (hd : decode (mC M) pc = .ok (.getstatic idx, 3)) (kk : E M (pc + 3) ls (.inl 1 :: st) σ r σ') : E M pc ls st σ r σ' := by
  intro p l e s m args below meth c g A H locs lsC X hP hD hS hL
  exact va_gets X.1 X.2.1 X.2.2.2.2.2.2.2.2.2.2.1 hS X.2.2.2.1 (X.2.2.2.2.1 _ hf) (fun _ h => h) hd (kk p l e s m args below meth c g A H locs lsC X hP hD hS hL)
theorem e_getSV {idx i : Nat} (hi : i < 9) (hf : Cond.fieldLink (mO M) idx "java/lang/String" "value" "[B" ∈ gW) (hd : decode (mC M) pc = .ok (.getfield idx, 3)) (kk : E M (pc + 3) ls (.inr (100 + i, 1) :: st) σ r σ') : E M pc ls (.inr (100 + i, 0) :: st) σ r σ' := by
  intro p l e s m args below meth c g A H locs lsC X hP hD hS hL
  exact vk_getf X.1 X.2.1 (X.2.2.2.2.2.2.2.2.1.1 i hi).2.2.1 hS X.2.2.2.1 (X.2.2.2.2.1 _ hf) (fun _ h => h) hd (kk p l e s m args below meth c g A H locs lsC X hP hD hS hL)
theorem e_getSC {idx i : Nat} (hi : i < 9) (hf : Cond.fieldLink (mO M) idx "java/lang/String" "coder" "B" ∈ gW) (hd : decode (mC M) pc = .ok (.getfield idx, 3)) (kk : E M (pc + 3) ls (.inl 0 :: st) σ r σ') : E M pc ls (.inr (100 + i, 0) :: st) σ r σ' := by
  intro p l e s m args below meth c g A H locs lsC X hP hD hS hL
  exact vk_getf X.1 X.2.1 (X.2.2.2.2.2.2.2.2.1.1 i hi).2.1 hS X.2.2.2.1 (X.2.2.2.2.1 _ hf) (fun _ h => h) hd (kk p l e s m args below meth c g A H locs lsC X hP hD hS hL)
theorem e_alenS {i : Nat} (hi : i < 9) (hd : decode (mC M) pc = .ok (.arraylength, 1)) (kk : E M (pc + 1) ls (.inl (nI (sLn.getD i 0)) :: st) σ r σ') : E M pc ls (.inr (100 + i, 1) :: st) σ r σ' := by
  intro p l e s m args below meth c g A H locs lsC X hP hD hS hL
  obtain ⟨cell, h1, h2, h3, h4, h5, h6, h7⟩ := (X.2.2.2.2.2.2.2.2.1.1 i hi).2.2.2
  exact W.alen X.1 X.2.1 (by rw [hS.2.1 _ (Array.getElem?_eq_some_iff.mp h1).1 h7]; exact h1) h2 h5 rfl rfl hd (kk p l e s m args below meth c g A H locs lsC X hP hD hS hL)
theorem e_baldS {i : Nat} {k : Int32} (hi : i < 9) (hk : vp_in k (sLn.getD i 0)) (hd : decode (mC M) pc = .ok (.baload, 1)) (kk : E M (pc + 1) ls (.inl ((sBy.getD i []).getD k.toNatClampNeg 0) :: st) σ r σ') : E M pc ls (.inl k :: .inr (100 + i, 1) :: st) σ r σ' := by
  intro p l e s m args below meth c g A H locs lsC X hP hD hS hL
  obtain ⟨cell, h1, h2, h3, h4, h5, h6, h7⟩ := (X.2.2.2.2.2.2.2.2.1.1 i hi).2.2.2
  have hlt : k.toNatClampNeg < sLn.getD i 0 := Nat.not_le.mp fun q => hk (Or.inr q)
  have hin : ¬ (k < 0 ∨ cell.slots.size ≤ k.toNatClampNeg) := by
    intro q
    rcases q with q | q
    · exact hk (Or.inl q)
    · omega
  exact W.bald (v := .int ((sBy.getD i []).getD k.toNatClampNeg 0)) X.1 X.2.1 (by rw [hS.2.1 _ (Array.getElem?_eq_some_iff.mp h1).1 h7]; exact h1) h2 h3 hin (h6 _ hlt) rfl rfl hd (kk p l e s m args below meth c g A H locs lsC X hP hD hS hL)
/-- a call of a literal's method -/
theorem e_callJ {N : rM} {n idx i : Nat} {as : List rV} {v : Option rV} {σ1 : rS} (hC : Ct N (.inr (100 + i, 0) :: as) σ v σ1) (hN : okM N n) (hI : Cond.instanceMethod (mY N) ∈ gW ∧ Cond.selects (mY N).cls (mY N) (mY N) ∈ gW) (hcl : (mY N).cls = "java/lang/String") (hl : Cond.methodLink (mO M) idx (mY N) ∈ gW) (hi : i < 9) (hn : as.length = n) (hst : st.length ≤ 8) (hR : mF N + 1 ≤ mF M ∧ 8 + (mN N + 11) + mL N ≤ mL M) (hd : decode (mC M) pc = .ok (.invokevirtual idx, 3)) (kk : E M (pc + 3) ls (v.toList ++ st) σ1 r σ') : E M pc ls (as.reverse ++ .inr (100 + i, 0) :: st) σ r σ' := by
  intro p l e s m args below meth c g A H locs lsC X hP hD hS hL
  have ht := X.2.2.2.2.1
  have hrecv := vk_recv X.2.2.2.2.2.2.2.2.1 hi hS
  rw [← hcl] at hrecv
  refine e_back (N := N) (as := .inr (100 + i, 0) :: as) (st := st) kk X hD hS hL (a := ((Sum.inr (100 + i, 0) :: as : List rV).map (cv g)).toArray) ?_
  have hstk : (as.reverse ++ .inr (100 + i, 0) :: st).map (cv g) = (as.map (cv g)).reverse ++ .ref (g.2.2 (100 + i, 0)) :: st.map (cv g) := by
    rw [List.map_append, List.map_reverse]
    rfl
  refine va_runV (As := as.map (cv g)) (rest := st.map (cv g)) (C := (mY N).cls) ⟨X.1, X.2.1, X.2.2.1, X.2.2.2.1, ht⟩ (hC l g A) ⟨callB_ok hN ht hl hR, ht _ hI.1, ht _ hI.2⟩ ⟨rPc_blind g A _ σ, hrecv, fun U hU hW => ?_⟩ rfl (by rw [List.length_map]; exact hn) hL.1 hstk (by show 2 * 0 + _ ≤ 8; rw [cats_sum]; omega) hd ⟨Nat.le_refl _, Nat.le_refl _⟩
  exact ⟨rfl, by rw [hU]; exact hP, hD, by rw [hU]; exact X.2.2.2.2.2.2.2.to hS hW⟩
theorem e_J0 {N : rM} {idx i : Nat} {v : rV} {σ1 : rS} (hN : okM N 0) (hI : Cond.instanceMethod (mY N) ∈ gW ∧ Cond.selects (mY N).cls (mY N) (mY N) ∈ gW) (hl : Cond.methodLink (mO M) idx (mY N) ∈ gW) (hR : mF N + 1 ≤ mF M ∧ 8 + (mN N + 11) + mL N ≤ mL M) (hd : decode (mC M) pc = .ok (.invokevirtual idx, 3)) (hi : i < 9) (hst : st.length ≤ 8) (hC : Ct N [.inr (100 + i, 0)] σ (some v) σ1) (hcl : (mY N).cls = "java/lang/String") (kk : E M (pc + 3) ls (v :: st) σ1 r σ') : E M pc ls (.inr (100 + i, 0) :: st) σ r σ' :=
  e_callJ (as := []) (v := some v) hC hN hI hcl hl hi rfl hst hR hd kk
theorem e_J1 {N : rM} {idx i : Nat} {a0 v : rV} {σ1 : rS} (hN : okM N 1) (hI : Cond.instanceMethod (mY N) ∈ gW ∧ Cond.selects (mY N).cls (mY N) (mY N) ∈ gW) (hl : Cond.methodLink (mO M) idx (mY N) ∈ gW) (hR : mF N + 1 ≤ mF M ∧ 8 + (mN N + 11) + mL N ≤ mL M) (hd : decode (mC M) pc = .ok (.invokevirtual idx, 3)) (hi : i < 9) (hst : st.length ≤ 8) (hC : Ct N [.inr (100 + i, 0), a0] σ (some v) σ1) (hcl : (mY N).cls = "java/lang/String") (kk : E M (pc + 3) ls (v :: st) σ1 r σ') : E M pc ls (a0 :: .inr (100 + i, 0) :: st) σ r σ' :=
  e_callJ (as := [a0]) (v := some v) hC hN hI hcl hl hi rfl hst hR hd kk
theorem e_S2v {N : rM} {idx : Nat} {a0 a1 : rV} {σ1 : rS} (hN : okM N 2) (hs : Cond.static (mY N) ∈ gW) (hl : Cond.methodLink (mO M) idx (mY N) ∈ gW) (hR : mF N + 1 ≤ mF M ∧ 8 + (mN N + 11) + mL N ≤ mL M) (hd : decode (mC M) pc = .ok (.invokestatic idx, 3)) (hst : st.length ≤ 8) (hC : Ct N [a0, a1] σ none σ1) (kk : E M (pc + 3) ls st σ1 r σ') : E M pc ls (a1 :: a0 :: st) σ r σ' :=
  e_callS (as := [a0, a1]) (v := none) hC hN hs hl rfl hst hR hd kk
end RSTR
/-- Preconditions.checkIndex, an index within: any third argument -/
theorem m_J3 (l : Launch) (A : Nat → Prop) (i n : Int32) (v : Value) (hv : v.category = 1) (h : 0 ≤ i ∧ i < n) : Met l yJ3_checkIndex_8e157 (rWd mJ3_checkIndex_8e157) (rRm mJ3_checkIndex_8e157) (va_Pc [.int i, .int n, v] (fun _ => True)) (fun _ st oc t => oc = .returned (some (.int i)) ∧ t.heap = st.heap) 0 0 A := by
  refine Met.ofW (cc := cJ3_checkIndex_8e157) (maxL := 3) (ret := some .int) (by decide) rfl ?_
  intro p e s m args below meth c s₁ B hml hp
  obtain ⟨rfl, -⟩ := hp
  have hx := B.exec
  have hb := B.bytes
  have hr := B.returns
  have hlocks := B.notSynchronized
  have hsl : lg_sl [.int i, .int n, v] = [.val (.int i), .val (.int n), .val v] := by
    have h9 : lg_sl [.int i, .int n, v] = [.val (.int i)] ++ ([.val (.int n)] ++ ((if v.category = 2 then [.val v, .second] else [.val v]) ++ [])) := rfl
    rw [h9, hv]
    rfl
  have hl := lv_entry [.int i, .int n, v] (n := 3) (by rw [hsl]; exact Nat.le_refl _)
  rw [lg_entry_eq]
  generalize (lg_sl [.int i, .int n, v] ++ List.replicate (3 - (lg_sl [.int i, .int n, v]).length) Slot.unset).toArray = ls at hl ⊢
  have h0 : ls[0]? = some (.val (.int i)) := lv_at hl 0 rfl
  have h1 : ls[1]? = some (.val (.int n)) := lv_at hl 1 rfl
  refine lv_iload_n hx hb dJ3_checkIndex_8e157_0 rfl h0 ?_
  refine lv_if_lt (tgt := 9) hx hb dJ3_checkIndex_8e157_1 (by decide) (fun hc => ?_) (fun _ => ?_)
  · exact absurd h.1 (by grind)
  refine lv_iload_n hx hb dJ3_checkIndex_8e157_4 rfl h0 ?_
  refine lv_iload_n hx hb dJ3_checkIndex_8e157_5 rfl h1 ?_
  refine lv_icmp_lt (tgt := 16) hx hb dJ3_checkIndex_8e157_6 (by decide) (fun _ => ?_) (fun hc => ?_)
  · refine lv_iload_n hx hb dJ3_checkIndex_8e157_16 rfl h0 ?_
    exact W.iret hx hb hr (fun t ht hW => ⟨rfl, ht⟩) (fun q hq => by cases hq) dJ3_checkIndex_8e157_17
  · exact absurd h.2 hc
theorem c_J0_checkIndex_df160 {i n : Int32} {σ : rS} (h : 0 ≤ i ∧ i < n) : Ct mJ0_checkIndex_df160 [.inl i, .inl n] σ none σ := by
  refine C_of_E rfl rfl (Nat.le_of_ble_eq_true rfl) ?_
  refine e_iload_n dJ0_checkIndex_df160_0 rfl ?_
  refine e_iload_n dJ0_checkIndex_df160_1 rfl ?_
  intro p l e s m args below meth c g A H locs lsC X hP hD hS hL
  have key : ∀ v : Value, v.category = 1 → va_Z "jdk/internal/util/Preconditions" "SIOOBE_FORMATTER" "Ljava/util/function/BiFunction;" v A s s.heap → W p l e (rRm mJ0_checkIndex_df160) s m args below meth c H locs 0 0 (MQ below (rQc g A none σ) args s 0 0 A) (F0 m 2 lsC [.int n, .int i]) := by
    intro v hv hZ
    refine va_gets X.1 X.2.1 hZ hS X.2.2.2.1 (X.2.2.2.2.1 _ fJ0_1053) (fun _ h => h) dJ0_checkIndex_df160_2 ?_
    have hrun := va_runS (rest := []) (g := F0 m 5 lsC [v, .int n, .int i]) (H := H) (locs := locs) (cells := 0) (slots := 0) (below := below) (meth := meth) (e := e) (As := [.int i, .int n, v]) ⟨X.1, X.2.1, X.2.2.1, X.2.2.2.1, X.2.2.2.2.1⟩ (m_J3 l A i n v hv h) ⟨callB_ok (M := mJ0_checkIndex_df160) oJ3_checkIndex_8e157 X.2.2.2.2.1 lJ0_1059 ⟨Nat.le_of_ble_eq_true rfl, Nat.le_of_ble_eq_true rfl⟩, X.2.2.2.2.1 _ sJ3_checkIndex_8e157⟩ ⟨fun _ _ _ _ q => q, fun U hU hW => ⟨rfl, trivial⟩⟩ rfl rfl hL.1 rfl (by show 2 * 0 + 0 ≤ 8; omega) dJ0_checkIndex_df160_5 ⟨Nat.le_refl _, Nat.le_refl _⟩
    intro T hT X9
    obtain ⟨v9, st₀, t, T', L, h0, X', hL9, e1, e2, ⟨hv9, hh⟩, stp⟩ := hrun T hT X9
    cases hv9
    have hTh : T'.heap = H := by rw [e1, hh, h0]
    have hS1 : va_S A s.heap H (locs ++ L) := ⟨hS.1, hS.2.1, fun q hq => by
      rcases List.mem_append.mp hq with h | h
      · exact hS.2.2 q h
      · exact hL9 q h⟩
    have fin : W p l e (rRm mJ0_checkIndex_df160) s m args below meth c H (locs ++ L) 0 0 (MQ below (rQc g A none σ) args s 0 0 A) (F0 m 8 lsC [.int i]) := by
      refine lv_pop X.1 X.2.1 dJ0_checkIndex_df160_8 rfl ?_
      exact W.vret X.1 X.2.1 X.2.2.2.2.2.1 (fun t ht hW => ⟨rfl, by rw [ht]; exact hP, hS1.F ht⟩) hS1.2.2 dJ0_checkIndex_df160_9 X.2.2.2.2.2.2.1
    obtain ⟨t2, a1, b1⟩ := fin T' hTh X'
    exact ⟨t2, stp t2 a1, b1⟩
  rcases X.2.2.2.2.2.2.2.2.2.2.2.1 with hZ | ⟨t, hZ⟩
  · exact key .null rfl hZ
  · exact key (.ref t) rfl hZ
theorem c_J0_coder_7d493 {i : Nat} {σ : rS} (hi : i < 9) : Ct mJ0_coder_7d493 [.inr (100 + i, 0)] σ (some (.inl 0)) σ := by
  refine C_of_E rfl rfl (Nat.le_of_ble_eq_true rfl) ?_
  refine e_getsC fJ0_38 dJ0_coder_7d493_0 ?_
  refine e_if_eq (tgt := 13) dJ0_coder_7d493_3 (by decide) (fun h => absurd h (by decide)) (fun _ => ?_)
  refine e_aload_n dJ0_coder_7d493_6 rfl ?_
  refine e_getSC hi fJ0_15 dJ0_coder_7d493_7 ?_
  refine e_goto (tgt := 14) dJ0_coder_7d493_10 (by decide) ?_
  exact e_iret rfl rfl dJ0_coder_7d493_14
theorem c_J0_isLatin1_aae02 {i : Nat} {σ : rS} (hi : i < 9) : Ct mJ0_isLatin1_aae02 [.inr (100 + i, 0)] σ (some (.inl 1)) σ := by
  refine C_of_E rfl rfl (Nat.le_of_ble_eq_true rfl) ?_
  refine e_getsC fJ0_38 dJ0_isLatin1_aae02_0 ?_
  refine e_if_eq (tgt := 17) dJ0_isLatin1_aae02_3 (by decide) (fun h => absurd h (by decide)) (fun _ => ?_)
  refine e_aload_n dJ0_isLatin1_aae02_6 rfl ?_
  refine e_getSC hi fJ0_15 dJ0_isLatin1_aae02_7 ?_
  refine e_if_ne (tgt := 17) dJ0_isLatin1_aae02_10 (by decide) (fun h => absurd rfl h) (fun _ => ?_)
  refine e_iconst (v := 1) dJ0_isLatin1_aae02_13 (by decide) ?_
  refine e_goto (tgt := 18) dJ0_isLatin1_aae02_14 (by decide) ?_
  exact e_iret rfl rfl dJ0_isLatin1_aae02_18
theorem sLn_sh : ∀ i, i < 9 → nI (sLn.getD i 0) >>> ((0 : Int32) &&& 31) = nI (sLn.getD i 0) := by decide +kernel
theorem c_J0_length_8abf5 {i : Nat} {σ : rS} (hi : i < 9) : Ct mJ0_length_8abf5 [.inr (100 + i, 0)] σ (some (.inl (nI (sLn.getD i 0)))) σ := by
  refine C_of_E rfl rfl (Nat.le_of_ble_eq_true rfl) ?_
  refine e_aload_n dJ0_length_8abf5_0 rfl ?_
  refine e_getSV hi fJ0_9 dJ0_length_8abf5_1 ?_
  refine e_alenS hi dJ0_length_8abf5_4 ?_
  refine e_aload_n dJ0_length_8abf5_5 rfl ?_
  refine e_J0 oJ0_coder_7d493 oiJ0_coder_7d493 lJ0_335 ⟨Nat.le_of_ble_eq_true rfl, Nat.le_of_ble_eq_true rfl⟩ dJ0_length_8abf5_6 hi (Nat.le_of_ble_eq_true rfl) (c_J0_coder_7d493 hi) rfl ?_
  refine e_ishr dJ0_length_8abf5_9 ?_
  exact e_ireq rfl rfl dJ0_length_8abf5_10 (sLn_sh i hi) rfl
theorem sBy_all : ∀ i, i < 9 → sLn.getD i 0 = (sBy.getD i []).length ∧ ∀ b ∈ sBy.getD i [], ((b &&& 255).toUInt32 % 65536).toInt32 = b ∧ narrow .char (.int b) = .int b := by decide +kernel
theorem getD_mem {L : List Int32} {k : Nat} (h : k < L.length) : L.getD k 0 ∈ L := by
  rw [List.getD_eq_getElem?_getD, List.getElem?_eq_getElem h]
  exact List.getElem_mem h
theorem c_J1_charAt_3b067 {i : Nat} {k : Int32} {σ : rS} (hi : i < 9) (hk : 0 ≤ k ∧ k < nI (sLn.getD i 0)) (hv : vp_in k (sLn.getD i 0)) : Ct mJ1_charAt_3b067 [.inr (100 + i, 1), .inl k] σ (some (.inl ((sBy.getD i []).getD k.toNatClampNeg 0))) σ := by
  refine C_of_E rfl rfl (Nat.le_of_ble_eq_true rfl) ?_
  refine e_iload_n dJ1_charAt_3b067_0 rfl ?_
  refine e_aload_n dJ1_charAt_3b067_1 rfl ?_
  refine e_alenS hi dJ1_charAt_3b067_2 ?_
  refine e_S2v oJ0_checkIndex_df160 sJ0_checkIndex_df160 lJ1_9 ⟨Nat.le_of_ble_eq_true rfl, Nat.le_of_ble_eq_true rfl⟩ dJ1_charAt_3b067_3 (Nat.le_of_ble_eq_true rfl) (c_J0_checkIndex_df160 hk) ?_
  refine e_aload_n dJ1_charAt_3b067_6 rfl ?_
  refine e_iload_n dJ1_charAt_3b067_7 rfl ?_
  refine e_baldS hi hv dJ1_charAt_3b067_8 ?_
  refine e_sipush (v := 255) dJ1_charAt_3b067_9 (by decide) ?_
  refine e_iand dJ1_charAt_3b067_12 ?_
  have hlt : k.toNatClampNeg < sLn.getD i 0 := Nat.not_le.mp fun q => hv (Or.inr q)
  have hm : (sBy.getD i []).getD k.toNatClampNeg 0 ∈ sBy.getD i [] := by
    rw [(sBy_all i hi).1] at hlt
    exact getD_mem hlt
  have h9 := (sBy_all i hi).2 _ hm
  refine e_i2c dJ1_charAt_3b067_13 h9.1 ?_
  exact e_iret rfl h9.2 dJ1_charAt_3b067_14
theorem c_J0_charAt_5068e {i : Nat} {k : Int32} {σ : rS} (hi : i < 9) (hk : 0 ≤ k ∧ k < nI (sLn.getD i 0)) (hv : vp_in k (sLn.getD i 0)) : Ct mJ0_charAt_5068e [.inr (100 + i, 0), .inl k] σ (some (.inl ((sBy.getD i []).getD k.toNatClampNeg 0))) σ := by
  refine C_of_E rfl rfl (Nat.le_of_ble_eq_true rfl) ?_
  refine e_aload_n dJ0_charAt_5068e_0 rfl ?_
  refine e_J0 oJ0_isLatin1_aae02 oiJ0_isLatin1_aae02 lJ0_492 ⟨Nat.le_of_ble_eq_true rfl, Nat.le_of_ble_eq_true rfl⟩ dJ0_charAt_5068e_1 hi (Nat.le_of_ble_eq_true rfl) (c_J0_isLatin1_aae02 hi) rfl ?_
  refine e_if_eq (tgt := 16) dJ0_charAt_5068e_4 (by decide) (fun h => absurd h (by decide)) (fun _ => ?_)
  refine e_aload_n dJ0_charAt_5068e_7 rfl ?_
  refine e_getSV hi fJ0_9 dJ0_charAt_5068e_8 ?_
  refine e_iload_n dJ0_charAt_5068e_11 rfl ?_
  refine e_S2 oJ1_charAt_3b067 sJ1_charAt_3b067 lJ0_495 ⟨Nat.le_of_ble_eq_true rfl, Nat.le_of_ble_eq_true rfl⟩ dJ0_charAt_5068e_12 (Nat.le_of_ble_eq_true rfl) (c_J1_charAt_3b067 hi hk hv) ?_
  have hlt : k.toNatClampNeg < sLn.getD i 0 := Nat.not_le.mp fun q => hv (Or.inr q)
  have hm : (sBy.getD i []).getD k.toNatClampNeg 0 ∈ sBy.getD i [] := by
    rw [(sBy_all i hi).1] at hlt
    exact getD_mem hlt
  exact e_iret rfl ((sBy_all i hi).2 _ hm).2 dJ0_charAt_5068e_15
theorem min_name : yJ9_min_7cf53 = Lib.Math.min.name := by decide +kernel
theorem min_code : cJ9_min_7cf53 = Lib.Math.min.code := by decide +kernel
theorem e_min {M : rM} {pc idx : Nat} {ls st : List rV} {σ σ' : rS} {r : Option rV} {x y : Int32} (hl : Cond.methodLink (mO M) idx yJ9_min_7cf53 ∈ gW) (hf : 1 ≤ mF M) (hlo : st.length + 13 ≤ mL M) (hd : decode (mC M) pc = .ok (.invokestatic idx, 3)) (kk : E M (pc + 3) ls (.inl (if y < x then y else x) :: st) σ r σ') : E M pc ls (.inl y :: .inl x :: st) σ r σ' := by
  intro p l e s m args below meth c g A H locs lsC X hP hD hS hL
  have ht := X.2.2.2.2.1
  have h1 := ht _ hl
  have h2 := ht _ sJ9_min_7cf53
  have h3 := ht _ oJ9_min_7cf53.1
  have h4 := ht _ oJ9_min_7cf53.2.1
  have e1 : mY mJ9_min_7cf53 = Lib.Math.min.name := min_name
  have e2 : mC mJ9_min_7cf53 = Lib.Math.min.code := min_code
  rw [min_name] at h1
  rw [e1] at h2 h4
  rw [e1, e2] at h3
  exact va_mmin X.1 X.2.1 (X.2.2.1.trans hL.1.symm) X.2.2.2.1 h1 h2 h4 h3 hf (by rw [cats_sum]; exact hlo) (Nat.le_refl _) (Nat.le_refl _) hd (kk p l e s m args below meth c g A H locs lsC X hP hD hS hL)
end
