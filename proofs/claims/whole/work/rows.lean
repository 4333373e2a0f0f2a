section
-- ===== PART A: goes FIRST, ahead of the names: the tables' words, and 'selects' of the private methods out of them =====
/-- a private method of a class that the tables say can be made, by its rows of tables_1 -/
def lw_okq (q : MethodName × Nat) : Prop := (q.1.cls ≠ "java/lang/invoke/MethodHandle" ∧ q.1.cls ≠ "java/lang/invoke/VarHandle") ∧ Cond.instantiable q.1.cls q.2 ∈ tables_1 ∧ Cond.privateMethod q.1 ∈ tables_1 ∧ Cond.instanceMethod q.1 ∈ tables_1
theorem lw_p0 : lw_okq (⟨"BurdenCourt$Reader", "isSound", "()Z"⟩, 6) := ⟨⟨by decide +kernel, by decide +kernel⟩, List.mem_of_getElem? (i := 41) (by decide +kernel), List.mem_of_getElem? (i := 217) (by decide +kernel), List.mem_of_getElem? (i := 218) (by decide +kernel)⟩
theorem lw_p1 : lw_okq (⟨"BurdenCourt$Reader", "nextSign", "()I"⟩, 6) := ⟨⟨by decide +kernel, by decide +kernel⟩, List.mem_of_getElem? (i := 41) (by decide +kernel), List.mem_of_getElem? (i := 221) (by decide +kernel), List.mem_of_getElem? (i := 222) (by decide +kernel)⟩
theorem lw_p2 : lw_okq (⟨"BurdenCourt$Reader", "readLine", "(LBurdenCourt$Statutes;)V"⟩, 6) := ⟨⟨by decide +kernel, by decide +kernel⟩, List.mem_of_getElem? (i := 41) (by decide +kernel), List.mem_of_getElem? (i := 232) (by decide +kernel), List.mem_of_getElem? (i := 233) (by decide +kernel)⟩
theorem lw_p3 : lw_okq (⟨"BurdenCourt$Reader", "passSettingWord", "()I"⟩, 6) := ⟨⟨by decide +kernel, by decide +kernel⟩, List.mem_of_getElem? (i := 41) (by decide +kernel), List.mem_of_getElem? (i := 236) (by decide +kernel), List.mem_of_getElem? (i := 237) (by decide +kernel)⟩
theorem lw_p4 : lw_okq (⟨"BurdenCourt$Reader", "passWord", "(Ljava/lang/String;)Z"⟩, 6) := ⟨⟨by decide +kernel, by decide +kernel⟩, List.mem_of_getElem? (i := 41) (by decide +kernel), List.mem_of_getElem? (i := 247) (by decide +kernel), List.mem_of_getElem? (i := 248) (by decide +kernel)⟩
theorem lw_p5 : lw_okq (⟨"BurdenCourt$Reader", "readBurden", "(LBurdenCourt$Statutes;)V"⟩, 6) := ⟨⟨by decide +kernel, by decide +kernel⟩, List.mem_of_getElem? (i := 41) (by decide +kernel), List.mem_of_getElem? (i := 302) (by decide +kernel), List.mem_of_getElem? (i := 303) (by decide +kernel)⟩
theorem lw_p6 : lw_okq (⟨"BurdenCourt$Reader", "expectWord", "(Ljava/lang/String;)V"⟩, 6) := ⟨⟨by decide +kernel, by decide +kernel⟩, List.mem_of_getElem? (i := 41) (by decide +kernel), List.mem_of_getElem? (i := 307) (by decide +kernel), List.mem_of_getElem? (i := 308) (by decide +kernel)⟩
theorem lw_p7 : lw_okq (⟨"BurdenCourt$Reader", "blame", "(II)V"⟩, 6) := ⟨⟨by decide +kernel, by decide +kernel⟩, List.mem_of_getElem? (i := 41) (by decide +kernel), List.mem_of_getElem? (i := 311) (by decide +kernel), List.mem_of_getElem? (i := 312) (by decide +kernel)⟩
theorem lw_p8 : lw_okq (⟨"BurdenCourt$Reader", "expectNewName", "(LBurdenCourt$Statutes;)I"⟩, 6) := ⟨⟨by decide +kernel, by decide +kernel⟩, List.mem_of_getElem? (i := 41) (by decide +kernel), List.mem_of_getElem? (i := 315) (by decide +kernel), List.mem_of_getElem? (i := 316) (by decide +kernel)⟩
theorem lw_p9 : lw_okq (⟨"BurdenCourt$Statutes", "shareOf", "(I)I"⟩, 5) := ⟨⟨by decide +kernel, by decide +kernel⟩, List.mem_of_getElem? (i := 133) (by decide +kernel), List.mem_of_getElem? (i := 323) (by decide +kernel), List.mem_of_getElem? (i := 324) (by decide +kernel)⟩
theorem lw_p10 : lw_okq (⟨"BurdenCourt$Reader", "expectNumber", "(II)I"⟩, 6) := ⟨⟨by decide +kernel, by decide +kernel⟩, List.mem_of_getElem? (i := 41) (by decide +kernel), List.mem_of_getElem? (i := 328) (by decide +kernel), List.mem_of_getElem? (i := 329) (by decide +kernel)⟩
theorem lw_p11 : lw_okq (⟨"BurdenCourt$Reader", "expectSemicolon", "()V"⟩, 6) := ⟨⟨by decide +kernel, by decide +kernel⟩, List.mem_of_getElem? (i := 41) (by decide +kernel), List.mem_of_getElem? (i := 352) (by decide +kernel), List.mem_of_getElem? (i := 353) (by decide +kernel)⟩
theorem lw_p12 : lw_okq (⟨"BurdenCourt$Roll", "rankOf", "(I)I"⟩, 8) := ⟨⟨by decide +kernel, by decide +kernel⟩, List.mem_of_getElem? (i := 67) (by decide +kernel), List.mem_of_getElem? (i := 417) (by decide +kernel), List.mem_of_getElem? (i := 418) (by decide +kernel)⟩
theorem lw_p13 : lw_okq (⟨"BurdenCourt$Roll", "richestFit", "(LBurdenCourt$Statutes;I)I"⟩, 8) := ⟨⟨by decide +kernel, by decide +kernel⟩, List.mem_of_getElem? (i := 67) (by decide +kernel), List.mem_of_getElem? (i := 458) (by decide +kernel), List.mem_of_getElem? (i := 459) (by decide +kernel)⟩
theorem lw_p14 : lw_okq (⟨"BurdenCourt$Roll", "layOn", "(II)V"⟩, 8) := ⟨⟨by decide +kernel, by decide +kernel⟩, List.mem_of_getElem? (i := 67) (by decide +kernel), List.mem_of_getElem? (i := 470) (by decide +kernel), List.mem_of_getElem? (i := 471) (by decide +kernel)⟩
theorem lw_p15 : lw_okq (⟨"BurdenCourt$Docket", "isRunning", "(I)Z"⟩, 9) := ⟨⟨by decide +kernel, by decide +kernel⟩, List.mem_of_getElem? (i := 99) (by decide +kernel), List.mem_of_getElem? (i := 482) (by decide +kernel), List.mem_of_getElem? (i := 483) (by decide +kernel)⟩
def lw_privs_1 : List (MethodName × Nat) := [(⟨"BurdenCourt$Reader", "isSound", "()Z"⟩, 6), (⟨"BurdenCourt$Reader", "nextSign", "()I"⟩, 6), (⟨"BurdenCourt$Reader", "readLine", "(LBurdenCourt$Statutes;)V"⟩, 6), (⟨"BurdenCourt$Reader", "passSettingWord", "()I"⟩, 6), (⟨"BurdenCourt$Reader", "passWord", "(Ljava/lang/String;)Z"⟩, 6), (⟨"BurdenCourt$Reader", "readBurden", "(LBurdenCourt$Statutes;)V"⟩, 6), (⟨"BurdenCourt$Reader", "expectWord", "(Ljava/lang/String;)V"⟩, 6), (⟨"BurdenCourt$Reader", "blame", "(II)V"⟩, 6), (⟨"BurdenCourt$Reader", "expectNewName", "(LBurdenCourt$Statutes;)I"⟩, 6), (⟨"BurdenCourt$Statutes", "shareOf", "(I)I"⟩, 5), (⟨"BurdenCourt$Reader", "expectNumber", "(II)I"⟩, 6), (⟨"BurdenCourt$Reader", "expectSemicolon", "()V"⟩, 6), (⟨"BurdenCourt$Roll", "rankOf", "(I)I"⟩, 8), (⟨"BurdenCourt$Roll", "richestFit", "(LBurdenCourt$Statutes;I)I"⟩, 8), (⟨"BurdenCourt$Roll", "layOn", "(II)V"⟩, 8), (⟨"BurdenCourt$Docket", "isRunning", "(I)Z"⟩, 9)]
theorem lw_r1 : ∀ q ∈ lw_privs_1, lw_okq q := List.forall_mem_cons.mpr ⟨lw_p0, List.forall_mem_cons.mpr ⟨lw_p1, List.forall_mem_cons.mpr ⟨lw_p2, List.forall_mem_cons.mpr ⟨lw_p3, List.forall_mem_cons.mpr ⟨lw_p4, List.forall_mem_cons.mpr ⟨lw_p5, List.forall_mem_cons.mpr ⟨lw_p6, List.forall_mem_cons.mpr ⟨lw_p7, List.forall_mem_cons.mpr ⟨lw_p8, List.forall_mem_cons.mpr ⟨lw_p9, List.forall_mem_cons.mpr ⟨lw_p10, List.forall_mem_cons.mpr ⟨lw_p11, List.forall_mem_cons.mpr ⟨lw_p12, List.forall_mem_cons.mpr ⟨lw_p13, List.forall_mem_cons.mpr ⟨lw_p14, List.forall_mem_cons.mpr ⟨lw_p15, fun _ h => absurd h List.not_mem_nil⟩⟩⟩⟩⟩⟩⟩⟩⟩⟩⟩⟩⟩⟩⟩⟩
theorem lw_p16 : lw_okq (⟨"BurdenCourt$Docket", "has", "(I)Z"⟩, 9) := ⟨⟨by decide +kernel, by decide +kernel⟩, List.mem_of_getElem? (i := 99) (by decide +kernel), List.mem_of_getElem? (i := 490) (by decide +kernel), List.mem_of_getElem? (i := 491) (by decide +kernel)⟩
theorem lw_p17 : lw_okq (⟨"BurdenCourt$Docket", "judge", "(ILBurdenCourt$Roll;)V"⟩, 9) := ⟨⟨by decide +kernel, by decide +kernel⟩, List.mem_of_getElem? (i := 99) (by decide +kernel), List.mem_of_getElem? (i := 494) (by decide +kernel), List.mem_of_getElem? (i := 495) (by decide +kernel)⟩
theorem lw_p18 : lw_okq (⟨"BurdenCourt$Docket", "verdictOn", "(ILBurdenCourt$Roll;)I"⟩, 9) := ⟨⟨by decide +kernel, by decide +kernel⟩, List.mem_of_getElem? (i := 99) (by decide +kernel), List.mem_of_getElem? (i := 498) (by decide +kernel), List.mem_of_getElem? (i := 499) (by decide +kernel)⟩
theorem lw_p19 : lw_okq (⟨"BurdenCourt$Docket", "carryOut", "(IILBurdenCourt$Roll;)V"⟩, 9) := ⟨⟨by decide +kernel, by decide +kernel⟩, List.mem_of_getElem? (i := 99) (by decide +kernel), List.mem_of_getElem? (i := 503) (by decide +kernel), List.mem_of_getElem? (i := 504) (by decide +kernel)⟩
theorem lw_p20 : lw_okq (⟨"BurdenCourt", "isFitNow", "(I)Z"⟩, 11) := ⟨⟨by decide +kernel, by decide +kernel⟩, List.mem_of_getElem? (i := 19) (by decide +kernel), List.mem_of_getElem? (i := 523) (by decide +kernel), List.mem_of_getElem? (i := 524) (by decide +kernel)⟩
theorem lw_p21 : lw_okq (⟨"BurdenCourt$Roll", "layDownAll", "()V"⟩, 8) := ⟨⟨by decide +kernel, by decide +kernel⟩, List.mem_of_getElem? (i := 67) (by decide +kernel), List.mem_of_getElem? (i := 616) (by decide +kernel), List.mem_of_getElem? (i := 617) (by decide +kernel)⟩
theorem lw_p22 : lw_okq (⟨"java/lang/Throwable", "fillInStackTrace", "(I)Ljava/lang/Throwable;"⟩, 6) := ⟨⟨by decide +kernel, by decide +kernel⟩, List.mem_of_getElem? (i := 705) (by decide +kernel), List.mem_of_getElem? (i := 703) (by decide +kernel), List.mem_of_getElem? (i := 704) (by decide +kernel)⟩
theorem lw_p23 : lw_okq (⟨"BurdenCourtModel", "take", "()V"⟩, 37) := ⟨⟨by decide +kernel, by decide +kernel⟩, List.mem_of_getElem? (i := 759) (by decide +kernel), List.mem_of_getElem? (i := 889) (by decide +kernel), List.mem_of_getElem? (i := 890) (by decide +kernel)⟩
theorem lw_p24 : lw_okq (⟨"BurdenCourtModel", "isSmall", "(I)Z"⟩, 37) := ⟨⟨by decide +kernel, by decide +kernel⟩, List.mem_of_getElem? (i := 759) (by decide +kernel), List.mem_of_getElem? (i := 893) (by decide +kernel), List.mem_of_getElem? (i := 894) (by decide +kernel)⟩
theorem lw_p25 : lw_okq (⟨"BurdenCourtModel", "wordAt", "(II)I"⟩, 37) := ⟨⟨by decide +kernel, by decide +kernel⟩, List.mem_of_getElem? (i := 759) (by decide +kernel), List.mem_of_getElem? (i := 897) (by decide +kernel), List.mem_of_getElem? (i := 898) (by decide +kernel)⟩
theorem lw_p26 : lw_okq (⟨"BurdenCourtModel", "isDigit", "(I)Z"⟩, 37) := ⟨⟨by decide +kernel, by decide +kernel⟩, List.mem_of_getElem? (i := 759) (by decide +kernel), List.mem_of_getElem? (i := 901) (by decide +kernel), List.mem_of_getElem? (i := 902) (by decide +kernel)⟩
theorem lw_p27 : lw_okq (⟨"BurdenCourtModel", "line", "()Z"⟩, 37) := ⟨⟨by decide +kernel, by decide +kernel⟩, List.mem_of_getElem? (i := 759) (by decide +kernel), List.mem_of_getElem? (i := 906) (by decide +kernel), List.mem_of_getElem? (i := 907) (by decide +kernel)⟩
theorem lw_p28 : lw_okq (⟨"BurdenCourtModel", "wrong", "(II)Z"⟩, 37) := ⟨⟨by decide +kernel, by decide +kernel⟩, List.mem_of_getElem? (i := 759) (by decide +kernel), List.mem_of_getElem? (i := 910) (by decide +kernel), List.mem_of_getElem? (i := 911) (by decide +kernel)⟩
theorem lw_p29 : lw_okq (⟨"BurdenCourtModel", "burdenLine", "()Z"⟩, 37) := ⟨⟨by decide +kernel, by decide +kernel⟩, List.mem_of_getElem? (i := 759) (by decide +kernel), List.mem_of_getElem? (i := 914) (by decide +kernel), List.mem_of_getElem? (i := 915) (by decide +kernel)⟩
theorem lw_p30 : lw_okq (⟨"BurdenCourtModel", "word", "(I)Z"⟩, 37) := ⟨⟨by decide +kernel, by decide +kernel⟩, List.mem_of_getElem? (i := 759) (by decide +kernel), List.mem_of_getElem? (i := 918) (by decide +kernel), List.mem_of_getElem? (i := 919) (by decide +kernel)⟩
theorem lw_p31 : lw_okq (⟨"BurdenCourtModel", "number", "(II)Z"⟩, 37) := ⟨⟨by decide +kernel, by decide +kernel⟩, List.mem_of_getElem? (i := 759) (by decide +kernel), List.mem_of_getElem? (i := 922) (by decide +kernel), List.mem_of_getElem? (i := 923) (by decide +kernel)⟩
def lw_privs_2 : List (MethodName × Nat) := [(⟨"BurdenCourt$Docket", "has", "(I)Z"⟩, 9), (⟨"BurdenCourt$Docket", "judge", "(ILBurdenCourt$Roll;)V"⟩, 9), (⟨"BurdenCourt$Docket", "verdictOn", "(ILBurdenCourt$Roll;)I"⟩, 9), (⟨"BurdenCourt$Docket", "carryOut", "(IILBurdenCourt$Roll;)V"⟩, 9), (⟨"BurdenCourt", "isFitNow", "(I)Z"⟩, 11), (⟨"BurdenCourt$Roll", "layDownAll", "()V"⟩, 8), (⟨"java/lang/Throwable", "fillInStackTrace", "(I)Ljava/lang/Throwable;"⟩, 6), (⟨"BurdenCourtModel", "take", "()V"⟩, 37), (⟨"BurdenCourtModel", "isSmall", "(I)Z"⟩, 37), (⟨"BurdenCourtModel", "wordAt", "(II)I"⟩, 37), (⟨"BurdenCourtModel", "isDigit", "(I)Z"⟩, 37), (⟨"BurdenCourtModel", "line", "()Z"⟩, 37), (⟨"BurdenCourtModel", "wrong", "(II)Z"⟩, 37), (⟨"BurdenCourtModel", "burdenLine", "()Z"⟩, 37), (⟨"BurdenCourtModel", "word", "(I)Z"⟩, 37), (⟨"BurdenCourtModel", "number", "(II)Z"⟩, 37)]
theorem lw_r2 : ∀ q ∈ lw_privs_2, lw_okq q := List.forall_mem_cons.mpr ⟨lw_p16, List.forall_mem_cons.mpr ⟨lw_p17, List.forall_mem_cons.mpr ⟨lw_p18, List.forall_mem_cons.mpr ⟨lw_p19, List.forall_mem_cons.mpr ⟨lw_p20, List.forall_mem_cons.mpr ⟨lw_p21, List.forall_mem_cons.mpr ⟨lw_p22, List.forall_mem_cons.mpr ⟨lw_p23, List.forall_mem_cons.mpr ⟨lw_p24, List.forall_mem_cons.mpr ⟨lw_p25, List.forall_mem_cons.mpr ⟨lw_p26, List.forall_mem_cons.mpr ⟨lw_p27, List.forall_mem_cons.mpr ⟨lw_p28, List.forall_mem_cons.mpr ⟨lw_p29, List.forall_mem_cons.mpr ⟨lw_p30, List.forall_mem_cons.mpr ⟨lw_p31, fun _ h => absurd h List.not_mem_nil⟩⟩⟩⟩⟩⟩⟩⟩⟩⟩⟩⟩⟩⟩⟩⟩
theorem lw_p32 : lw_okq (⟨"BurdenCourtModel", "isMan", "(I)Z"⟩, 37) := ⟨⟨by decide +kernel, by decide +kernel⟩, List.mem_of_getElem? (i := 759) (by decide +kernel), List.mem_of_getElem? (i := 939) (by decide +kernel), List.mem_of_getElem? (i := 940) (by decide +kernel)⟩
theorem lw_p33 : lw_okq (⟨"BurdenCourtModel", "fails", "(I)I"⟩, 37) := ⟨⟨by decide +kernel, by decide +kernel⟩, List.mem_of_getElem? (i := 759) (by decide +kernel), List.mem_of_getElem? (i := 947) (by decide +kernel), List.mem_of_getElem? (i := 948) (by decide +kernel)⟩
theorem lw_p34 : lw_okq (⟨"BurdenCourtModel", "bears", "(II)I"⟩, 37) := ⟨⟨by decide +kernel, by decide +kernel⟩, List.mem_of_getElem? (i := 759) (by decide +kernel), List.mem_of_getElem? (i := 951) (by decide +kernel), List.mem_of_getElem? (i := 952) (by decide +kernel)⟩
theorem lw_p35 : lw_okq (⟨"BurdenCourtModel", "isFit", "(IIII)Z"⟩, 37) := ⟨⟨by decide +kernel, by decide +kernel⟩, List.mem_of_getElem? (i := 759) (by decide +kernel), List.mem_of_getElem? (i := 955) (by decide +kernel), List.mem_of_getElem? (i := 956) (by decide +kernel)⟩
theorem lw_p36 : lw_okq (⟨"BurdenCourtModel", "fill", "(III)I"⟩, 37) := ⟨⟨by decide +kernel, by decide +kernel⟩, List.mem_of_getElem? (i := 759) (by decide +kernel), List.mem_of_getElem? (i := 971) (by decide +kernel), List.mem_of_getElem? (i := 972) (by decide +kernel)⟩
theorem lw_p37 : lw_okq (⟨"BurdenCourtModel", "isOpen", "(I)Z"⟩, 37) := ⟨⟨by decide +kernel, by decide +kernel⟩, List.mem_of_getElem? (i := 759) (by decide +kernel), List.mem_of_getElem? (i := 979) (by decide +kernel), List.mem_of_getElem? (i := 980) (by decide +kernel)⟩
theorem lw_p38 : lw_okq (⟨"BurdenCourtModel", "judge", "(I)V"⟩, 37) := ⟨⟨by decide +kernel, by decide +kernel⟩, List.mem_of_getElem? (i := 759) (by decide +kernel), List.mem_of_getElem? (i := 983) (by decide +kernel), List.mem_of_getElem? (i := 984) (by decide +kernel)⟩
theorem lw_p39 : lw_okq (⟨"BurdenCourtModel", "goesOver", "(I)Z"⟩, 37) := ⟨⟨by decide +kernel, by decide +kernel⟩, List.mem_of_getElem? (i := 759) (by decide +kernel), List.mem_of_getElem? (i := 987) (by decide +kernel), List.mem_of_getElem? (i := 988) (by decide +kernel)⟩
theorem lw_p40 : lw_okq (⟨"BurdenCourtModel", "over", "(I)V"⟩, 37) := ⟨⟨by decide +kernel, by decide +kernel⟩, List.mem_of_getElem? (i := 759) (by decide +kernel), List.mem_of_getElem? (i := 991) (by decide +kernel), List.mem_of_getElem? (i := 992) (by decide +kernel)⟩
theorem lw_p41 : lw_okq (⟨"BurdenCourtModel", "ends", "(III)I"⟩, 37) := ⟨⟨by decide +kernel, by decide +kernel⟩, List.mem_of_getElem? (i := 759) (by decide +kernel), List.mem_of_getElem? (i := 1015) (by decide +kernel), List.mem_of_getElem? (i := 1016) (by decide +kernel)⟩
theorem lw_p42 : lw_okq (⟨"BurdenCourtModel", "pays", "(II)I"⟩, 37) := ⟨⟨by decide +kernel, by decide +kernel⟩, List.mem_of_getElem? (i := 759) (by decide +kernel), List.mem_of_getElem? (i := 1019) (by decide +kernel), List.mem_of_getElem? (i := 1020) (by decide +kernel)⟩
def lw_privs_3 : List (MethodName × Nat) := [(⟨"BurdenCourtModel", "isMan", "(I)Z"⟩, 37), (⟨"BurdenCourtModel", "fails", "(I)I"⟩, 37), (⟨"BurdenCourtModel", "bears", "(II)I"⟩, 37), (⟨"BurdenCourtModel", "isFit", "(IIII)Z"⟩, 37), (⟨"BurdenCourtModel", "fill", "(III)I"⟩, 37), (⟨"BurdenCourtModel", "isOpen", "(I)Z"⟩, 37), (⟨"BurdenCourtModel", "judge", "(I)V"⟩, 37), (⟨"BurdenCourtModel", "goesOver", "(I)Z"⟩, 37), (⟨"BurdenCourtModel", "over", "(I)V"⟩, 37), (⟨"BurdenCourtModel", "ends", "(III)I"⟩, 37), (⟨"BurdenCourtModel", "pays", "(II)I"⟩, 37)]
theorem lw_r3 : ∀ q ∈ lw_privs_3, lw_okq q := List.forall_mem_cons.mpr ⟨lw_p32, List.forall_mem_cons.mpr ⟨lw_p33, List.forall_mem_cons.mpr ⟨lw_p34, List.forall_mem_cons.mpr ⟨lw_p35, List.forall_mem_cons.mpr ⟨lw_p36, List.forall_mem_cons.mpr ⟨lw_p37, List.forall_mem_cons.mpr ⟨lw_p38, List.forall_mem_cons.mpr ⟨lw_p39, List.forall_mem_cons.mpr ⟨lw_p40, List.forall_mem_cons.mpr ⟨lw_p41, List.forall_mem_cons.mpr ⟨lw_p42, fun _ h => absurd h List.not_mem_nil⟩⟩⟩⟩⟩⟩⟩⟩⟩⟩⟩
def lw_privs : List (MethodName × Nat) := lw_privs_1 ++ (lw_privs_2 ++ (lw_privs_3))
def lw_tbl : List Cond := k2_sels lw_privs ++ tables_1
theorem lw_privs_ok : ∀ q ∈ lw_privs, lw_okq q := by
  show ∀ q ∈ lw_privs_1 ++ (lw_privs_2 ++ (lw_privs_3)), lw_okq q
  exact List.forall_mem_append.mpr ⟨lw_r1, List.forall_mem_append.mpr ⟨lw_r2, lw_r3⟩⟩
end
section
def RX0 : String := "BurdenCourt$Docket"
def TX0 : u_T := fun k => match k with
  | 0 => ("BurdenCourt$Docket", "sayer", "[I", true)
  | 1 => ("BurdenCourt$Docket", "hearer", "[I", true)
  | 2 => ("BurdenCourt$Docket", "placeIn", "[I", true)
  | 3 => ("BurdenCourt$Docket", "dayOf", "[I", true)
  | 4 => ("BurdenCourt$Docket", "standing", "[I", true)
  | 5 => ("BurdenCourt$Docket", "lastDay", "[I", true)
  | 6 => ("BurdenCourt$Docket", "sayerSwore", "[Z", true)
  | 7 => ("BurdenCourt$Docket", "hearerSwore", "[Z", true)
  | _ => ("BurdenCourt$Docket", "size", "I", false)
def tyX0 : Nat → FieldType := fun k => match k with
  | 0 => .array .int
  | 1 => .array .int
  | 2 => .array .int
  | 3 => .array .int
  | 4 => .array .int
  | 5 => .array .int
  | 6 => .array .boolean
  | 7 => .array .boolean
  | _ => .int
abbrev wsX00 : List Cond := u_ws RX0 TX0 9
theorem nmX0 : ∀ a, a < 9 → ∀ b, b < 9 → a ≠ b → (TX0 a).2.1 ≠ (TX0 b).2.1 := by decide +kernel
theorem tyX0_ok : ∀ k, k < 9 → parseFieldDescriptor (TX0 k).2.2.1 = some (tyX0 k) := by decide +kernel
abbrev cX0_init : ByteArray := prog_2_method_1_code
def yX0_init : MethodName := ⟨RX0, "<init>", "()V"⟩
abbrev cX0_size : ByteArray := prog_2_method_2_code
def yX0_size : MethodName := ⟨RX0, "size", "()I"⟩
abbrev cX0_clear : ByteArray := prog_2_method_3_code
def yX0_clear : MethodName := ⟨RX0, "clear", "()V"⟩
abbrev cX0_hasRoom : ByteArray := prog_2_method_4_code
def yX0_hasRoom : MethodName := ⟨RX0, "hasRoom", "()Z"⟩
abbrev cX0_enter : ByteArray := prog_2_method_5_code
def yX0_enter : MethodName := ⟨RX0, "enter", "(IIIII)I"⟩
abbrev cX0_sayerOf : ByteArray := prog_2_method_6_code
def yX0_sayerOf : MethodName := ⟨RX0, "sayerOf", "(I)I"⟩
abbrev cX0_hearerOf : ByteArray := prog_2_method_7_code
def yX0_hearerOf : MethodName := ⟨RX0, "hearerOf", "(I)I"⟩
abbrev cX0_placeIn : ByteArray := prog_2_method_8_code
def yX0_placeIn : MethodName := ⟨RX0, "placeIn", "(I)I"⟩
abbrev cX0_dayOf : ByteArray := prog_2_method_9_code
def yX0_dayOf : MethodName := ⟨RX0, "dayOf", "(I)I"⟩
abbrev cX0_standingOf : ByteArray := prog_2_method_10_code
def yX0_standingOf : MethodName := ⟨RX0, "standingOf", "(I)I"⟩
abbrev cX0_lastDayOf : ByteArray := prog_2_method_11_code
def yX0_lastDayOf : MethodName := ⟨RX0, "lastDayOf", "(I)I"⟩
abbrev cX0_engages : ByteArray := prog_2_method_12_code
def yX0_engages : MethodName := ⟨RX0, "engages", "(I)Z"⟩
abbrev cX0_take : ByteArray := prog_2_method_13_code
def yX0_take : MethodName := ⟨RX0, "take", "(ILBurdenCourt$Roll;)V"⟩
abbrev cX0_change : ByteArray := prog_2_method_14_code
def yX0_change : MethodName := ⟨RX0, "change", "(II)V"⟩
abbrev cX0_hasSworn : ByteArray := prog_2_method_15_code
def yX0_hasSworn : MethodName := ⟨RX0, "hasSworn", "(IZ)Z"⟩
abbrev cX0_hearOath : ByteArray := prog_2_method_16_code
def yX0_hearOath : MethodName := ⟨RX0, "hearOath", "(IZLBurdenCourt$Roll;)V"⟩
abbrev cX0_judgeBeyond : ByteArray := prog_2_method_17_code
def yX0_judgeBeyond : MethodName := ⟨RX0, "judgeBeyond", "(ILBurdenCourt$Roll;)V"⟩
abbrev cX0_judgeAll : ByteArray := prog_2_method_18_code
def yX0_judgeAll : MethodName := ⟨RX0, "judgeAll", "(LBurdenCourt$Roll;)V"⟩
abbrev cX0_foreseeVerdicts : ByteArray := prog_2_method_19_code
def yX0_foreseeVerdicts : MethodName := ⟨RX0, "foreseeVerdicts", "(LBurdenCourt$Roll;)V"⟩
abbrev cX0_judge : ByteArray := prog_2_method_20_code
def yX0_judge : MethodName := ⟨RX0, "judge", "(ILBurdenCourt$Roll;)V"⟩
abbrev cX0_verdictOn : ByteArray := prog_2_method_21_code
def yX0_verdictOn : MethodName := ⟨RX0, "verdictOn", "(ILBurdenCourt$Roll;)I"⟩
abbrev cX0_carryOut : ByteArray := prog_2_method_22_code
def yX0_carryOut : MethodName := ⟨RX0, "carryOut", "(IILBurdenCourt$Roll;)V"⟩
abbrev cX0_isRunning : ByteArray := prog_2_method_23_code
def yX0_isRunning : MethodName := ⟨RX0, "isRunning", "(I)Z"⟩
abbrev cX0_has : ByteArray := prog_2_method_24_code
def yX0_has : MethodName := ⟨RX0, "has", "(I)Z"⟩
def RX1 : String := "BurdenCourt$Reader"
def TX1 : u_T := fun k => match k with
  | 0 => ("BurdenCourt$Reader", "tape", "LBurdenCourt$Tape;", true)
  | 1 => ("BurdenCourt$Reader", "settingTold", "[Z", true)
  | 2 => ("BurdenCourt$Reader", "end", "I", false)
  | 3 => ("BurdenCourt$Reader", "spot", "I", false)
  | 4 => ("BurdenCourt$Reader", "faultKind", "I", false)
  | _ => ("BurdenCourt$Reader", "faultPlace", "I", false)
def tyX1 : Nat → FieldType := fun k => match k with
  | 0 => .object "BurdenCourt$Tape"
  | 1 => .array .boolean
  | 2 => .int
  | 3 => .int
  | 4 => .int
  | _ => .int
abbrev wsX10 : List Cond := u_ws RX1 TX1 6
theorem nmX1 : ∀ a, a < 6 → ∀ b, b < 6 → a ≠ b → (TX1 a).2.1 ≠ (TX1 b).2.1 := by decide +kernel
theorem tyX1_ok : ∀ k, k < 6 → parseFieldDescriptor (TX1 k).2.2.1 = some (tyX1 k) := by decide +kernel
abbrev cX1_init : ByteArray := prog_3_method_1_code
def yX1_init : MethodName := ⟨RX1, "<init>", "(LBurdenCourt$Tape;)V"⟩
abbrev cX1_faultKind : ByteArray := prog_3_method_2_code
def yX1_faultKind : MethodName := ⟨RX1, "faultKind", "()I"⟩
abbrev cX1_faultPlace : ByteArray := prog_3_method_3_code
def yX1_faultPlace : MethodName := ⟨RX1, "faultPlace", "()I"⟩
abbrev cX1_read : ByteArray := prog_3_method_4_code
def yX1_read : MethodName := ⟨RX1, "read", "(ILBurdenCourt$Statutes;)Z"⟩
abbrev cX1_isSound : ByteArray := prog_3_method_5_code
def yX1_isSound : MethodName := ⟨RX1, "isSound", "()Z"⟩
abbrev cX1_blame : ByteArray := prog_3_method_6_code
def yX1_blame : MethodName := ⟨RX1, "blame", "(II)V"⟩
abbrev cX1_readLine : ByteArray := prog_3_method_7_code
def yX1_readLine : MethodName := ⟨RX1, "readLine", "(LBurdenCourt$Statutes;)V"⟩
abbrev cX1_readBurden : ByteArray := prog_3_method_8_code
def yX1_readBurden : MethodName := ⟨RX1, "readBurden", "(LBurdenCourt$Statutes;)V"⟩
abbrev cX1_passSettingWord : ByteArray := prog_3_method_9_code
def yX1_passSettingWord : MethodName := ⟨RX1, "passSettingWord", "()I"⟩
abbrev cX1_expectWord : ByteArray := prog_3_method_10_code
def yX1_expectWord : MethodName := ⟨RX1, "expectWord", "(Ljava/lang/String;)V"⟩
abbrev cX1_expectNewName : ByteArray := prog_3_method_11_code
def yX1_expectNewName : MethodName := ⟨RX1, "expectNewName", "(LBurdenCourt$Statutes;)I"⟩
abbrev cX1_expectNumber : ByteArray := prog_3_method_12_code
def yX1_expectNumber : MethodName := ⟨RX1, "expectNumber", "(II)I"⟩
abbrev cX1_expectSemicolon : ByteArray := prog_3_method_13_code
def yX1_expectSemicolon : MethodName := ⟨RX1, "expectSemicolon", "()V"⟩
abbrev cX1_nextSign : ByteArray := prog_3_method_14_code
def yX1_nextSign : MethodName := ⟨RX1, "nextSign", "()I"⟩
abbrev cX1_passWord : ByteArray := prog_3_method_15_code
def yX1_passWord : MethodName := ⟨RX1, "passWord", "(Ljava/lang/String;)Z"⟩
abbrev cX1_wordOf : ByteArray := prog_3_method_16_code
def yX1_wordOf : MethodName := ⟨RX1, "wordOf", "(I)Ljava/lang/String;"⟩
abbrev cX1_mostOf : ByteArray := prog_3_method_17_code
def yX1_mostOf : MethodName := ⟨RX1, "mostOf", "(I)I"⟩
abbrev cX1_isBlank : ByteArray := prog_3_method_18_code
def yX1_isBlank : MethodName := ⟨RX1, "isBlank", "(I)Z"⟩
abbrev cX1_isDigit : ByteArray := prog_3_method_19_code
def yX1_isDigit : MethodName := ⟨RX1, "isDigit", "(I)Z"⟩
abbrev cX1_isSmallLetter : ByteArray := prog_3_method_20_code
def yX1_isSmallLetter : MethodName := ⟨RX1, "isSmallLetter", "(I)Z"⟩
def RX2 : String := "BurdenCourt$Roll"
def TX2 : u_T := fun k => match k with
  | 0 => ("BurdenCourt$Roll", "declared", "[I", true)
  | 1 => ("BurdenCourt$Roll", "hidden", "[I", true)
  | 2 => ("BurdenCourt$Roll", "freeFrom", "[I", true)
  | 3 => ("BurdenCourt$Roll", "yearsBorne", "[I", true)
  | 4 => ("BurdenCourt$Roll", "placeOf", "[I", true)
  | 5 => ("BurdenCourt$Roll", "bearerAt", "[I", true)
  | 6 => ("BurdenCourt$Roll", "haveBorne", "[I", true)
  | _ => ("BurdenCourt$Roll", "size", "I", false)
def tyX2 : Nat → FieldType := fun k => match k with
  | 0 => .array .int
  | 1 => .array .int
  | 2 => .array .int
  | 3 => .array .int
  | 4 => .array .int
  | 5 => .array .int
  | 6 => .array .int
  | _ => .int
abbrev wsX20 : List Cond := u_ws RX2 TX2 8
theorem nmX2 : ∀ a, a < 8 → ∀ b, b < 8 → a ≠ b → (TX2 a).2.1 ≠ (TX2 b).2.1 := by decide +kernel
theorem tyX2_ok : ∀ k, k < 8 → parseFieldDescriptor (TX2 k).2.2.1 = some (tyX2 k) := by decide +kernel
abbrev cX2_init : ByteArray := prog_4_method_1_code
def yX2_init : MethodName := ⟨RX2, "<init>", "()V"⟩
abbrev cX2_copyFrom : ByteArray := prog_4_method_2_code
def yX2_copyFrom : MethodName := ⟨RX2, "copyFrom", "(LBurdenCourt$Roll;)V"⟩
abbrev cX2_size : ByteArray := prog_4_method_3_code
def yX2_size : MethodName := ⟨RX2, "size", "()I"⟩
abbrev cX2_has : ByteArray := prog_4_method_4_code
def yX2_has : MethodName := ⟨RX2, "has", "(I)Z"⟩
abbrev cX2_enter : ByteArray := prog_4_method_5_code
def yX2_enter : MethodName := ⟨RX2, "enter", "(II)I"⟩
abbrev cX2_declaredOf : ByteArray := prog_4_method_6_code
def yX2_declaredOf : MethodName := ⟨RX2, "declaredOf", "(I)I"⟩
abbrev cX2_hiddenOf : ByteArray := prog_4_method_7_code
def yX2_hiddenOf : MethodName := ⟨RX2, "hiddenOf", "(I)I"⟩
abbrev cX2_worthOf : ByteArray := prog_4_method_8_code
def yX2_worthOf : MethodName := ⟨RX2, "worthOf", "(I)I"⟩
abbrev cX2_placeOf : ByteArray := prog_4_method_9_code
def yX2_placeOf : MethodName := ⟨RX2, "placeOf", "(I)I"⟩
abbrev cX2_freeFromOf : ByteArray := prog_4_method_10_code
def yX2_freeFromOf : MethodName := ⟨RX2, "freeFromOf", "(I)I"⟩
abbrev cX2_yearsBorneOf : ByteArray := prog_4_method_11_code
def yX2_yearsBorneOf : MethodName := ⟨RX2, "yearsBorneOf", "(I)I"⟩
abbrev cX2_bearerAt : ByteArray := prog_4_method_12_code
def yX2_bearerAt : MethodName := ⟨RX2, "bearerAt", "(I)I"⟩
abbrev cX2_hasBorne : ByteArray := prog_4_method_13_code
def yX2_hasBorne : MethodName := ⟨RX2, "hasBorne", "(II)Z"⟩
abbrev cX2_uncover : ByteArray := prog_4_method_14_code
def yX2_uncover : MethodName := ⟨RX2, "uncover", "(II)V"⟩
abbrev cX2_exchangeEstates : ByteArray := prog_4_method_15_code
def yX2_exchangeEstates : MethodName := ⟨RX2, "exchangeEstates", "(II)V"⟩
abbrev cX2_manOfRank : ByteArray := prog_4_method_16_code
def yX2_manOfRank : MethodName := ⟨RX2, "manOfRank", "(I)I"⟩
abbrev cX2_rankOf : ByteArray := prog_4_method_17_code
def yX2_rankOf : MethodName := ⟨RX2, "rankOf", "(I)I"⟩
abbrev cX2_isFit : ByteArray := prog_4_method_18_code
def yX2_isFit : MethodName := ⟨RX2, "isFit", "(ILBurdenCourt$Statutes;I)Z"⟩
abbrev cX2_fillPlaces : ByteArray := prog_4_method_19_code
def yX2_fillPlaces : MethodName := ⟨RX2, "fillPlaces", "(LBurdenCourt$Statutes;I)I"⟩
abbrev cX2_richestFit : ByteArray := prog_4_method_20_code
def yX2_richestFit : MethodName := ⟨RX2, "richestFit", "(LBurdenCourt$Statutes;I)I"⟩
abbrev cX2_handOver : ByteArray := prog_4_method_21_code
def yX2_handOver : MethodName := ⟨RX2, "handOver", "(III)V"⟩
abbrev cX2_layOn : ByteArray := prog_4_method_22_code
def yX2_layOn : MethodName := ⟨RX2, "layOn", "(II)V"⟩
abbrev cX2_partAt : ByteArray := prog_4_method_23_code
def yX2_partAt : MethodName := ⟨RX2, "partAt", "(LBurdenCourt$Statutes;I)I"⟩
abbrev cX2_settle : ByteArray := prog_4_method_24_code
def yX2_settle : MethodName := ⟨RX2, "settle", "(LBurdenCourt$Statutes;I)I"⟩
abbrev cX2_layDownAll : ByteArray := prog_4_method_25_code
def yX2_layDownAll : MethodName := ⟨RX2, "layDownAll", "()V"⟩
abbrev cX2_isPlace : ByteArray := prog_4_method_26_code
def yX2_isPlace : MethodName := ⟨RX2, "isPlace", "(I)Z"⟩
def RX3 : String := "BurdenCourt$Statutes"
def TX3 : u_T := fun k => match k with
  | 0 => ("BurdenCourt$Statutes", "cost", "[I", true)
  | 1 => ("BurdenCourt$Statutes", "share", "[I", true)
  | 2 => ("BurdenCourt$Statutes", "setting", "[I", true)
  | 3 => ("BurdenCourt$Statutes", "burdenAt", "[I", true)
  | _ => ("BurdenCourt$Statutes", "places", "I", false)
def tyX3 : Nat → FieldType := fun k => match k with
  | 0 => .array .int
  | 1 => .array .int
  | 2 => .array .int
  | 3 => .array .int
  | _ => .int
abbrev wsX30 : List Cond := u_ws RX3 TX3 5
theorem nmX3 : ∀ a, a < 5 → ∀ b, b < 5 → a ≠ b → (TX3 a).2.1 ≠ (TX3 b).2.1 := by decide +kernel
theorem tyX3_ok : ∀ k, k < 5 → parseFieldDescriptor (TX3 k).2.2.1 = some (tyX3 k) := by decide +kernel
abbrev cX3_init : ByteArray := prog_5_method_1_code
def yX3_init : MethodName := ⟨RX3, "<init>", "()V"⟩
abbrev cX3_clear : ByteArray := prog_5_method_2_code
def yX3_clear : MethodName := ⟨RX3, "clear", "()V"⟩
abbrev cX3_hasBurden : ByteArray := prog_5_method_3_code
def yX3_hasBurden : MethodName := ⟨RX3, "hasBurden", "(I)Z"⟩
abbrev cX3_tellBurden : ByteArray := prog_5_method_4_code
def yX3_tellBurden : MethodName := ⟨RX3, "tellBurden", "(III)V"⟩
abbrev cX3_tellSetting : ByteArray := prog_5_method_5_code
def yX3_tellSetting : MethodName := ⟨RX3, "tellSetting", "(II)V"⟩
abbrev cX3_numberPlaces : ByteArray := prog_5_method_6_code
def yX3_numberPlaces : MethodName := ⟨RX3, "numberPlaces", "()V"⟩
abbrev cX3_setting : ByteArray := prog_5_method_7_code
def yX3_setting : MethodName := ⟨RX3, "setting", "(I)I"⟩
abbrev cX3_places : ByteArray := prog_5_method_8_code
def yX3_places : MethodName := ⟨RX3, "places", "()I"⟩
abbrev cX3_hasPlace : ByteArray := prog_5_method_9_code
def yX3_hasPlace : MethodName := ⟨RX3, "hasPlace", "(I)Z"⟩
abbrev cX3_burdenAt : ByteArray := prog_5_method_10_code
def yX3_burdenAt : MethodName := ⟨RX3, "burdenAt", "(I)I"⟩
abbrev cX3_partBehind : ByteArray := prog_5_method_11_code
def yX3_partBehind : MethodName := ⟨RX3, "partBehind", "(II)I"⟩
abbrev cX3_shareOf : ByteArray := prog_5_method_12_code
def yX3_shareOf : MethodName := ⟨RX3, "shareOf", "(I)I"⟩
def RX4 : String := "BurdenCourt$Tape"
def TX4 : u_T := fun k => match k with
  | 0 => ("BurdenCourt$Tape", "bytes", "[B", true)
  | _ => ("BurdenCourt$Tape", "length", "I", false)
def tyX4 : Nat → FieldType := fun k => match k with
  | 0 => .array .byte
  | _ => .int
abbrev wsX40 : List Cond := u_ws RX4 TX4 2
theorem nmX4 : ∀ a, a < 2 → ∀ b, b < 2 → a ≠ b → (TX4 a).2.1 ≠ (TX4 b).2.1 := by decide +kernel
theorem tyX4_ok : ∀ k, k < 2 → parseFieldDescriptor (TX4 k).2.2.1 = some (tyX4 k) := by decide +kernel
abbrev cX4_init : ByteArray := prog_6_method_1_code
def yX4_init : MethodName := ⟨RX4, "<init>", "()V"⟩
abbrev cX4_length : ByteArray := prog_6_method_2_code
def yX4_length : MethodName := ⟨RX4, "length", "()I"⟩
abbrev cX4_hasRoom : ByteArray := prog_6_method_3_code
def yX4_hasRoom : MethodName := ⟨RX4, "hasRoom", "(I)Z"⟩
abbrev cX4_append : ByteArray := prog_6_method_4_code
def yX4_append : MethodName := ⟨RX4, "append", "(I)V"⟩
abbrev cX4_at : ByteArray := prog_6_method_5_code
def yX4_at : MethodName := ⟨RX4, "at", "(I)I"⟩
abbrev cX4_clear : ByteArray := prog_6_method_6_code
def yX4_clear : MethodName := ⟨RX4, "clear", "()V"⟩
def RX5 : String := "BurdenCourt"
def TX5 : u_T := fun k => match k with
  | 0 => ("BurdenCourt", "tape", "LBurdenCourt$Tape;", true)
  | 1 => ("BurdenCourt", "reader", "LBurdenCourt$Reader;", true)
  | 2 => ("BurdenCourt", "roll", "LBurdenCourt$Roll;", true)
  | 3 => ("BurdenCourt", "foreseen", "LBurdenCourt$Roll;", true)
  | 4 => ("BurdenCourt", "docket", "LBurdenCourt$Docket;", true)
  | 5 => ("BurdenCourt", "law", "LBurdenCourt$Statutes;", false)
  | 6 => ("BurdenCourt", "draft", "LBurdenCourt$Statutes;", false)
  | 7 => ("BurdenCourt", "yearOn", "Z", false)
  | 8 => ("BurdenCourt", "yearsBegun", "I", false)
  | 9 => ("BurdenCourt", "day", "I", false)
  | _ => ("BurdenCourt", "coinsPaid", "I", false)
def tyX5 : Nat → FieldType := fun k => match k with
  | 0 => .object "BurdenCourt$Tape"
  | 1 => .object "BurdenCourt$Reader"
  | 2 => .object "BurdenCourt$Roll"
  | 3 => .object "BurdenCourt$Roll"
  | 4 => .object "BurdenCourt$Docket"
  | 5 => .object "BurdenCourt$Statutes"
  | 6 => .object "BurdenCourt$Statutes"
  | 7 => .boolean
  | 8 => .int
  | 9 => .int
  | _ => .int
abbrev wsX50 : List Cond := u_ws RX5 TX5 11
theorem nmX5 : ∀ a, a < 11 → ∀ b, b < 11 → a ≠ b → (TX5 a).2.1 ≠ (TX5 b).2.1 := by decide +kernel
theorem tyX5_ok : ∀ k, k < 11 → parseFieldDescriptor (TX5 k).2.2.1 = some (tyX5 k) := by decide +kernel
abbrev cX5_init : ByteArray := prog_1_method_1_code
def yX5_init : MethodName := ⟨RX5, "<init>", "()V"⟩
abbrev cX5_feed : ByteArray := prog_1_method_2_code
def yX5_feed : MethodName := ⟨RX5, "feed", "(IIIII)I"⟩
abbrev cX5_statutes : ByteArray := prog_1_method_3_code
def yX5_statutes : MethodName := ⟨RX5, "statutes", "(I)I"⟩
abbrev cX5_fault : ByteArray := prog_1_method_4_code
def yX5_fault : MethodName := ⟨RX5, "fault", "(I)I"⟩
abbrev cX5_man : ByteArray := prog_1_method_5_code
def yX5_man : MethodName := ⟨RX5, "man", "(II)I"⟩
abbrev cX5_found : ByteArray := prog_1_method_6_code
def yX5_found : MethodName := ⟨RX5, "found", "(II)Z"⟩
abbrev cX5_look : ByteArray := prog_1_method_7_code
def yX5_look : MethodName := ⟨RX5, "look", "(II)I"⟩
abbrev cX5_richest : ByteArray := prog_1_method_8_code
def yX5_richest : MethodName := ⟨RX5, "richest", "(I)I"⟩
abbrev cX5_place : ByteArray := prog_1_method_9_code
def yX5_place : MethodName := ⟨RX5, "place", "(II)I"⟩
abbrev cX5_begin : ByteArray := prog_1_method_10_code
def yX5_begin : MethodName := ⟨RX5, "begin", "()I"⟩
abbrev cX5_pass : ByteArray := prog_1_method_11_code
def yX5_pass : MethodName := ⟨RX5, "pass", "(I)I"⟩
abbrev cX5_challenge : ByteArray := prog_1_method_12_code
def yX5_challenge : MethodName := ⟨RX5, "challenge", "(II)I"⟩
abbrev cX5_answer : ByteArray := prog_1_method_13_code
def yX5_answer : MethodName := ⟨RX5, "answer", "(IZ)Z"⟩
abbrev cX5_swear : ByteArray := prog_1_method_14_code
def yX5_swear : MethodName := ⟨RX5, "swear", "(IZ)Z"⟩
abbrev cX5_told : ByteArray := prog_1_method_15_code
def yX5_told : MethodName := ⟨RX5, "told", "(II)I"⟩
abbrev cX5_end : ByteArray := prog_1_method_16_code
def yX5_end : MethodName := ⟨RX5, "end", "()I"⟩
abbrev cX5_part : ByteArray := prog_1_method_17_code
def yX5_part : MethodName := ⟨RX5, "part", "(I)I"⟩
abbrev cX5_gain : ByteArray := prog_1_method_18_code
def yX5_gain : MethodName := ⟨RX5, "gain", "(II)I"⟩
abbrev cX5_ahead : ByteArray := prog_1_method_19_code
def yX5_ahead : MethodName := ⟨RX5, "ahead", "(I)I"⟩
abbrev cX5_count : ByteArray := prog_1_method_20_code
def yX5_count : MethodName := ⟨RX5, "count", "(I)I"⟩
abbrev cX5_areCoins : ByteArray := prog_1_method_21_code
def yX5_areCoins : MethodName := ⟨RX5, "areCoins", "(I)Z"⟩
abbrev cX5_isFitNow : ByteArray := prog_1_method_22_code
def yX5_isFitNow : MethodName := ⟨RX5, "isFitNow", "(I)Z"⟩
def RX6 : String := "BurdenCourtModel"
def TX6 : u_T := fun k => match k with
  | 0 => ("BurdenCourtModel", "tape", "[I", true)
  | 1 => ("BurdenCourtModel", "tapeSize", "I", false)
  | 2 => ("BurdenCourtModel", "thrown", "I", false)
  | 3 => ("BurdenCourtModel", "cost", "[I", true)
  | 4 => ("BurdenCourtModel", "share", "[I", true)
  | 5 => ("BurdenCourtModel", "rule", "[I", true)
  | 6 => ("BurdenCourtModel", "places", "I", false)
  | 7 => ("BurdenCourtModel", "burden", "[I", true)
  | 8 => ("BurdenCourtModel", "fault", "I", false)
  | 9 => ("BurdenCourtModel", "faultPlace", "I", false)
  | 10 => ("BurdenCourtModel", "men", "I", false)
  | 11 => ("BurdenCourtModel", "declared", "[I", true)
  | 12 => ("BurdenCourtModel", "hidden", "[I", true)
  | 13 => ("BurdenCourtModel", "freeTill", "[I", true)
  | 14 => ("BurdenCourtModel", "years", "[I", true)
  | 15 => ("BurdenCourtModel", "begun", "I", false)
  | 16 => ("BurdenCourtModel", "isOn", "Z", false)
  | 17 => ("BurdenCourtModel", "day", "I", false)
  | 18 => ("BurdenCourtModel", "bearer", "[I", true)
  | 19 => ("BurdenCourtModel", "bore", "[Z", true)
  | 20 => ("BurdenCourtModel", "allPaid", "I", false)
  | 21 => ("BurdenCourtModel", "many", "I", false)
  | 22 => ("BurdenCourtModel", "cX", "[I", true)
  | 23 => ("BurdenCourtModel", "cY", "[I", true)
  | 24 => ("BurdenCourtModel", "cPlace", "[I", true)
  | 25 => ("BurdenCourtModel", "cDay", "[I", true)
  | 26 => ("BurdenCourtModel", "cState", "[I", true)
  | 27 => ("BurdenCourtModel", "cTerm", "[I", true)
  | 28 => ("BurdenCourtModel", "cByX", "[Z", true)
  | 29 => ("BurdenCourtModel", "cByY", "[Z", true)
  | 30 => ("BurdenCourtModel", "words", "[I", true)
  | 31 => ("BurdenCourtModel", "size", "I", false)
  | 32 => ("BurdenCourtModel", "next", "I", false)
  | 33 => ("BurdenCourtModel", "kind", "I", false)
  | 34 => ("BurdenCourtModel", "which", "I", false)
  | 35 => ("BurdenCourtModel", "place", "I", false)
  | _ => ("BurdenCourtModel", "read", "I", false)
def tyX6 : Nat → FieldType := fun k => match k with
  | 0 => .array .int
  | 1 => .int
  | 2 => .int
  | 3 => .array .int
  | 4 => .array .int
  | 5 => .array .int
  | 6 => .int
  | 7 => .array .int
  | 8 => .int
  | 9 => .int
  | 10 => .int
  | 11 => .array .int
  | 12 => .array .int
  | 13 => .array .int
  | 14 => .array .int
  | 15 => .int
  | 16 => .boolean
  | 17 => .int
  | 18 => .array .int
  | 19 => .array .boolean
  | 20 => .int
  | 21 => .int
  | 22 => .array .int
  | 23 => .array .int
  | 24 => .array .int
  | 25 => .array .int
  | 26 => .array .int
  | 27 => .array .int
  | 28 => .array .boolean
  | 29 => .array .boolean
  | 30 => .array .int
  | 31 => .int
  | 32 => .int
  | 33 => .int
  | 34 => .int
  | 35 => .int
  | _ => .int
abbrev wsX60 : List Cond := u_ws RX6 TX6 37
theorem nmX6 : ∀ a, a < 37 → ∀ b, b < 37 → a ≠ b → (TX6 a).2.1 ≠ (TX6 b).2.1 := by decide +kernel
theorem tyX6_ok : ∀ k, k < 37 → parseFieldDescriptor (TX6 k).2.2.1 = some (tyX6 k) := by decide +kernel
abbrev cX6_init : ByteArray := prog_8_method_1_code
def yX6_init : MethodName := ⟨RX6, "<init>", "()V"⟩
abbrev cX6_thrown : ByteArray := prog_8_method_2_code
def yX6_thrown : MethodName := ⟨RX6, "thrown", "()I"⟩
abbrev cX6_feed : ByteArray := prog_8_method_3_code
def yX6_feed : MethodName := ⟨RX6, "feed", "(IIIII)I"⟩
abbrev cX6_wrong : ByteArray := prog_8_method_4_code
def yX6_wrong : MethodName := ⟨RX6, "wrong", "(II)Z"⟩
abbrev cX6_wordAt : ByteArray := prog_8_method_5_code
def yX6_wordAt : MethodName := ⟨RX6, "wordAt", "(II)I"⟩
abbrev cX6_isSmall : ByteArray := prog_8_method_6_code
def yX6_isSmall : MethodName := ⟨RX6, "isSmall", "(I)Z"⟩
abbrev cX6_isDigit : ByteArray := prog_8_method_7_code
def yX6_isDigit : MethodName := ⟨RX6, "isDigit", "(I)Z"⟩
abbrev cX6_take : ByteArray := prog_8_method_8_code
def yX6_take : MethodName := ⟨RX6, "take", "()V"⟩
abbrev cX6_word : ByteArray := prog_8_method_9_code
def yX6_word : MethodName := ⟨RX6, "word", "(I)Z"⟩
abbrev cX6_number : ByteArray := prog_8_method_10_code
def yX6_number : MethodName := ⟨RX6, "number", "(II)Z"⟩
abbrev cX6_burdenLine : ByteArray := prog_8_method_11_code
def yX6_burdenLine : MethodName := ⟨RX6, "burdenLine", "()Z"⟩
abbrev cX6_line : ByteArray := prog_8_method_12_code
def yX6_line : MethodName := ⟨RX6, "line", "()Z"⟩
abbrev cX6_statutes : ByteArray := prog_8_method_13_code
def yX6_statutes : MethodName := ⟨RX6, "statutes", "(I)I"⟩
abbrev cX6_fault : ByteArray := prog_8_method_14_code
def yX6_fault : MethodName := ⟨RX6, "fault", "(I)I"⟩
abbrev cX6_man : ByteArray := prog_8_method_15_code
def yX6_man : MethodName := ⟨RX6, "man", "(II)I"⟩
abbrev cX6_isMan : ByteArray := prog_8_method_16_code
def yX6_isMan : MethodName := ⟨RX6, "isMan", "(I)Z"⟩
abbrev cX6_found : ByteArray := prog_8_method_17_code
def yX6_found : MethodName := ⟨RX6, "found", "(II)Z"⟩
abbrev cX6_bears : ByteArray := prog_8_method_18_code
def yX6_bears : MethodName := ⟨RX6, "bears", "(II)I"⟩
abbrev cX6_isFit : ByteArray := prog_8_method_19_code
def yX6_isFit : MethodName := ⟨RX6, "isFit", "(IIII)Z"⟩
abbrev cX6_fails : ByteArray := prog_8_method_20_code
def yX6_fails : MethodName := ⟨RX6, "fails", "(I)I"⟩
abbrev cX6_look : ByteArray := prog_8_method_21_code
def yX6_look : MethodName := ⟨RX6, "look", "(II)I"⟩
abbrev cX6_richest : ByteArray := prog_8_method_22_code
def yX6_richest : MethodName := ⟨RX6, "richest", "(I)I"⟩
abbrev cX6_place : ByteArray := prog_8_method_23_code
def yX6_place : MethodName := ⟨RX6, "place", "(II)I"⟩
abbrev cX6_fill : ByteArray := prog_8_method_24_code
def yX6_fill : MethodName := ⟨RX6, "fill", "(III)I"⟩
abbrev cX6_begin : ByteArray := prog_8_method_25_code
def yX6_begin : MethodName := ⟨RX6, "begin", "()I"⟩
abbrev cX6_pays : ByteArray := prog_8_method_26_code
def yX6_pays : MethodName := ⟨RX6, "pays", "(II)I"⟩
abbrev cX6_ends : ByteArray := prog_8_method_27_code
def yX6_ends : MethodName := ⟨RX6, "ends", "(III)I"⟩
abbrev cX6_isOpen : ByteArray := prog_8_method_28_code
def yX6_isOpen : MethodName := ⟨RX6, "isOpen", "(I)Z"⟩
abbrev cX6_goesOver : ByteArray := prog_8_method_29_code
def yX6_goesOver : MethodName := ⟨RX6, "goesOver", "(I)Z"⟩
abbrev cX6_over : ByteArray := prog_8_method_30_code
def yX6_over : MethodName := ⟨RX6, "over", "(I)V"⟩
abbrev cX6_judge : ByteArray := prog_8_method_31_code
def yX6_judge : MethodName := ⟨RX6, "judge", "(I)V"⟩
abbrev cX6_pass : ByteArray := prog_8_method_32_code
def yX6_pass : MethodName := ⟨RX6, "pass", "(I)I"⟩
abbrev cX6_challenge : ByteArray := prog_8_method_33_code
def yX6_challenge : MethodName := ⟨RX6, "challenge", "(II)I"⟩
abbrev cX6_answer : ByteArray := prog_8_method_34_code
def yX6_answer : MethodName := ⟨RX6, "answer", "(IZ)Z"⟩
abbrev cX6_swear : ByteArray := prog_8_method_35_code
def yX6_swear : MethodName := ⟨RX6, "swear", "(IZ)Z"⟩
abbrev cX6_told : ByteArray := prog_8_method_36_code
def yX6_told : MethodName := ⟨RX6, "told", "(II)I"⟩
abbrev cX6_end : ByteArray := prog_8_method_37_code
def yX6_end : MethodName := ⟨RX6, "end", "()I"⟩
abbrev cX6_part : ByteArray := prog_8_method_38_code
def yX6_part : MethodName := ⟨RX6, "part", "(I)I"⟩
abbrev cX6_gain : ByteArray := prog_8_method_39_code
def yX6_gain : MethodName := ⟨RX6, "gain", "(II)I"⟩
abbrev cX6_ahead : ByteArray := prog_8_method_40_code
def yX6_ahead : MethodName := ⟨RX6, "ahead", "(I)I"⟩
abbrev cX6_count : ByteArray := prog_8_method_41_code
def yX6_count : MethodName := ⟨RX6, "count", "(I)I"⟩
def RJ9 : String := "java/lang/Math"
def TJ9 : u_T := fun k => match k with
  | _ => ("", "", "", false)
def tyJ9 : Nat → FieldType := fun k => match k with
  | _ => .int
abbrev wsJ90 : List Cond := u_ws RJ9 TJ9 0
theorem nmJ9 : ∀ a, a < 0 → ∀ b, b < 0 → a ≠ b → (TJ9 a).2.1 ≠ (TJ9 b).2.1 := by decide +kernel
theorem tyJ9_ok : ∀ k, k < 0 → parseFieldDescriptor (TJ9 k).2.2.1 = some (tyJ9 k) := by decide +kernel
abbrev cJ9_min_7cf53 : ByteArray := prog_11_method_69_code
def yJ9_min_7cf53 : MethodName := ⟨RJ9, "min", "(II)I"⟩
def RJ0 : String := "java/lang/String"
def TJ0 : u_T := fun k => match k with
  | _ => ("", "", "", false)
def tyJ0 : Nat → FieldType := fun k => match k with
  | _ => .int
abbrev wsJ00 : List Cond := u_ws RJ0 TJ0 0
theorem nmJ0 : ∀ a, a < 0 → ∀ b, b < 0 → a ≠ b → (TJ0 a).2.1 ≠ (TJ0 b).2.1 := by decide +kernel
theorem tyJ0_ok : ∀ k, k < 0 → parseFieldDescriptor (TJ0 k).2.2.1 = some (tyJ0 k) := by decide +kernel
abbrev cJ0_length_8abf5 : ByteArray := prog_13_method_54_code
def yJ0_length_8abf5 : MethodName := ⟨RJ0, "length", "()I"⟩
abbrev cJ0_charAt_5068e : ByteArray := prog_13_method_56_code
def yJ0_charAt_5068e : MethodName := ⟨RJ0, "charAt", "(I)C"⟩
abbrev cJ0_coder_7d493 : ByteArray := prog_13_method_152_code
def yJ0_coder_7d493 : MethodName := ⟨RJ0, "coder", "()B"⟩
abbrev cJ0_isLatin1_aae02 : ByteArray := prog_13_method_154_code
def yJ0_isLatin1_aae02 : MethodName := ⟨RJ0, "isLatin1", "()Z"⟩
abbrev cJ0_checkIndex_df160 : ByteArray := prog_13_method_155_code
def yJ0_checkIndex_df160 : MethodName := ⟨RJ0, "checkIndex", "(II)V"⟩
def RJ1 : String := "java/lang/StringLatin1"
def TJ1 : u_T := fun k => match k with
  | _ => ("", "", "", false)
def tyJ1 : Nat → FieldType := fun k => match k with
  | _ => .int
abbrev wsJ10 : List Cond := u_ws RJ1 TJ1 0
theorem nmJ1 : ∀ a, a < 0 → ∀ b, b < 0 → a ≠ b → (TJ1 a).2.1 ≠ (TJ1 b).2.1 := by decide +kernel
theorem tyJ1_ok : ∀ k, k < 0 → parseFieldDescriptor (TJ1 k).2.2.1 = some (tyJ1 k) := by decide +kernel
abbrev cJ1_charAt_3b067 : ByteArray := prog_14_method_2_code
def yJ1_charAt_3b067 : MethodName := ⟨RJ1, "charAt", "([BI)C"⟩
def RJ2 : String := "java/lang/StringUTF16"
def TJ2 : u_T := fun k => match k with
  | _ => ("", "", "", false)
def tyJ2 : Nat → FieldType := fun k => match k with
  | _ => .int
abbrev wsJ20 : List Cond := u_ws RJ2 TJ2 0
theorem nmJ2 : ∀ a, a < 0 → ∀ b, b < 0 → a ≠ b → (TJ2 a).2.1 ≠ (TJ2 b).2.1 := by decide +kernel
theorem tyJ2_ok : ∀ k, k < 0 → parseFieldDescriptor (TJ2 k).2.2.1 = some (tyJ2 k) := by decide +kernel
abbrev cJ2_getChar_3b067 : ByteArray := prog_15_method_5_code
def yJ2_getChar_3b067 : MethodName := ⟨RJ2, "getChar", "([BI)C"⟩
abbrev cJ2_length_9d52b : ByteArray := prog_15_method_6_code
def yJ2_length_9d52b : MethodName := ⟨RJ2, "length", "([B)I"⟩
abbrev cJ2_charAt_3b067 : ByteArray := prog_15_method_83_code
def yJ2_charAt_3b067 : MethodName := ⟨RJ2, "charAt", "([BI)C"⟩
abbrev cJ2_checkIndex_2214a : ByteArray := prog_15_method_91_code
def yJ2_checkIndex_2214a : MethodName := ⟨RJ2, "checkIndex", "(I[B)V"⟩
def RJ3 : String := "jdk/internal/util/Preconditions"
def TJ3 : u_T := fun k => match k with
  | _ => ("", "", "", false)
def tyJ3 : Nat → FieldType := fun k => match k with
  | _ => .int
abbrev wsJ30 : List Cond := u_ws RJ3 TJ3 0
theorem nmJ3 : ∀ a, a < 0 → ∀ b, b < 0 → a ≠ b → (TJ3 a).2.1 ≠ (TJ3 b).2.1 := by decide +kernel
theorem tyJ3_ok : ∀ k, k < 0 → parseFieldDescriptor (TJ3 k).2.2.1 = some (tyJ3 k) := by decide +kernel
abbrev cJ3_checkIndex_8e157 : ByteArray := prog_18_method_11_code
def yJ3_checkIndex_8e157 : MethodName := ⟨RJ3, "checkIndex", "(IILjava/util/function/BiFunction;)I"⟩
def RL : String := "BurdenCourtLaw"
abbrev cL_look : ByteArray := method_3_code
def yL_look : MethodName := ⟨RL, "look", "(LBurdenCourt;II[J)I"⟩
abbrev cL_law : ByteArray := code
def yL_law : MethodName := ⟨RL, "law", "([I)Z"⟩
abbrev vwCl : List vw_C := [(RX0, TX0, 9), (RX1, TX1, 6), (RX2, TX2, 8), (RX3, TX3, 5), (RX4, TX4, 2), (RX5, TX5, 11), (RX6, TX6, 37)]
/-- the words that every method may use: those of the tables that a warm machine keeps -/
def gW : List Cond := lw_tbl.filter goodWord
theorem gW_in {w : Cond} (h : w ∈ lw_tbl) (g : goodWord w = true) : w ∈ gW := List.mem_filter.mpr ⟨h, g⟩
theorem gW_sub {w : Cond} (h : w ∈ gW) : w ∈ lw_tbl := (List.mem_filter.mp h).1
theorem inG0 : ∀ w ∈ wsX00, w ∈ gW := by decide +kernel
theorem inG1 : ∀ w ∈ wsX10, w ∈ gW := by decide +kernel
theorem inG2 : ∀ w ∈ wsX20, w ∈ gW := by decide +kernel
theorem inG3 : ∀ w ∈ wsX30, w ∈ gW := by decide +kernel
theorem inG4 : ∀ w ∈ wsX40, w ∈ gW := by decide +kernel
theorem inG5 : ∀ w ∈ wsX50, w ∈ gW := by decide +kernel
theorem inG6 : ∀ w ∈ wsX60, w ∈ gW := by decide +kernel
end
section
def kls (o : Nat) : Nat := ([5, 4, 1, 2, 2, 0, 3, 3, 6] : List Nat).getD o 6
def nfs : List Nat := [9, 6, 8, 5, 2, 11, 37]
def fkT : List (List Nat) := [[1, 1, 1, 1, 1, 1, 3, 3, 0], [4, 3, 0, 0, 0, 0], [1, 1, 1, 1, 1, 1, 1, 0], [1, 1, 1, 1, 0], [2, 0], [4, 4, 4, 4, 4, 5, 5, 0, 0, 0, 0], [1, 0, 0, 1, 1, 1, 0, 1, 0, 0, 0, 1, 1, 1, 1, 0, 0, 0, 1, 3, 0, 0, 1, 1, 1, 1, 1, 1, 3, 3, 1, 0, 0, 0, 0, 0, 0]]
def flT : List (List Nat) := [[40, 40, 40, 40, 40, 40, 40, 40, 0], [0, 4, 0, 0, 0, 0], [12, 12, 12, 12, 12, 24, 24, 0], [6, 6, 4, 24, 0], [600, 0], [0, 0, 0, 0, 0, 0, 0, 0, 0, 0, 0], [600, 0, 0, 12, 12, 8, 0, 24, 0, 0, 0, 24, 24, 24, 12, 0, 0, 0, 48, 288, 0, 0, 40, 40, 40, 40, 40, 40, 40, 40, 42, 0, 0, 0, 0, 0, 0]]
def fk (ci k : Nat) : Nat := (fkT.getD ci []).getD k 0
def fl (ci k : Nat) : Nat := (flT.getD ci []).getD k 0
def tgT : List (List Nat) := [[1, 2, 3, 4, 5, 0, 0, 0, 0, 0, 0], [0, 0], [1, 0, 0, 0, 0, 0], [0, 0, 0, 0, 0, 0, 0, 0], [0, 0, 0, 0, 0, 0, 0, 0], [0, 0, 0, 0, 0, 0, 0, 0, 0], [0, 0, 0, 0, 0], [0, 0, 0, 0, 0], [0, 0, 0, 0, 0, 0, 0, 0, 0, 0, 0, 0, 0, 0, 0, 0, 0, 0, 0, 0, 0, 0, 0, 0, 0, 0, 0, 0, 0, 0, 0, 0, 0, 0, 0, 0, 0]]
def tgt (o k : Nat) : Nat := (tgT.getD o []).getD k 0
/-! THE ABSTRACT STATE: object o, field k, place i (0 where the field is no array) -/
abbrev rS : Type := Nat → Nat → Int32 → Int32
abbrev rV : Type := Int32 ⊕ (Nat × Nat)
/-- what lies where: class ids and slots, the array classes, the addresses of the cells (object, 0) and (object, field + 1) -/
abbrev rG : Type := va_G × (Nat → ClassId) × (Nat × Nat → Nat)
def cv (g : rG) (v : rV) : Value := match v with
  | .inl x => .int x
  | .inr q => .ref (g.2.2 q)
def up (σ : rS) (o k : Nat) (i v : Int32) : rS := fun o' k' i' => if o' = o ∧ k' = k ∧ i' = i then v else σ o' k' i'
def rf (f : Int32 → Int32) : Nat → Int32 := fun j => if j < 2147483648 then f (nI j) else 0
def isA (x : Nat) : Bool := x == 1 || x == 2 || x == 3
def fvk (g : rG) (kd : Nat) (x : Int32) (o k : Nat) : Value := if isA kd = true then .ref (g.2.2 (o, k + 1)) else if kd = 4 then .ref (g.2.2 (tgt o k, 0)) else if kd = 5 then .ref (g.2.2 (x.toNatClampNeg, 0)) else .int x
def fvl (g : rG) (σ : rS) (o k : Nat) : Value := fvk g (fk (kls o) k) (σ o k 0) o k
def cL : List (Nat × Nat) := (List.range 9).flatMap fun o => (o, 0) :: ((List.range (nfs.getD (kls o) 0)).filter (fun k => isA (fk (kls o) k))).map (fun k => (o, k + 1))
def cont (g : rG) (σ : rS) (q : Nat × Nat) : va_E := match q.2 with
  | 0 => .inr (kls q.1, (List.range (nfs.getD (kls q.1) 0)).map (fvl g σ q.1))
  | k + 1 => .inl (g.2.1 (fk (kls q.1) k), (fl (kls q.1) k, .inl (rf (σ q.1 k))))
def rw_ (g : rG) (σ : rS) : va_W := cL.map fun q => (g.2.2 q, cont g σ q)
def rT (g : rG) : List (ClassId × FieldType) := [(g.2.1 0, .int), (g.2.1 1, .int), (g.2.1 2, .byte), (g.2.1 3, .boolean)]
def isO (o ci : Nat) : Prop := o < 9 ∧ kls o = ci
theorem cL_obj : ∀ o, o < 9 → (o, 0) ∈ cL := by decide +kernel
theorem cL_arr0 : ∀ o, o < 9 → ∀ k, k < 37 → (!isA (fk (kls o) k) || decide ((o, k + 1) ∈ cL)) = true := by decide +kernel
theorem cL_arr (o : Nat) (ho : o < 9) (k : Nat) (hk : k < 37) (h : isA (fk (kls o) k) = true) : (o, k + 1) ∈ cL := by
  have h1 := cL_arr0 o ho k hk
  rw [h] at h1
  exact of_decide_eq_true h1
theorem cL_inv : ∀ q ∈ cL, q.1 < 9 ∧ (q.2 ≠ 0 → isA (fk (kls q.1) (q.2 - 1)) = true) := by decide +kernel
theorem cL_nd : cL.Nodup := by decide +kernel
theorem fk_lt : ∀ c, c < 7 → ∀ k, isA (fk c k) = true → k < 37 := by
  intro c hc k h
  by_cases hk : k < 37
  · exact hk
  · exfalso
    have h2 : ∀ c, c < 7 → (fkT.getD c []).length ≤ 37 := by decide +kernel
    have h3 : (fkT.getD c [])[k]? = none := List.getElem?_eq_none (by have := h2 c hc; omega)
    have h4 : fk c k = 0 := by unfold fk; rw [List.getD_eq_getElem?_getD, h3]; rfl
    rw [h4] at h
    cases h
theorem kls_lt : ∀ o, kls o < 7 := by
  intro o
  by_cases h : o < 9
  · exact (by decide +kernel : ∀ o, o < 9 → kls o < 7) o h
  · have h3 : ([5, 4, 1, 2, 2, 0, 3, 3, 6] : List Nat)[o]? = none := List.getElem?_eq_none (by simp; omega)
    simp [kls, List.getD, h3]
theorem rw_at {g : rG} {σ : rS} {q : Nat × Nat} (h : q ∈ cL) : ∃ p : Nat, cL[p]? = some q ∧ (rw_ g σ)[p]? = some (g.2.2 q, cont g σ q) := by
  obtain ⟨p, hp⟩ := List.getElem?_of_mem h
  exact ⟨p, hp, by unfold rw_; rw [List.getElem?_map, hp]; rfl⟩
theorem rw_set {g : rG} {σ σ' : rS} {q : Nat × Nat} {p : Nat} {e : va_E} (hp : cL[p]? = some q) (he : cont g σ' q = e) (hn : ∀ q' ∈ cL, q' ≠ q → cont g σ' q' = cont g σ q') : (rw_ g σ).set p (g.2.2 q, e) = rw_ g σ' := by
  have hlt := (List.getElem?_eq_some_iff.mp hp).1
  apply List.ext_getElem?
  intro j
  by_cases hj : j = p
  · subst hj
    rw [List.getElem?_set_self (by unfold rw_; rw [List.length_map]; exact hlt)]
    unfold rw_
    rw [List.getElem?_map, hp, Option.map_some, he]
  · rw [List.getElem?_set_ne (Ne.symm hj)]
    unfold rw_
    rw [List.getElem?_map, List.getElem?_map]
    cases hq : cL[j]? with
    | none => rfl
    | some q' =>
      have hne : q' ≠ q := by
        intro h
        subst h
        exact hj ((List.getElem?_inj (List.getElem?_eq_some_iff.mp hq).1 cL_nd).mp (hq.trans hp.symm))
      rw [Option.map_some, Option.map_some, hn q' (List.mem_of_getElem? hq) hne]
theorem rw_D {g : rG} {A : Nat → Prop} {σ : rS} (σ' : rS) (h : va_D A (rw_ g σ)) : va_D A (rw_ g σ') := by
  have key : ∀ (k : Nat) (q : Nat × va_E), (rw_ g σ')[k]? = some q → ∃ q0, (rw_ g σ)[k]? = some q0 ∧ q0.1 = q.1 := by
    intro k q hk
    unfold rw_ at hk ⊢
    rw [List.getElem?_map] at hk ⊢
    cases hq : cL[k]? with
    | none => rw [hq] at hk; cases hk
    | some z => rw [hq] at hk; cases hk; exact ⟨_, rfl, rfl⟩
  refine ⟨fun i j x y hi hj hxy => ?_, fun k q hk => ?_⟩
  · obtain ⟨x0, h1, h2⟩ := key i x hi
    obtain ⟨y0, h3, h4⟩ := key j y hj
    exact h.1 i j x0 y0 h1 h3 (h2.trans (hxy.trans h4.symm))
  · obtain ⟨q0, h1, h2⟩ := key k q hk
    rw [← h2]
    exact h.2 k q0 h1
theorem up_self {σ : rS} {o k : Nat} {i v : Int32} : up σ o k i v o k i = v := by simp [up]
theorem up_o {σ : rS} {o k o' k' : Nat} {i i' v : Int32} (h : o' ≠ o) : up σ o k i v o' k' i' = σ o' k' i' := by simp [up, h]
theorem up_k {σ : rS} {o k o' k' : Nat} {i i' v : Int32} (h : k' ≠ k) : up σ o k i v o' k' i' = σ o' k' i' := by simp [up, h]
theorem up_i {σ : rS} {o k o' k' : Nat} {i i' v : Int32} (h : i' ≠ i) : up σ o k i v o' k' i' = σ o' k' i' := by simp [up, h]
theorem nI_cl {i : Int32} (h : ¬ i < 0) : nI i.toNatClampNeg = i := by
  obtain ⟨j, hj, rfl⟩ := nI_of h
  rw [nI_clamp hj]
theorem cl_lt (i : Int32) : i.toNatClampNeg < 2147483648 := by
  have h1 : i.toInt < 2147483648 := Int32.toInt_lt i
  have h2 : i.toNatClampNeg = i.toInt.toNat := rfl
  rw [h2]
  omega
theorem rf_at {f : Int32 → Int32} {i : Int32} (h : ¬ i < 0) : rf f i.toNatClampNeg = f i := by
  unfold rf
  rw [if_pos (cl_lt i), nI_cl h]
theorem rf_up {σ : rS} {o k : Nat} {i v : Int32} (h : ¬ i < 0) : rf (up σ o k i v o k) = upd (rf (σ o k)) i.toNatClampNeg v := by
  funext j
  obtain ⟨n, hn, rfl⟩ := nI_of h
  rw [nI_clamp hn]
  by_cases hj : j < 2147483648
  · by_cases hjn : j = n
    · subst hjn
      simp [rf, hj, up, upd]
    · have h2 : ¬ nI j = nI n := fun h => hjn ((nI_eq hj hn).mp h)
      simp [rf, hj, up, upd, hjn, h2]
  · have hjn : ¬ j = n := by omega
    simp [rf, hj, upd, hjn]
theorem rf_up_ne {σ : rS} {o k o' k' : Nat} {i v : Int32} (h : ¬ (o' = o ∧ k' = k)) : rf (up σ o k i v o' k') = rf (σ o' k') := by
  funext j
  simp only [rf, up]
  split
  · rw [if_neg (fun z => h ⟨z.1, z.2.1⟩)]
  · rfl
theorem fvl_up_ne {g : rG} {σ : rS} {o k o' k' : Nat} {i v : Int32} (h : ¬ (o' = o ∧ k' = k) ∨ isA (fk (kls o) k) = true) : fvl g (up σ o k i v) o' k' = fvl g σ o' k' := by
  unfold fvl
  by_cases h2 : o' = o ∧ k' = k
  · rcases h with h | h
    · exact absurd h2 h
    · rw [h2.1, h2.2]
      unfold fvk
      rw [if_pos h, if_pos h]
  · have e : up σ o k i v o' k' 0 = σ o' k' 0 := by unfold up; rw [if_neg (fun z => h2 ⟨z.1, z.2.1⟩)]
    rw [e]
/-- a field's write, on the cells -/
theorem cont_field {g : rG} {σ : rS} {o k : Nat} {v : Int32} {w : Value} (hk : k < nfs.getD (kls o) 0) (hf : isA (fk (kls o) k) = false) (hw : fvl g (up σ o k 0 v) o k = w) :
    cont g (up σ o k 0 v) (o, 0) = .inr (kls o, ((List.range (nfs.getD (kls o) 0)).map (fvl g σ o)).set k w) ∧ ∀ q ∈ cL, q ≠ (o, 0) → cont g (up σ o k 0 v) q = cont g σ q := by
  refine ⟨?_, ?_⟩
  · show Sum.inr (kls o, (List.range (nfs.getD (kls o) 0)).map (fvl g (up σ o k 0 v) o)) = _
    congr 2
    apply List.ext_getElem?
    intro j
    by_cases hj : j = k
    · subst hj
      rw [List.getElem?_set_self (by simpa using hk), List.getElem?_map, List.getElem?_range hk, Option.map_some, hw]
    · rw [List.getElem?_set_ne (Ne.symm hj), List.getElem?_map, List.getElem?_map]
      by_cases hjn : j < nfs.getD (kls o) 0
      · rw [List.getElem?_range hjn, Option.map_some, Option.map_some, fvl_up_ne (Or.inl (fun z2 => hj z2.2))]
      · rw [List.getElem?_eq_none (by simpa using hjn)]
        rfl
  · intro q hq hne
    obtain ⟨o', k'⟩ := q
    cases k' with
    | zero =>
      have ho : o' ≠ o := fun h => hne (by rw [h])
      show Sum.inr (kls o', (List.range (nfs.getD (kls o') 0)).map (fvl g (up σ o k 0 v) o')) = Sum.inr (kls o', (List.range (nfs.getD (kls o') 0)).map (fvl g σ o'))
      congr 2
      exact List.map_congr_left (fun a _ => fvl_up_ne (Or.inl (fun z => ho z.1)))
    | succ k' =>
      have h2 := (cL_inv _ hq).2 (Nat.succ_ne_zero _)
      have h3 : isA (fk (kls o') k') = true := h2
      show Sum.inl (g.2.1 (fk (kls o') k'), (fl (kls o') k', Sum.inl (rf (up σ o k 0 v o' k')))) = Sum.inl (g.2.1 (fk (kls o') k'), (fl (kls o') k', Sum.inl (rf (σ o' k'))))
      rw [rf_up_ne]
      rintro ⟨rfl, rfl⟩
      rw [hf] at h3
      cases h3
/-- an array's write, on the cells -/
theorem cont_arr {g : rG} {σ : rS} {o k : Nat} {i v : Int32} (hi : ¬ i < 0) (hf : isA (fk (kls o) k) = true) :
    cont g (up σ o k i v) (o, k + 1) = .inl (g.2.1 (fk (kls o) k), (fl (kls o) k, .inl (upd (rf (σ o k)) i.toNatClampNeg v))) ∧ ∀ q ∈ cL, q ≠ (o, k + 1) → cont g (up σ o k i v) q = cont g σ q := by
  refine ⟨?_, ?_⟩
  · show Sum.inl (g.2.1 (fk (kls o) k), (fl (kls o) k, Sum.inl (rf (up σ o k i v o k)))) = _
    rw [rf_up hi]
  · intro q hq hne
    obtain ⟨o', k'⟩ := q
    cases k' with
    | zero =>
      show Sum.inr (kls o', (List.range (nfs.getD (kls o') 0)).map (fvl g (up σ o k i v) o')) = Sum.inr (kls o', (List.range (nfs.getD (kls o') 0)).map (fvl g σ o'))
      congr 2
      exact List.map_congr_left (fun a _ => fvl_up_ne (Or.inr hf))
    | succ k' =>
      show Sum.inl (g.2.1 (fk (kls o') k'), (fl (kls o') k', Sum.inl (rf (up σ o k i v o' k')))) = Sum.inl (g.2.1 (fk (kls o') k'), (fl (kls o') k', Sum.inl (rf (σ o' k'))))
      rw [rf_up_ne]
      rintro ⟨rfl, rfl⟩
      exact hne rfl
end
section
/-! A METHOD: its class, name, code, locals, answer's type, and its room (frames, words of locals) -/
abbrev rM : Type := String × MethodName × ByteArray × Nat × Option FieldType × Nat × Nat
abbrev mO (M : rM) : String := M.1
abbrev mY (M : rM) : MethodName := M.2.1
abbrev mC (M : rM) : ByteArray := M.2.2.1
abbrev mN (M : rM) : Nat := M.2.2.2.1
abbrev mR (M : rM) : Option FieldType := M.2.2.2.2.1
abbrev mF (M : rM) : Nat := M.2.2.2.2.2.1
abbrev mL (M : rM) : Nat := M.2.2.2.2.2.2
def rRm (M : rM) : Room := { frames := mF M, cells := 0, slots := 0, locals := mL M }
def rWd (M : rM) : List Cond := .code (mY M) (mC M) (mN M) (mR M) :: gW
/-- the literals: their classes, entries, texts, lengths, bytes -/
def sOw : List String := ["BurdenCourt$Reader", "BurdenCourt$Reader", "BurdenCourt$Reader", "BurdenCourt$Reader", "BurdenCourt$Reader", "BurdenCourt$Reader", "BurdenCourt$Reader", "BurdenCourt", "BurdenCourt"]
def sIx : List Nat := [135, 137, 139, 141, 76, 86, 88, 114, 136]
def sTx : List String := ["free", "floor", "answer", "swear", "burden", "cost", "share", "no such man", "no such what"]
def sLn : List Nat := [4, 5, 6, 5, 6, 4, 5, 11, 12]
def sBy : List (List Int32) := [[102, 114, 101, 101], [102, 108, 111, 111, 114], [97, 110, 115, 119, 101, 114], [115, 119, 101, 97, 114], [98, 117, 114, 100, 101, 110], [99, 111, 115, 116], [115, 104, 97, 114, 101], [110, 111, 32, 115, 117, 99, 104, 32, 109, 97, 110], [110, 111, 32, 115, 117, 99, 104, 32, 119, 104, 97, 116]]
def rK (g : rG) (A : Nat → Prop) (U : State) (H : Heap) : Prop := va_K g.1 vwCl (rT g) U ∧ vk_S 9 sLn sBy (fun i => g.2.2 (100 + i, 0)) (fun i => g.2.2 (100 + i, 1)) A U H ∧ (∀ i : Nat, i < 9 → vk_R (sOw.getD i "") (sIx.getD i 0) (sTx.getD i "") (g.2.2 (100 + i, 0)) U) ∧ va_Z "java/lang/String" "COMPACT_STRINGS" "Z" (.int 1) A U H
theorem rK.to {g : rG} {A : Nat → Prop} {s U : State} {H0 H : Heap} {locs : List Loc} (h : rK g A s H0) (hS : va_S A H0 H locs) (hW : s.WarmedH U.vm) : rK g A U H :=
  ⟨va_K.moved hW.alike h.1, (h.2.1.kept (fun a h1 h2 => hS.2.1 a h1 h2)).moved hW.alike, fun i hi => (h.2.2.1 i hi).warm hW, (h.2.2.2.kept (fun a h1 h2 => hS.2.1 a h1 h2)).moved hW.alike⟩
theorem rK.same {g : rG} {A : Nat → Prop} {s U : State} {H : Heap} (h : rK g A s H) (hv : U.vm = s.vm) : rK g A U H := by
  have ha : s.vm.Alike U.vm := by rw [hv]; exact Vm.Alike.refl _
  exact ⟨va_K.moved ha h.1, h.2.1.moved ha, fun i hi => (h.2.2.1 i hi).same hv, h.2.2.2.moved ha⟩
/-- what a method's body stands on -/
def rX (g : rG) (M : rM) (A : Nat → Prop) (p : Program) (s : State) (m : MethodId) (args : Array Value) (meth : Method) (c : Code) : Prop :=
  p.tables.exec = Jvm.exec ∧ c.code = mC M ∧ c.maxLocals = mN M ∧ s.vm.findClass (mO M) = some m.cls ∧ (∀ w ∈ gW, w.before args s = true) ∧ meth.sig.returnType = mR M ∧ meth.locks = false ∧ rK g A s s.heap
def rPc (g : rG) (A : Nat → Prop) (as : List rV) (σ : rS) : Array Value → State → Prop := va_Pc (as.map (cv g)) (fun U => va_P g.1 vwCl (rw_ g σ) U.heap ∧ va_D A (rw_ g σ) ∧ rK g A U U.heap)
def rQc (g : rG) (A : Nat → Prop) (r : Option rV) (σ' : rS) : Array Value → State → Outcome → State → Prop := fun _ st oc t => oc = .returned (r.map (cv g)) ∧ va_P g.1 vwCl (rw_ g σ') t.heap ∧ va_F A st t
/-- THE CONTRACT: called with as in the state σ, the method returns r and leaves σ' -/
def Ct (M : rM) (as : List rV) (σ : rS) (r : Option rV) (σ' : rS) : Prop :=
  ∀ (l : Launch) (g : rG) (A : Nat → Prop), Met l (mY M) (rWd M) (rRm M) (rPc g A as σ) (rQc g A r σ') 0 0 A
/-- the locals: the first ones, as listed -/
def Lh (g : rG) (lsC : Array Slot) (n : Nat) (ls : List rV) : Prop := lsC.size = n ∧ lv_wf lsC ∧ ∀ (i : Nat) (v : rV), ls[i]? = some v → lsC[i]? = some (.val (cv g v))
/-- THE JUDGEMENT: from here the body returns r and leaves σ' -/
def E (M : rM) (pc : Nat) (ls st : List rV) (σ : rS) (r : Option rV) (σ' : rS) : Prop :=
  ∀ (p : Program) (l : Launch) (e : Env) (s : State) (m : MethodId) (args : Array Value) (below : List Frame) (meth : Method) (c : Code) (g : rG) (A : Nat → Prop) (H : Heap) (locs : List Loc) (lsC : Array Slot),
    rX g M A p s m args meth c → va_P g.1 vwCl (rw_ g σ) H → va_D A (rw_ g σ) → va_S A s.heap H locs → Lh g lsC (mN M) ls →
    W p l e (rRm M) s m args below meth c H locs 0 0 (MQ below (rQc g A r σ') args s 0 0 A) (F0 m pc lsC (st.map (cv g)))
theorem cv_cat (g : rG) (v : rV) : (cv g v).category = 1 := by cases v <;> rfl
theorem Lh.entry (g : rG) (as : List rV) {n : Nat} (h : as.length ≤ n) : Lh g ((lg_sl (as.map (cv g)) ++ List.replicate (n - (lg_sl (as.map (cv g))).length) Slot.unset).toArray) n as := by
  have e : ∀ as : List rV, lg_sl (as.map (cv g)) = as.map (fun v => Slot.val (cv g v)) := by
    intro as
    induction as with
    | nil => rfl
    | cons a t ih =>
      have h9 : lg_sl ((a :: t).map (cv g)) = [Slot.val (cv g a)] ++ lg_sl (t.map (cv g)) := by
        unfold lg_sl
        rw [List.map_cons, List.flatMap_cons, cv_cat]
        rfl
      rw [h9, ih]
      rfl
  have hl := lv_entry (as.map (cv g)) (n := n) (by rw [e, List.length_map]; exact h)
  refine ⟨hl.1, hl.2.1, fun i v hi => ?_⟩
  rw [e]
  have hlt : i < as.length := (List.getElem?_eq_some_iff.mp hi).1
  simp only [List.getElem?_toArray]
  rw [List.getElem?_append_left (by rw [List.length_map]; exact hlt), List.getElem?_map, hi]
  rfl
theorem C_of_E {M : rM} {as : List rV} {σ σ' : rS} {r : Option rV} (hy : plainName (mO M) = true) (hc : (mY M).cls = mO M) (hn : as.length ≤ mN M) (h : E M 0 as [] σ r σ') : Ct M as σ r σ' := by
  intro l g A
  refine Met.ofW (cc := mC M) (maxL := mN M) (ret := mR M) (by rw [hc]; exact hy) rfl ?_
  intro p e s m args below meth c s₁ B hml hv
  obtain ⟨rfl, hP, hD, hK⟩ := hv
  have hts := atoms_spec (ws := rWd M) B.pre
  have hown : s.vm.findClass (mY M).cls = some m.cls := findClass_of_methodNamed B.named
  rw [hc] at hown
  rw [lg_entry_eq]
  exact h p l e s m _ below meth c g A s.heap [] _ ⟨B.exec, B.bytes, hml, hown, fun w hw => hts w (List.mem_cons_of_mem _ hw), B.returns, B.notSynchronized, hK⟩ hP hD va_S.rf (Lh.entry g as hn)
/-! THE RULES -/
section RR
variable {M : rM} {pc : Nat} {ls st : List rV} {σ σ' : rS} {r : Option rV}
theorem e_iconst {n : Int} {v : Int32} (hd : decode (mC M) pc = .ok (.iconst n, 1)) (hv : Int32.ofInt n = v) (k : E M (pc + 1) ls (.inl v :: st) σ r σ') : E M pc ls st σ r σ' :=
  fun p l e s m args below meth c g A H locs lsC X hP hD hS hL => lv_iconst X.1 X.2.1 hd hv (k p l e s m args below meth c g A H locs lsC X hP hD hS hL)
theorem e_bipush {n : Int} {v : Int32} (hd : decode (mC M) pc = .ok (.bipush n, 2)) (hv : (Int8.ofInt n).toInt32 = v) (k : E M (pc + 2) ls (.inl v :: st) σ r σ') : E M pc ls st σ r σ' :=
  fun p l e s m args below meth c g A H locs lsC X hP hD hS hL => lv_bipush X.1 X.2.1 hd hv (k p l e s m args below meth c g A H locs lsC X hP hD hS hL)
theorem e_sipush {n : Int} {v : Int32} (hd : decode (mC M) pc = .ok (.sipush n, 3)) (hv : (Int16.ofInt n).toInt32 = v) (k : E M (pc + 3) ls (.inl v :: st) σ r σ') : E M pc ls st σ r σ' :=
  fun p l e s m args below meth c g A H locs lsC X hP hD hS hL => lv_sipush X.1 X.2.1 hd hv (k p l e s m args below meth c g A H locs lsC X hP hD hS hL)
theorem e_ldc {index : Nat} {v : Int32} (hd : decode (mC M) pc = .ok (.ldc index, 2)) (hw : Cond.constant (mO M) index v ∈ gW) (k : E M (pc + 2) ls (.inl v :: st) σ r σ') : E M pc ls st σ r σ' :=
  fun p l e s m args below meth c g A H locs lsC X hP hD hS hL => lv_ldc X.1 X.2.1 X.2.2.2.1 (X.2.2.2.2.1 _ hw) hd (k p l e s m args below meth c g A H locs lsC X hP hD hS hL)
theorem e_ldcS {index : Nat} (i : Nat) (hi : i < 9) (ho : sOw.getD i "" = mO M) (hx : sIx.getD i 0 = index) (hd : decode (mC M) pc = .ok (.ldc index, 2)) (k : E M (pc + 2) ls (.inr (100 + i, 0) :: st) σ r σ') : E M pc ls st σ r σ' := by
  intro p l e s m args below meth c g A H locs lsC X hP hD hS hL
  have h := X.2.2.2.2.2.2.2.2.2.1 i hi
  rw [ho, hx] at h
  exact va_ldcS X.1 X.2.1 X.2.2.2.1 h hd (k p l e s m args below meth c g A H locs lsC X hP hD hS hL)
theorem e_iload_n {n : Fin 4} {x : Int32} (hd : decode (mC M) pc = .ok (.iload_n n, 1)) (hl : ls[n.val]? = some (.inl x)) (k : E M (pc + 1) ls (.inl x :: st) σ r σ') : E M pc ls st σ r σ' :=
  fun p l e s m args below meth c g A H locs lsC X hP hD hS hL => lv_iload_n X.1 X.2.1 hd rfl (hL.2.2 _ _ hl) (k p l e s m args below meth c g A H locs lsC X hP hD hS hL)
theorem e_iload {n : Nat} {x : Int32} (hd : decode (mC M) pc = .ok (.iload n, 2)) (hl : ls[n]? = some (.inl x)) (k : E M (pc + 2) ls (.inl x :: st) σ r σ') : E M pc ls st σ r σ' :=
  fun p l e s m args below meth c g A H locs lsC X hP hD hS hL => lv_iload X.1 X.2.1 hd (hL.2.2 _ _ hl) (k p l e s m args below meth c g A H locs lsC X hP hD hS hL)
theorem e_aload_n {n : Fin 4} {q : Nat × Nat} (hd : decode (mC M) pc = .ok (.aload_n n, 1)) (hl : ls[n.val]? = some (.inr q)) (k : E M (pc + 1) ls (.inr q :: st) σ r σ') : E M pc ls st σ r σ' :=
  fun p l e s m args below meth c g A H locs lsC X hP hD hS hL => lv_aload_n X.1 X.2.1 hd rfl (hL.2.2 _ _ hl) (k p l e s m args below meth c g A H locs lsC X hP hD hS hL)
theorem e_aload {n : Nat} {q : Nat × Nat} (hd : decode (mC M) pc = .ok (.aload n, 2)) (hl : ls[n]? = some (.inr q)) (k : E M (pc + 2) ls (.inr q :: st) σ r σ') : E M pc ls st σ r σ' :=
  fun p l e s m args below meth c g A H locs lsC X hP hD hS hL => lv_aload X.1 X.2.1 hd (hL.2.2 _ _ hl) (k p l e s m args below meth c g A H locs lsC X hP hD hS hL)
/-- the locals behind a store -/
def lset : List rV → Nat → rV → List rV
  | [], _, v => [v]
  | _ :: t, 0, v => v :: t
  | a :: t, n + 1, v => a :: lset t n v
theorem lset_at : ∀ (ls : List rV) (i : Nat) (v : rV), i ≤ ls.length → ∀ j : Nat, (lset ls i v)[j]? = if j = i then some v else ls[j]?
  | [], i, v, h, j => by
    have hi : i = 0 := by simpa using h
    subst hi
    cases j with
    | zero => rfl
    | succ j => rfl
  | a :: t, 0, v, h, j => by
    cases j with
    | zero => rfl
    | succ j => rfl
  | a :: t, n + 1, v, h, j => by
    cases j with
    | zero => rfl
    | succ j =>
      show (lset t n v)[j]? = _
      rw [lset_at t n v (by simpa using h) j]
      by_cases hj : j = n
      · subst hj
        rw [if_pos rfl, if_pos rfl]
      · rw [if_neg hj, if_neg (by omega)]
        rfl
theorem Lh.store {g : rG} {lsC : Array Slot} {n i : Nat} {v : rV} (h : Lh g lsC n ls) (hi : i < n) (hl : i ≤ ls.length) : ∃ ls', storeLocals lsC i (cv g v) = some ls' ∧ Lh g ls' n (lset ls i v) := by
  have h1 : lv_has lsC n ((List.range ls.length).filterMap (fun j => ls[j]?.map (fun w => (j, cv g w)))) := by
    refine ⟨h.1, h.2.1, fun q hq => ?_⟩
    obtain ⟨j, -, hj⟩ := List.mem_filterMap.mp hq
    cases hw : ls[j]? with
    | none => rw [hw] at hj; cases hj
    | some w => rw [hw] at hj; cases hj; exact h.2.2 j w hw
  obtain ⟨ls', e, h2⟩ := lv_store1 h1 hi (cv_cat g v)
  refine ⟨ls', e, h2.1, h2.2.1, fun j w hj => ?_⟩
  rw [lset_at ls i v hl j] at hj
  by_cases hji : j = i
  · rw [if_pos hji] at hj
    cases hj
    subst hji
    exact h2.2.2 (j, cv g v) List.mem_cons_self
  · rw [if_neg hji] at hj
    refine h2.2.2 (j, cv g w) (List.mem_cons_of_mem _ (List.mem_filter.mpr ⟨List.mem_filterMap.mpr ⟨j, List.mem_range.mpr (List.getElem?_eq_some_iff.mp hj).1, by rw [hj]; rfl⟩, ?_⟩))
    have h3 : (j == i) = false := by simpa using hji
    have h4 : ((cv g w).category == 2) = false := by rw [cv_cat]; rfl
    simp [hji, h4]
theorem e_istore_n {n : Fin 4} {x : Int32} (hd : decode (mC M) pc = .ok (.istore_n n, 1)) (hn : (n : Nat) < mN M) (hl : (n : Nat) ≤ ls.length) (k : E M (pc + 1) (lset ls n (.inl x)) st σ r σ') : E M pc ls (.inl x :: st) σ r σ' := by
  intro p l e s m args below meth c g A H locs lsC X hP hD hS hL
  obtain ⟨ls', e', h'⟩ := hL.store (v := .inl x) hn hl
  obtain ⟨hx, hb, -⟩ := id X
  have kk := k p l e s m args below meth c g A H locs ls' X hP hD hS h'
  intro T hT X9
  obtain ⟨t, a, b⟩ := kk T hT X9
  refine ⟨t, ?_, b⟩
  have e2 : storeLocals lsC n (.int x) = some ls' := e'
  jvm_step X9.here [X9.here.top, ↓top_set X9.here.top, hx, hb, hd, e2, List.map, cv]
  exact a
theorem e_istore {n : Nat} {x : Int32} (hd : decode (mC M) pc = .ok (.istore n, 2)) (hn : n < mN M) (hl : n ≤ ls.length) (k : E M (pc + 2) (lset ls n (.inl x)) st σ r σ') : E M pc ls (.inl x :: st) σ r σ' := by
  intro p l e s m args below meth c g A H locs lsC X hP hD hS hL
  obtain ⟨ls', e', h'⟩ := hL.store (v := .inl x) hn hl
  obtain ⟨hx, hb, -⟩ := id X
  have kk := k p l e s m args below meth c g A H locs ls' X hP hD hS h'
  intro T hT X9
  obtain ⟨t, a, b⟩ := kk T hT X9
  refine ⟨t, ?_, b⟩
  have e2 : storeLocals lsC n (.int x) = some ls' := e'
  jvm_step X9.here [X9.here.top, ↓top_set X9.here.top, hx, hb, hd, e2, List.map, cv]
  exact a
theorem e_astore_n {n : Fin 4} {q : Nat × Nat} (hd : decode (mC M) pc = .ok (.astore_n n, 1)) (hn : (n : Nat) < mN M) (hl : (n : Nat) ≤ ls.length) (k : E M (pc + 1) (lset ls n (.inr q)) st σ r σ') : E M pc ls (.inr q :: st) σ r σ' := by
  intro p l e s m args below meth c g A H locs lsC X hP hD hS hL
  obtain ⟨ls', e', h'⟩ := hL.store (v := .inr q) hn hl
  obtain ⟨hx, hb, -⟩ := id X
  have kk := k p l e s m args below meth c g A H locs ls' X hP hD hS h'
  intro T hT X9
  obtain ⟨t, a, b⟩ := kk T hT X9
  refine ⟨t, ?_, b⟩
  have e2 : storeLocals lsC n (.ref (g.2.2 q)) = some ls' := e'
  jvm_step X9.here [X9.here.top, ↓top_set X9.here.top, hx, hb, hd, e2, List.map, cv]
  exact ⟨rfl, a⟩
theorem e_iinc {n : Nat} {d : Int} {x : Int32} (hd : decode (mC M) pc = .ok (.iinc n d, 3)) (hx0 : ls[n]? = some (.inl x)) (hn : n < mN M) (hl : n ≤ ls.length) (k : E M (pc + 3) (lset ls n (.inl (x + Int32.ofInt d))) st σ r σ') : E M pc ls st σ r σ' := by
  intro p l e s m args below meth c g A H locs lsC X hP hD hS hL
  obtain ⟨ls', e', h'⟩ := hL.store (v := .inl (x + Int32.ofInt d)) hn hl
  obtain ⟨hx, hb, -⟩ := id X
  have kk := k p l e s m args below meth c g A H locs ls' X hP hD hS h'
  have hg : lsC[n]? = some (.val (.int x)) := hL.2.2 _ _ hx0
  intro T hT X9
  obtain ⟨t, a, b⟩ := kk T hT X9
  refine ⟨t, ?_, b⟩
  have e2 : storeLocals lsC n (.int (x + Int32.ofInt d)) = some ls' := e'
  jvm_step X9.here [X9.here.top, ↓top_set X9.here.top, hx, hb, hd, hg, e2]
  exact a
/-- fewer locals -/
theorem e_drop (n : Nat) (k : E M pc (ls.take n) st σ r σ') : E M pc ls st σ r σ' := by
  intro p l e s m args below meth c g A H locs lsC X hP hD hS hL
  refine k p l e s m args below meth c g A H locs lsC X hP hD hS ⟨hL.1, hL.2.1, fun i v hi => hL.2.2 i v ?_⟩
  rw [List.getElem?_take] at hi
  split at hi
  · exact hi
  · cases hi
theorem e_iadd {x y : Int32} (hd : decode (mC M) pc = .ok (.iadd, 1)) (k : E M (pc + 1) ls (.inl (x + y) :: st) σ r σ') : E M pc ls (.inl y :: .inl x :: st) σ r σ' :=
  fun p l e s m args below meth c g A H locs lsC X hP hD hS hL => lv_iadd X.1 X.2.1 hd (k p l e s m args below meth c g A H locs lsC X hP hD hS hL)
theorem e_isub {x y : Int32} (hd : decode (mC M) pc = .ok (.isub, 1)) (k : E M (pc + 1) ls (.inl (x - y) :: st) σ r σ') : E M pc ls (.inl y :: .inl x :: st) σ r σ' :=
  fun p l e s m args below meth c g A H locs lsC X hP hD hS hL => lv_isub X.1 X.2.1 hd (k p l e s m args below meth c g A H locs lsC X hP hD hS hL)
theorem e_imul {x y : Int32} (hd : decode (mC M) pc = .ok (.imul, 1)) (k : E M (pc + 1) ls (.inl (x * y) :: st) σ r σ') : E M pc ls (.inl y :: .inl x :: st) σ r σ' :=
  fun p l e s m args below meth c g A H locs lsC X hP hD hS hL => lv_imul X.1 X.2.1 hd (k p l e s m args below meth c g A H locs lsC X hP hD hS hL)
theorem e_iand {x y : Int32} (hd : decode (mC M) pc = .ok (.iand, 1)) (k : E M (pc + 1) ls (.inl (x &&& y) :: st) σ r σ') : E M pc ls (.inl y :: .inl x :: st) σ r σ' :=
  fun p l e s m args below meth c g A H locs lsC X hP hD hS hL => lv_iand X.1 X.2.1 hd (k p l e s m args below meth c g A H locs lsC X hP hD hS hL)
theorem e_ior {x y : Int32} (hd : decode (mC M) pc = .ok (.ior, 1)) (k : E M (pc + 1) ls (.inl (x ||| y) :: st) σ r σ') : E M pc ls (.inl y :: .inl x :: st) σ r σ' :=
  fun p l e s m args below meth c g A H locs lsC X hP hD hS hL => lv_ior X.1 X.2.1 hd (k p l e s m args below meth c g A H locs lsC X hP hD hS hL)
theorem e_ishl {x y : Int32} (hd : decode (mC M) pc = .ok (.ishl, 1)) (k : E M (pc + 1) ls (.inl (x <<< (y &&& 31)) :: st) σ r σ') : E M pc ls (.inl y :: .inl x :: st) σ r σ' :=
  fun p l e s m args below meth c g A H locs lsC X hP hD hS hL => lv_ishl X.1 X.2.1 hd (k p l e s m args below meth c g A H locs lsC X hP hD hS hL)
theorem e_ishr {x y : Int32} (hd : decode (mC M) pc = .ok (.ishr, 1)) (k : E M (pc + 1) ls (.inl (x >>> (y &&& 31)) :: st) σ r σ') : E M pc ls (.inl y :: .inl x :: st) σ r σ' :=
  fun p l e s m args below meth c g A H locs lsC X hP hD hS hL => lv_ishr X.1 X.2.1 hd (k p l e s m args below meth c g A H locs lsC X hP hD hS hL)
theorem e_idiv {x y : Int32} (hd : decode (mC M) pc = .ok (.idiv, 1)) (hy : ¬ y = 0) (k : E M (pc + 1) ls (.inl (x / y) :: st) σ r σ') : E M pc ls (.inl y :: .inl x :: st) σ r σ' :=
  fun p l e s m args below meth c g A H locs lsC X hP hD hS hL => lv_idiv X.1 X.2.1 hd hy (k p l e s m args below meth c g A H locs lsC X hP hD hS hL)
theorem e_irem {x y : Int32} (hd : decode (mC M) pc = .ok (.irem, 1)) (hy : ¬ y = 0) (k : E M (pc + 1) ls (.inl (x - x / y * y) :: st) σ r σ') : E M pc ls (.inl y :: .inl x :: st) σ r σ' :=
  fun p l e s m args below meth c g A H locs lsC X hP hD hS hL => lv_irem X.1 X.2.1 hd hy (k p l e s m args below meth c g A H locs lsC X hP hD hS hL)
theorem e_i2b {x : Int32} (hd : decode (mC M) pc = .ok (.i2b, 1)) (k : E M (pc + 1) ls (.inl x.toInt8.toInt32 :: st) σ r σ') : E M pc ls (.inl x :: st) σ r σ' :=
  fun p l e s m args below meth c g A H locs lsC X hP hD hS hL => lv_i2b X.1 X.2.1 hd rfl (k p l e s m args below meth c g A H locs lsC X hP hD hS hL)
theorem e_i2c {x : Int32} (hd : decode (mC M) pc = .ok (.i2c, 1)) {v : Int32} (hv : (x.toUInt32 % 65536).toInt32 = v) (k : E M (pc + 1) ls (.inl v :: st) σ r σ') : E M pc ls (.inl x :: st) σ r σ' :=
  fun p l e s m args below meth c g A H locs lsC X hP hD hS hL => lv_i2c X.1 X.2.1 hd hv (k p l e s m args below meth c g A H locs lsC X hP hD hS hL)
theorem e_dup {v : rV} (hd : decode (mC M) pc = .ok (.dup, 1)) (k : E M (pc + 1) ls (v :: v :: st) σ r σ') : E M pc ls (v :: st) σ r σ' :=
  fun p l e s m args below meth c g A H locs lsC X hP hD hS hL => lv_dup X.1 X.2.1 hd (cv_cat g v) (k p l e s m args below meth c g A H locs lsC X hP hD hS hL)
theorem e_pop {v : rV} (hd : decode (mC M) pc = .ok (.pop, 1)) (k : E M (pc + 1) ls st σ r σ') : E M pc ls (v :: st) σ r σ' :=
  fun p l e s m args below meth c g A H locs lsC X hP hD hS hL => lv_pop X.1 X.2.1 hd (cv_cat g v) (k p l e s m args below meth c g A H locs lsC X hP hD hS hL)
theorem e_dup2 {v w : rV} (hd : decode (mC M) pc = .ok (.dup2, 1)) (k : E M (pc + 1) ls (v :: w :: v :: w :: st) σ r σ') : E M pc ls (v :: w :: st) σ r σ' :=
  fun p l e s m args below meth c g A H locs lsC X hP hD hS hL => lv_dup2_11 X.1 X.2.1 hd (cv_cat g v) (cv_cat g w) (k p l e s m args below meth c g A H locs lsC X hP hD hS hL)
theorem e_goto {off : Int} {tgt : Nat} (hd : decode (mC M) pc = .ok (.goto off, 3)) (ht : (pc : Int) + off = (tgt : Int)) (k : E M tgt ls st σ r σ') : E M pc ls st σ r σ' :=
  fun p l e s m args below meth c g A H locs lsC X hP hD hS hL => lv_goto X.1 X.2.1 hd ht (k p l e s m args below meth c g A H locs lsC X hP hD hS hL)
theorem e_if_eq {x : Int32} {off : Int} {tgt : Nat} (hd : decode (mC M) pc = .ok (.ifCond .eq off, 3)) (ht : (pc : Int) + off = (tgt : Int)) (kt : x = 0 → E M tgt ls st σ r σ') (kf : ¬ x = 0 → E M (pc + 3) ls st σ r σ') : E M pc ls (.inl x :: st) σ r σ' :=
  fun p l e s m args below meth c g A H locs lsC X hP hD hS hL => lv_if_eq X.1 X.2.1 hd ht (fun h => kt h p l e s m args below meth c g A H locs lsC X hP hD hS hL) (fun h => kf h p l e s m args below meth c g A H locs lsC X hP hD hS hL)
theorem e_icmp_eq {x y : Int32} {off : Int} {tgt : Nat} (hd : decode (mC M) pc = .ok (.if_icmp .eq off, 3)) (ht : (pc : Int) + off = (tgt : Int)) (kt : x = y → E M tgt ls st σ r σ') (kf : ¬ x = y → E M (pc + 3) ls st σ r σ') : E M pc ls (.inl y :: .inl x :: st) σ r σ' :=
  fun p l e s m args below meth c g A H locs lsC X hP hD hS hL => lv_icmp_eq X.1 X.2.1 hd ht (fun h => kt h p l e s m args below meth c g A H locs lsC X hP hD hS hL) (fun h => kf h p l e s m args below meth c g A H locs lsC X hP hD hS hL)
theorem e_if_ne {x : Int32} {off : Int} {tgt : Nat} (hd : decode (mC M) pc = .ok (.ifCond .ne off, 3)) (ht : (pc : Int) + off = (tgt : Int)) (kt : ¬ x = 0 → E M tgt ls st σ r σ') (kf : x = 0 → E M (pc + 3) ls st σ r σ') : E M pc ls (.inl x :: st) σ r σ' :=
  fun p l e s m args below meth c g A H locs lsC X hP hD hS hL => lv_if_ne X.1 X.2.1 hd ht (fun h => kt h p l e s m args below meth c g A H locs lsC X hP hD hS hL) (fun h => kf h p l e s m args below meth c g A H locs lsC X hP hD hS hL)
theorem e_icmp_ne {x y : Int32} {off : Int} {tgt : Nat} (hd : decode (mC M) pc = .ok (.if_icmp .ne off, 3)) (ht : (pc : Int) + off = (tgt : Int)) (kt : ¬ x = y → E M tgt ls st σ r σ') (kf : x = y → E M (pc + 3) ls st σ r σ') : E M pc ls (.inl y :: .inl x :: st) σ r σ' :=
  fun p l e s m args below meth c g A H locs lsC X hP hD hS hL => lv_icmp_ne X.1 X.2.1 hd ht (fun h => kt h p l e s m args below meth c g A H locs lsC X hP hD hS hL) (fun h => kf h p l e s m args below meth c g A H locs lsC X hP hD hS hL)
theorem e_if_lt {x : Int32} {off : Int} {tgt : Nat} (hd : decode (mC M) pc = .ok (.ifCond .lt off, 3)) (ht : (pc : Int) + off = (tgt : Int)) (kt : x < 0 → E M tgt ls st σ r σ') (kf : ¬ x < 0 → E M (pc + 3) ls st σ r σ') : E M pc ls (.inl x :: st) σ r σ' :=
  fun p l e s m args below meth c g A H locs lsC X hP hD hS hL => lv_if_lt X.1 X.2.1 hd ht (fun h => kt h p l e s m args below meth c g A H locs lsC X hP hD hS hL) (fun h => kf h p l e s m args below meth c g A H locs lsC X hP hD hS hL)
theorem e_icmp_lt {x y : Int32} {off : Int} {tgt : Nat} (hd : decode (mC M) pc = .ok (.if_icmp .lt off, 3)) (ht : (pc : Int) + off = (tgt : Int)) (kt : x < y → E M tgt ls st σ r σ') (kf : ¬ x < y → E M (pc + 3) ls st σ r σ') : E M pc ls (.inl y :: .inl x :: st) σ r σ' :=
  fun p l e s m args below meth c g A H locs lsC X hP hD hS hL => lv_icmp_lt X.1 X.2.1 hd ht (fun h => kt h p l e s m args below meth c g A H locs lsC X hP hD hS hL) (fun h => kf h p l e s m args below meth c g A H locs lsC X hP hD hS hL)
theorem e_if_ge {x : Int32} {off : Int} {tgt : Nat} (hd : decode (mC M) pc = .ok (.ifCond .ge off, 3)) (ht : (pc : Int) + off = (tgt : Int)) (kt : 0 ≤ x → E M tgt ls st σ r σ') (kf : ¬ 0 ≤ x → E M (pc + 3) ls st σ r σ') : E M pc ls (.inl x :: st) σ r σ' :=
  fun p l e s m args below meth c g A H locs lsC X hP hD hS hL => lv_if_ge X.1 X.2.1 hd ht (fun h => kt h p l e s m args below meth c g A H locs lsC X hP hD hS hL) (fun h => kf h p l e s m args below meth c g A H locs lsC X hP hD hS hL)
theorem e_icmp_ge {x y : Int32} {off : Int} {tgt : Nat} (hd : decode (mC M) pc = .ok (.if_icmp .ge off, 3)) (ht : (pc : Int) + off = (tgt : Int)) (kt : y ≤ x → E M tgt ls st σ r σ') (kf : ¬ y ≤ x → E M (pc + 3) ls st σ r σ') : E M pc ls (.inl y :: .inl x :: st) σ r σ' :=
  fun p l e s m args below meth c g A H locs lsC X hP hD hS hL => lv_icmp_ge X.1 X.2.1 hd ht (fun h => kt h p l e s m args below meth c g A H locs lsC X hP hD hS hL) (fun h => kf h p l e s m args below meth c g A H locs lsC X hP hD hS hL)
theorem e_if_gt {x : Int32} {off : Int} {tgt : Nat} (hd : decode (mC M) pc = .ok (.ifCond .gt off, 3)) (ht : (pc : Int) + off = (tgt : Int)) (kt : 0 < x → E M tgt ls st σ r σ') (kf : ¬ 0 < x → E M (pc + 3) ls st σ r σ') : E M pc ls (.inl x :: st) σ r σ' :=
  fun p l e s m args below meth c g A H locs lsC X hP hD hS hL => lv_if_gt X.1 X.2.1 hd ht (fun h => kt h p l e s m args below meth c g A H locs lsC X hP hD hS hL) (fun h => kf h p l e s m args below meth c g A H locs lsC X hP hD hS hL)
theorem e_icmp_gt {x y : Int32} {off : Int} {tgt : Nat} (hd : decode (mC M) pc = .ok (.if_icmp .gt off, 3)) (ht : (pc : Int) + off = (tgt : Int)) (kt : y < x → E M tgt ls st σ r σ') (kf : ¬ y < x → E M (pc + 3) ls st σ r σ') : E M pc ls (.inl y :: .inl x :: st) σ r σ' :=
  fun p l e s m args below meth c g A H locs lsC X hP hD hS hL => lv_icmp_gt X.1 X.2.1 hd ht (fun h => kt h p l e s m args below meth c g A H locs lsC X hP hD hS hL) (fun h => kf h p l e s m args below meth c g A H locs lsC X hP hD hS hL)
theorem e_if_le {x : Int32} {off : Int} {tgt : Nat} (hd : decode (mC M) pc = .ok (.ifCond .le off, 3)) (ht : (pc : Int) + off = (tgt : Int)) (kt : x ≤ 0 → E M tgt ls st σ r σ') (kf : ¬ x ≤ 0 → E M (pc + 3) ls st σ r σ') : E M pc ls (.inl x :: st) σ r σ' :=
  fun p l e s m args below meth c g A H locs lsC X hP hD hS hL => lv_if_le X.1 X.2.1 hd ht (fun h => kt h p l e s m args below meth c g A H locs lsC X hP hD hS hL) (fun h => kf h p l e s m args below meth c g A H locs lsC X hP hD hS hL)
theorem e_icmp_le {x y : Int32} {off : Int} {tgt : Nat} (hd : decode (mC M) pc = .ok (.if_icmp .le off, 3)) (ht : (pc : Int) + off = (tgt : Int)) (kt : x ≤ y → E M tgt ls st σ r σ') (kf : ¬ x ≤ y → E M (pc + 3) ls st σ r σ') : E M pc ls (.inl y :: .inl x :: st) σ r σ' :=
  fun p l e s m args below meth c g A H locs lsC X hP hD hS hL => lv_icmp_le X.1 X.2.1 hd ht (fun h => kt h p l e s m args below meth c g A H locs lsC X hP hD hS hL) (fun h => kf h p l e s m args below meth c g A H locs lsC X hP hD hS hL)
end RR
end
section
/-! A CLASS: its number, name, fields, how many, their types -/
def rCl (ci : Nat) (C : String) (T : u_T) (N : Nat) (ty : Nat → FieldType) : Prop :=
  vwCl[ci]? = some (C, T, N) ∧ nfs.getD ci 0 = N ∧ (∀ w ∈ u_ws C T N, w ∈ gW) ∧ (∀ k, k < N → parseFieldDescriptor (T k).2.2.1 = some (ty k)) ∧ (∀ a, a < N → ∀ b, b < N → a ≠ b → (T a).2.1 ≠ (T b).2.1)
theorem kX0 : rCl 0 RX0 TX0 9 tyX0 := ⟨rfl, rfl, inG0, tyX0_ok, nmX0⟩
theorem kX1 : rCl 1 RX1 TX1 6 tyX1 := ⟨rfl, rfl, inG1, tyX1_ok, nmX1⟩
theorem kX2 : rCl 2 RX2 TX2 8 tyX2 := ⟨rfl, rfl, inG2, tyX2_ok, nmX2⟩
theorem kX3 : rCl 3 RX3 TX3 5 tyX3 := ⟨rfl, rfl, inG3, tyX3_ok, nmX3⟩
theorem kX4 : rCl 4 RX4 TX4 2 tyX4 := ⟨rfl, rfl, inG4, tyX4_ok, nmX4⟩
theorem kX5 : rCl 5 RX5 TX5 11 tyX5 := ⟨rfl, rfl, inG5, tyX5_ok, nmX5⟩
theorem kX6 : rCl 6 RX6 TX6 37 tyX6 := ⟨rfl, rfl, inG6, tyX6_ok, nmX6⟩
section RH
variable {M : rM} {pc : Nat} {ls st : List rV} {σ σ' : rS} {r : Option rV} {ci N : Nat} {C : String} {T : u_T} {ty : Nat → FieldType}
/-- a field is read: its value as the picture has it -/
theorem e_get {o k idx : Nat} {v : rV} (hc : rCl ci C T N ty) (ho : isO o ci) (hk : k < N) (hf : Cond.fieldLink (mO M) idx (T k).1 (T k).2.1 (T k).2.2.1 ∈ gW) (hd : decode (mC M) pc = .ok (.getfield idx, 3)) (hv : ∀ g : rG, fvl g σ o k = cv g v) (kk : E M (pc + 3) ls (v :: st) σ r σ') : E M pc ls (.inr (o, 0) :: st) σ r σ' := by
  intro p l e s m args below meth c g A H locs lsC X hP hD hS hL
  obtain ⟨h1, h2, h3, h4, h5⟩ := hc
  obtain ⟨q0, -, hq⟩ := rw_at (g := g) (σ := σ) (cL_obj o ho.1)
  have he : (rw_ g σ)[q0]? = some (g.2.2 (o, 0), .inr (ci, (List.range N).map (fvl g σ o))) := by
    rw [hq]
    show some (g.2.2 (o, 0), Sum.inr (kls o, (List.range (nfs.getD (kls o) 0)).map (fvl g σ o))) = _
    rw [ho.2, h2]
  exact va_get (D := g.1) (T := T) (N := N) (ci := ci) X.1 X.2.1 X.2.2.2.2.1 h3 X.2.2.2.1 X.2.2.2.2.2.2.2.1 hP q0 he h1 k hk (X.2.2.2.2.1 _ hf) (fun _ h9 => h9) (v := cv g v) (by rw [List.getElem?_map, List.getElem?_range hk, Option.map_some, hv]) hd (kk p l e s m args below meth c g A H locs lsC X hP hD hS hL)
theorem fv_i {g : rG} {o k : Nat} (ho : isO o ci) (h : fk ci k = 0) : fvl g σ o k = cv g (.inl (σ o k 0)) := by
  unfold fvl
  rw [ho.2, h]
  rfl
theorem fv_a {g : rG} {o k : Nat} (ho : isO o ci) (h : isA (fk ci k) = true) : fvl g σ o k = cv g (.inr (o, k + 1)) := by
  unfold fvl fvk
  rw [ho.2, if_pos h]
  rfl
theorem fv_o {g : rG} {o k t : Nat} (ho : isO o ci) (h : fk ci k = 4) (ht : tgt o k = t) : fvl g σ o k = cv g (.inr (t, 0)) := by
  unfold fvl
  rw [ho.2, h, ← ht]
  rfl
theorem fv_d {g : rG} {o k t : Nat} (ho : isO o ci) (h : fk ci k = 5) (ht : (σ o k 0).toNatClampNeg = t) : fvl g σ o k = cv g (.inr (t, 0)) := by
  unfold fvl
  rw [ho.2, h, ← ht]
  rfl
/-- getfield of a number -/
theorem e_getI {o k idx : Nat} (hc : rCl ci C T N ty) (ho : isO o ci) (hk : k < N) (hf : Cond.fieldLink (mO M) idx (T k).1 (T k).2.1 (T k).2.2.1 ∈ gW) (h0 : fk ci k = 0) (hd : decode (mC M) pc = .ok (.getfield idx, 3)) (kk : E M (pc + 3) ls (.inl (σ o k 0) :: st) σ r σ') : E M pc ls (.inr (o, 0) :: st) σ r σ' :=
  e_get hc ho hk hf hd (fun _ => fv_i ho h0) kk
/-- getfield of an array -/
theorem e_getA {o k idx : Nat} (hc : rCl ci C T N ty) (ho : isO o ci) (hk : k < N) (hf : Cond.fieldLink (mO M) idx (T k).1 (T k).2.1 (T k).2.2.1 ∈ gW) (h0 : isA (fk ci k) = true) (hd : decode (mC M) pc = .ok (.getfield idx, 3)) (kk : E M (pc + 3) ls (.inr (o, k + 1) :: st) σ r σ') : E M pc ls (.inr (o, 0) :: st) σ r σ' :=
  e_get hc ho hk hf hd (fun _ => fv_a ho h0) kk
/-- getfield of an object that stays -/
theorem e_getO {o k idx : Nat} (t : Nat) (hc : rCl ci C T N ty) (ho : isO o ci) (hk : k < N) (hf : Cond.fieldLink (mO M) idx (T k).1 (T k).2.1 (T k).2.2.1 ∈ gW) (h0 : fk ci k = 4) (ht : tgt o k = t) (hd : decode (mC M) pc = .ok (.getfield idx, 3)) (kk : E M (pc + 3) ls (.inr (t, 0) :: st) σ r σ') : E M pc ls (.inr (o, 0) :: st) σ r σ' :=
  e_get hc ho hk hf hd (fun _ => fv_o ho h0 ht) kk
/-- getfield of an object that changes -/
theorem e_getD {o k idx : Nat} (t : Nat) (hc : rCl ci C T N ty) (ho : isO o ci) (hk : k < N) (hf : Cond.fieldLink (mO M) idx (T k).1 (T k).2.1 (T k).2.2.1 ∈ gW) (h0 : fk ci k = 5) (ht : (σ o k 0).toNatClampNeg = t) (hd : decode (mC M) pc = .ok (.getfield idx, 3)) (kk : E M (pc + 3) ls (.inr (t, 0) :: st) σ r σ') : E M pc ls (.inr (o, 0) :: st) σ r σ' :=
  e_get hc ho hk hf hd (fun _ => fv_d ho h0 ht) kk
/-- a field is written -/
theorem e_put {o k idx : Nat} {v : rV} {x : Int32} (hc : rCl ci C T N ty) (ho : isO o ci) (hk : k < N) (hf : Cond.fieldLink (mO M) idx (T k).1 (T k).2.1 (T k).2.2.1 ∈ gW) (hfin : (T k).2.2.2 = false) (h0 : isA (fk ci k) = false) (hv : ∀ g : rG, fvl g (up σ o k 0 x) o k = cv g v) (hn : ∀ g : rG, narrow (ty k) (cv g v) = cv g v ∧ fits (ty k) (cv g v) = true) (hd : decode (mC M) pc = .ok (.putfield idx, 3)) (kk : E M (pc + 3) ls st (up σ o k 0 x) r σ') : E M pc ls (v :: .inr (o, 0) :: st) σ r σ' := by
  intro p l e s m args below meth c g A H locs lsC X hP hD hS hL
  obtain ⟨h1, h2, h3, h4, h5⟩ := hc
  obtain ⟨q0, hq0, hq⟩ := rw_at (g := g) (σ := σ) (cL_obj o ho.1)
  have he : (rw_ g σ)[q0]? = some (g.2.2 (o, 0), .inr (ci, (List.range N).map (fvl g σ o))) := by
    rw [hq]
    show some (g.2.2 (o, 0), Sum.inr (kls o, (List.range (nfs.getD (kls o) 0)).map (fvl g σ o))) = _
    rw [ho.2, h2]
  have hcf := cont_field (g := g) (σ := σ) (o := o) (k := k) (v := x) (w := cv g v) (by rw [ho.2, h2]; exact hk) (by rw [ho.2]; exact h0) (hv g)
  rw [ho.2, h2] at hcf
  have hset := rw_set hq0 hcf.1 hcf.2
  refine va_put (D := g.1) (T := T) (N := N) (ci := ci) X.1 X.2.1 X.2.2.2.2.1 h3 ty h4 h5 X.2.2.2.1 X.2.2.2.2.2.2.2.1 hP hD hS q0 he h1 k hk (X.2.2.2.2.1 _ hf) (fun _ h9 => h9) hfin (h4 k hk) (hn g).1 (hn g).2 (by simpa using hk) hd (fun H1 locs1 hP1 hD1 hS1 => ?_)
  rw [hset] at hP1 hD1
  exact kk p l e s m args below meth c g A H1 locs1 lsC X hP1 hD1 hS1 hL
/-- putfield of an int -/
theorem e_putI {o k idx : Nat} {x : Int32} (hc : rCl ci C T N ty) (ho : isO o ci) (hk : k < N) (hf : Cond.fieldLink (mO M) idx (T k).1 (T k).2.1 (T k).2.2.1 ∈ gW) (hfin : (T k).2.2.2 = false) (h0 : fk ci k = 0) (hty : ty k = .int) (hd : decode (mC M) pc = .ok (.putfield idx, 3)) (kk : E M (pc + 3) ls st (up σ o k 0 x) r σ') : E M pc ls (.inl x :: .inr (o, 0) :: st) σ r σ' :=
  e_put hc ho hk hf hfin (by rw [h0]; rfl) (fun g => by rw [fv_i ho h0, up_self]) (fun g => by rw [hty]; exact ⟨rfl, rfl⟩) hd kk
/-- putfield of a boolean -/
theorem e_putZ {o k idx : Nat} {x : Int32} (hc : rCl ci C T N ty) (ho : isO o ci) (hk : k < N) (hf : Cond.fieldLink (mO M) idx (T k).1 (T k).2.1 (T k).2.2.1 ∈ gW) (hfin : (T k).2.2.2 = false) (h0 : fk ci k = 0) (hty : ty k = .boolean) (hx : x = 0 ∨ x = 1) (hd : decode (mC M) pc = .ok (.putfield idx, 3)) (kk : E M (pc + 3) ls st (up σ o k 0 x) r σ') : E M pc ls (.inl x :: .inr (o, 0) :: st) σ r σ' :=
  e_put hc ho hk hf hfin (by rw [h0]; rfl) (fun g => by rw [fv_i ho h0, up_self]) (fun g => by rw [hty]; rcases hx with rfl | rfl <;> exact ⟨rfl, rfl⟩) hd kk
/-- putfield of an object that changes -/
theorem e_putD {o k idx t : Nat} {nm : String} (hc : rCl ci C T N ty) (ho : isO o ci) (hk : k < N) (hf : Cond.fieldLink (mO M) idx (T k).1 (T k).2.1 (T k).2.2.1 ∈ gW) (hfin : (T k).2.2.2 = false) (h0 : fk ci k = 5) (hty : ty k = .object nm) (ht : t < 2 ^ 31) (hd : decode (mC M) pc = .ok (.putfield idx, 3)) (kk : E M (pc + 3) ls st (up σ o k 0 (nI t)) r σ') : E M pc ls (.inr (t, 0) :: .inr (o, 0) :: st) σ r σ' :=
  e_put hc ho hk hf hfin (by rw [h0]; rfl) (fun g => by rw [fv_d (t := t) ho h0 (by rw [up_self, nI_clamp ht])]) (fun g => by rw [hty]; exact ⟨rfl, rfl⟩) hd kk
theorem arr_at {g : rG} {o k : Nat} (ho : isO o ci) (h0 : isA (fk ci k) = true) : ∃ p : Nat, cL[p]? = some (o, k + 1) ∧ (rw_ g σ)[p]? = some (g.2.2 (o, k + 1), .inl (g.2.1 (fk ci k), (fl ci k, .inl (rf (σ o k))))) := by
  have h1 : isA (fk (kls o) k) = true := by rw [ho.2]; exact h0
  obtain ⟨p, hp, h⟩ := rw_at (g := g) (σ := σ) (cL_arr o ho.1 k (fk_lt _ (kls_lt o) k h1) h1)
  refine ⟨p, hp, ?_⟩
  rw [h]
  show some (g.2.2 (o, k + 1), Sum.inl (g.2.1 (fk (kls o) k), (fl (kls o) k, Sum.inl (rf (σ o k))))) = _
  rw [ho.2]
theorem e_alen {o k : Nat} {n : Int32} (ho : isO o ci) (h0 : isA (fk ci k) = true) (hn : nI (fl ci k) = n) (hd : decode (mC M) pc = .ok (.arraylength, 1)) (kk : E M (pc + 1) ls (.inl n :: st) σ r σ') : E M pc ls (.inr (o, k + 1) :: st) σ r σ' := by
  intro p l e s m args below meth c g A H locs lsC X hP hD hS hL
  obtain ⟨q0, -, hq⟩ := arr_at (g := g) (σ := σ) ho h0
  have kk2 := kk p l e s m args below meth c g A H locs lsC X hP hD hS hL
  have ht : ∃ t : FieldType, (rT g)[fk ci k]? = some (g.2.1 (fk ci k), t) := by
    generalize fk ci k = x at h0 ⊢
    match x, h0 with
    | 1, _ => exact ⟨_, rfl⟩
    | 2, _ => exact ⟨_, rfl⟩
    | 3, _ => exact ⟨_, rfl⟩
  obtain ⟨t, ht⟩ := ht
  exact va_alen (D := g.1) X.1 X.2.1 X.2.2.2.2.2.2.2.1 hP q0 _ hq ht hn hd kk2
theorem vin_nn {i : Int32} {n : Nat} (h : vp_in i n) : ¬ i < 0 := fun z => h (Or.inl z)
theorem e_iald {o k : Nat} {i : Int32} (ho : isO o ci) (h0 : fk ci k = 1) (hi : vp_in i (fl ci k)) (hd : decode (mC M) pc = .ok (.iaload, 1)) (kk : E M (pc + 1) ls (.inl (σ o k i) :: st) σ r σ') : E M pc ls (.inl i :: .inr (o, k + 1) :: st) σ r σ' := by
  intro p l e s m args below meth c g A H locs lsC X hP hD hS hL
  obtain ⟨q0, -, hq⟩ := arr_at (g := g) (σ := σ) ho (by rw [h0]; rfl)
  have kk2 := kk p l e s m args below meth c g A H locs lsC X hP hD hS hL
  refine va_iald (D := g.1) (tys := rT g) X.1 X.2.1 X.2.2.2.2.2.2.2.1 hP q0 1 hq (by rw [h0]; rfl) hi hd ?_
  rw [rf_at (vin_nn hi)]
  exact kk2
theorem e_bald {o k : Nat} {i : Int32} (ho : isO o ci) (h0 : fk ci k = 2) (hi : vp_in i (fl ci k)) (hd : decode (mC M) pc = .ok (.baload, 1)) (kk : E M (pc + 1) ls (.inl (σ o k i) :: st) σ r σ') : E M pc ls (.inl i :: .inr (o, k + 1) :: st) σ r σ' := by
  intro p l e s m args below meth c g A H locs lsC X hP hD hS hL
  obtain ⟨q0, -, hq⟩ := arr_at (g := g) (σ := σ) ho (by rw [h0]; rfl)
  have kk2 := kk p l e s m args below meth c g A H locs lsC X hP hD hS hL
  refine va_bald (D := g.1) (tys := rT g) X.1 X.2.1 X.2.2.2.2.2.2.2.1 hP q0 2 hq (by rw [h0]; rfl) hi hd ?_
  rw [rf_at (vin_nn hi)]
  exact kk2
theorem e_zald {o k : Nat} {i : Int32} (ho : isO o ci) (h0 : fk ci k = 3) (hi : vp_in i (fl ci k)) (hd : decode (mC M) pc = .ok (.baload, 1)) (kk : E M (pc + 1) ls (.inl (σ o k i) :: st) σ r σ') : E M pc ls (.inl i :: .inr (o, k + 1) :: st) σ r σ' := by
  intro p l e s m args below meth c g A H locs lsC X hP hD hS hL
  obtain ⟨q0, -, hq⟩ := arr_at (g := g) (σ := σ) ho (by rw [h0]; rfl)
  have kk2 := kk p l e s m args below meth c g A H locs lsC X hP hD hS hL
  refine va_zald (D := g.1) (tys := rT g) X.1 X.2.1 X.2.2.2.2.2.2.2.1 hP q0 3 hq (by rw [h0]; rfl) hi hd ?_
  rw [rf_at (vin_nn hi)]
  exact kk2
theorem e_iast {o k : Nat} {i x : Int32} (ho : isO o ci) (h0 : fk ci k = 1) (hi : vp_in i (fl ci k)) (hd : decode (mC M) pc = .ok (.iastore, 1)) (kk : E M (pc + 1) ls st (up σ o k i x) r σ') : E M pc ls (.inl x :: .inl i :: .inr (o, k + 1) :: st) σ r σ' := by
  intro p l e s m args below meth c g A H locs lsC X hP hD hS hL
  obtain ⟨q0, hq0, hq⟩ := arr_at (g := g) (σ := σ) ho (by rw [h0]; rfl)
  have hcf := cont_arr (g := g) (σ := σ) (o := o) (k := k) (i := i) (v := x) (vin_nn hi) (by rw [ho.2, h0]; rfl)
  rw [ho.2] at hcf
  have hset := rw_set hq0 hcf.1 hcf.2
  refine va_iast (D := g.1) (tys := rT g) X.1 X.2.1 X.2.2.2.2.2.2.2.1 hP hD hS q0 1 hq (by rw [h0]; rfl) hi hd (fun H1 locs1 hP1 hD1 hS1 => ?_)
  rw [hset] at hP1 hD1
  exact kk p l e s m args below meth c g A H1 locs1 lsC X hP1 hD1 hS1 hL
theorem e_bast {o k : Nat} {i x : Int32} (ho : isO o ci) (h0 : fk ci k = 2) (hi : vp_in i (fl ci k)) (hd : decode (mC M) pc = .ok (.bastore, 1)) (kk : E M (pc + 1) ls st (up σ o k i x.toInt8.toInt32) r σ') : E M pc ls (.inl x :: .inl i :: .inr (o, k + 1) :: st) σ r σ' := by
  intro p l e s m args below meth c g A H locs lsC X hP hD hS hL
  obtain ⟨q0, hq0, hq⟩ := arr_at (g := g) (σ := σ) ho (by rw [h0]; rfl)
  have hcf := cont_arr (g := g) (σ := σ) (o := o) (k := k) (i := i) (v := x.toInt8.toInt32) (vin_nn hi) (by rw [ho.2, h0]; rfl)
  rw [ho.2] at hcf
  have hset := rw_set hq0 hcf.1 hcf.2
  refine va_bast (D := g.1) (tys := rT g) X.1 X.2.1 X.2.2.2.2.2.2.2.1 hP hD hS q0 2 hq (by rw [h0]; rfl) hi hd (fun H1 locs1 hP1 hD1 hS1 => ?_)
  rw [vp_nar_byte, hset] at hP1 hD1
  exact kk p l e s m args below meth c g A H1 locs1 lsC X hP1 hD1 hS1 hL
theorem e_zast {o k : Nat} {i x : Int32} (ho : isO o ci) (h0 : fk ci k = 3) (hi : vp_in i (fl ci k)) (hx : x = 0 ∨ x = 1) (hd : decode (mC M) pc = .ok (.bastore, 1)) (kk : E M (pc + 1) ls st (up σ o k i x) r σ') : E M pc ls (.inl x :: .inl i :: .inr (o, k + 1) :: st) σ r σ' := by
  intro p l e s m args below meth c g A H locs lsC X hP hD hS hL
  obtain ⟨q0, hq0, hq⟩ := arr_at (g := g) (σ := σ) ho (by rw [h0]; rfl)
  have hcf := cont_arr (g := g) (σ := σ) (o := o) (k := k) (i := i) (v := x) (vin_nn hi) (by rw [ho.2, h0]; rfl)
  rw [ho.2] at hcf
  have hset := rw_set hq0 hcf.1 hcf.2
  have hx2 : vp_nar .boolean x = x := by rcases hx with rfl | rfl <;> rfl
  refine va_zast (D := g.1) (tys := rT g) X.1 X.2.1 X.2.2.2.2.2.2.2.1 hP hD hS q0 3 hq (by rw [h0]; rfl) hi hd (fun H1 locs1 hP1 hD1 hS1 => ?_)
  rw [hx2, hset] at hP1 hD1
  exact kk p l e s m args below meth c g A H1 locs1 lsC X hP1 hD1 hS1 hL
/-! answers -/
theorem e_iret {x : Int32} {t : FieldType} (hr : mR M = some t) (hn : narrow t (.int x) = .int x) (hd : decode (mC M) pc = .ok (.ireturn, 1)) : E M pc ls [.inl x] σ (some (.inl x)) σ := by
  intro p l e s m args below meth c g A H locs lsC X hP hD hS hL
  exact W.zret X.1 X.2.1 (X.2.2.2.2.2.1.trans hr) hn (fun t ht hW => ⟨rfl, by rw [ht]; exact hP, hS.F ht⟩) hS.2.2 hd X.2.2.2.2.2.2.1
theorem e_vret (hr : mR M = none) (hd : decode (mC M) pc = .ok (.return_, 1)) : E M pc ls [] σ none σ := by
  intro p l e s m args below meth c g A H locs lsC X hP hD hS hL
  exact W.vret X.1 X.2.1 (X.2.2.2.2.2.1.trans hr) (fun t ht hW => ⟨rfl, by rw [ht]; exact hP, hS.F ht⟩) hS.2.2 hd X.2.2.2.2.2.2.1
theorem e_aret {q : Nat × Nat} {nm : String} (hr : mR M = some (.object nm)) (hd : decode (mC M) pc = .ok (.areturn, 1)) : E M pc ls [.inr q] σ (some (.inr q)) σ := by
  intro p l e s m args below meth c g A H locs lsC X hP hD hS hL
  exact W.aret X.1 X.2.1 (X.2.2.2.2.2.1.trans hr) (Or.inl ⟨_, rfl⟩) (Or.inr ⟨_, rfl⟩) (fun t ht hW => ⟨rfl, by rw [ht]; exact hP, hS.F ht⟩) hS.2.2 hd X.2.2.2.2.2.2.1
/-- an answer by its value -/
theorem e_ireq {x y : Int32} {σ2 : rS} {t : FieldType} (hr : mR M = some t) (hn : narrow t (.int x) = .int x) (hd : decode (mC M) pc = .ok (.ireturn, 1)) (hxy : x = y) (hs : σ = σ2) : E M pc ls [.inl x] σ (some (.inl y)) σ2 := by
  subst hxy; subst hs
  exact e_iret hr hn hd
/-! calls -/
/-- what a method's name, code and class need, for a call of it -/
def okM (N : rM) (n : Nat) : Prop := Cond.code (mY N) (mC N) (mN N) (mR N) ∈ gW ∧ Cond.initialized (mY N).cls ∈ gW ∧ ((mY N).cls ≠ "java/lang/invoke/MethodHandle" ∧ (mY N).cls ≠ "java/lang/invoke/VarHandle") ∧ (parseMethodDescriptor (mY N).desc).map (fun d => d.parameters.length) = some n
theorem rWd_good {Mc N : rM} {n : Nat} (h : okM N n) {args : Array Value} {s : State} (ht : ∀ w ∈ gW, w.before args s = true) : ∀ w ∈ rWd N, ∀ (a' : Array Value) (U : State), s.WarmedH U.vm → w.before a' U = true := by
  intro w hw a' U hW
  have hg : w ∈ gW := by
    rcases List.mem_cons.mp hw with rfl | h1
    · exact h.1
    · exact h1
  exact word_at hW (good_of_word (List.mem_filter.mp hg).2) (ht w hg)
theorem rPc_blind (g : rG) (A : Nat → Prop) (as : List rV) (σ : rS) : FrameBlind (rPc g A as σ) := by
  intro a U f mk q
  obtain ⟨q0, qP, qD, qK⟩ := q
  exact ⟨q0, qP, qD, qK.same rfl⟩
theorem callB_ok {N : rM} {n idx : Nat} (h : okM N n) {args : Array Value} {s : State} (ht : ∀ w ∈ gW, w.before args s = true) (hl : Cond.methodLink (mO M) idx (mY N) ∈ gW) (hR : mF N + 1 ≤ mF M ∧ 8 + (mN N + 11) + mL N ≤ mL M) : CallB (rRm M) s args (mO M) idx (mY N) (mC N) (mN N) (mR N) (rWd N) (rRm N) 0 0 n := by
  refine ⟨rfl, rfl, hR.1, hR.2, rWd_good (Mc := M) h ht, List.mem_cons_self, ht _ h.1, ht _ h.2.1, h.2.2.1, fun sig hs => ?_, ht _ hl⟩
  have h2 := h.2.2.2
  rw [hs] at h2
  exact (Option.some.inj h2).symm
theorem cats_sum (g : rG) : ∀ st : List rV, ((st.map (cv g)).map fun v => v.category).sum = st.length
  | [] => rfl
  | a :: t => by rw [List.map_cons, List.map_cons, List.sum_cons, cats_sum g t, cv_cat, List.length_cons]; omega
/-- behind a call -/
theorem e_back {N : rM} {as : List rV} {v : Option rV} {σ1 : rS} {stk : List rV} (kk : E M (pc + 3) ls (v.toList ++ st) σ1 r σ')
    {p : Program} {l : Launch} {e : Env} {s : State} {m : MethodId} {args : Array Value} {below : List Frame} {meth : Method} {c : Code} {g : rG} {A : Nat → Prop} {H : Heap} {locs : List Loc} {lsC : Array Slot}
    (X : rX g M A p s m args meth c) (hD : va_D A (rw_ g σ)) (hS : va_S A s.heap H locs) (hL : Lh g lsC (mN M) ls) {a : Array Value}
    (hr : va_Run p l e (rRm M) s m args below meth c H locs 0 0 0 0 (F0 m pc lsC (stk.map (cv g))) (st.map (cv g)) (rQc g A v σ1 a) A) :
    W p l e (rRm M) s m args below meth c H locs 0 0 (MQ below (rQc g A r σ') args s 0 0 A) (F0 m pc lsC (stk.map (cv g))) := by
  intro T hT X9
  obtain ⟨v9, st₀, t, T', L, h0, X', hL9, e1, e2, ⟨hv, hP1, hz, hk⟩, stp⟩ := hr T hT X9
  have hv9 : v9 = v.map (cv g) := by cases hv; rfl
  subst hv9
  rw [h0] at hz hk
  have hS1 : va_S A s.heap T'.heap (locs ++ L) := by
    refine ⟨Nat.le_trans hS.1 (by rw [e1]; exact hz), fun q h1 h2 => ?_, fun q hq => ?_⟩
    · rw [e1, hk q (Nat.lt_of_lt_of_le h1 hS.1) h2]
      exact hS.2.1 q h1 h2
    · rcases List.mem_append.mp hq with h | h
      · exact hS.2.2 q h
      · exact hL9 q h
  have k2 := kk p l e s m args below meth c g A T'.heap (locs ++ L) lsC X (by rw [e1]; exact hP1) (rw_D σ1 hD) hS1 hL
  have e9 : (v.toList ++ st).map (cv g) = (v.map (cv g)).toList ++ st.map (cv g) := by
    rw [List.map_append]
    cases v <;> rfl
  rw [e9] at k2
  obtain ⟨t2, a1, b1⟩ := k2 T' rfl X'
  exact ⟨t2, stp t2 a1, b1⟩
/-- what a call of an object's method needs beside -/
def okV (N : rM) (n ci : Nat) : Prop := okM N n ∧ Cond.instanceMethod (mY N) ∈ gW ∧ Cond.selects (mY N).cls (mY N) (mY N) ∈ gW ∧ ∃ q : vw_C, vwCl[ci]? = some q ∧ q.1 = (mY N).cls
theorem e_callV {N : rM} {n idx o : Nat} {as : List rV} {v : Option rV} {σ1 : rS} (hC : Ct N (.inr (o, 0) :: as) σ v σ1) (hN : okV N n ci) (hl : Cond.methodLink (mO M) idx (mY N) ∈ gW) (ho : isO o ci) (hn : as.length = n) (hst : st.length ≤ 8) (hR : mF N + 1 ≤ mF M ∧ 8 + (mN N + 11) + mL N ≤ mL M) (hd : decode (mC M) pc = .ok (.invokevirtual idx, 3)) (kk : E M (pc + 3) ls (v.toList ++ st) σ1 r σ') : E M pc ls (as.reverse ++ .inr (o, 0) :: st) σ r σ' := by
  intro p l e s m args below meth c g A H locs lsC X hP hD hS hL
  obtain ⟨hok, hin, hse, q, hq, hqc⟩ := hN
  have ht := X.2.2.2.2.1
  obtain ⟨q0, -, hq0⟩ := rw_at (g := g) (σ := σ) (cL_obj o ho.1)
  have hrecv := va_recv (ci := kls o) X.2.2.2.2.2.2.2.1 hP (by rw [ho.2]; exact hq) hq0
  rw [hqc] at hrecv
  refine e_back (N := N) (as := .inr (o, 0) :: as) (st := st) kk X hD hS hL (a := ((Sum.inr (o, 0) :: as : List rV).map (cv g)).toArray) ?_
  have hstk : (as.reverse ++ .inr (o, 0) :: st).map (cv g) = (as.map (cv g)).reverse ++ .ref (g.2.2 (o, 0)) :: st.map (cv g) := by
    rw [List.map_append, List.map_reverse]
    rfl
  refine va_runV (As := as.map (cv g)) (rest := st.map (cv g)) (C := (mY N).cls) ⟨X.1, X.2.1, X.2.2.1, X.2.2.2.1, ht⟩ (hC l g A) ⟨callB_ok hok ht hl hR, ht _ hin, ht _ hse⟩ ⟨rPc_blind g A _ σ, hrecv, fun U hU hW => ?_⟩ rfl (by rw [List.length_map]; exact hn) hL.1 hstk (by show 2 * 0 + _ ≤ 8; rw [cats_sum]; omega) hd ⟨Nat.le_refl _, Nat.le_refl _⟩
  exact ⟨rfl, by rw [hU]; exact hP, hD, by rw [hU]; exact X.2.2.2.2.2.2.2.to hS hW⟩
theorem e_callS {N : rM} {n idx : Nat} {as : List rV} {v : Option rV} {σ1 : rS} (hC : Ct N as σ v σ1) (hN : okM N n) (hs : Cond.static (mY N) ∈ gW) (hl : Cond.methodLink (mO M) idx (mY N) ∈ gW) (hn : as.length = n) (hst : st.length ≤ 8) (hR : mF N + 1 ≤ mF M ∧ 8 + (mN N + 11) + mL N ≤ mL M) (hd : decode (mC M) pc = .ok (.invokestatic idx, 3)) (kk : E M (pc + 3) ls (v.toList ++ st) σ1 r σ') : E M pc ls (as.reverse ++ st) σ r σ' := by
  intro p l e s m args below meth c g A H locs lsC X hP hD hS hL
  have ht := X.2.2.2.2.1
  refine e_back (N := N) (as := as) (st := st) kk X hD hS hL (a := (as.map (cv g)).toArray) ?_
  have hstk : (as.reverse ++ st).map (cv g) = (as.map (cv g)).reverse ++ st.map (cv g) := by
    rw [List.map_append, List.map_reverse]
  refine va_runS (As := as.map (cv g)) (rest := st.map (cv g)) ⟨X.1, X.2.1, X.2.2.1, X.2.2.2.1, ht⟩ (hC l g A) ⟨callB_ok hN ht hl hR, ht _ hs⟩ ⟨rPc_blind g A _ σ, fun U hU hW => ?_⟩ rfl (by rw [List.length_map]; exact hn) hL.1 hstk (by show 2 * 0 + _ ≤ 8; rw [cats_sum]; omega) hd ⟨Nat.le_refl _, Nat.le_refl _⟩
  exact ⟨rfl, by rw [hU]; exact hP, hD, by rw [hU]; exact X.2.2.2.2.2.2.2.to hS hW⟩
end RH
end
section
abbrev mX0_size : rM := (RX0, yX0_size, cX0_size, 1, (some .int), 0, 0)
set_option maxRecDepth 100000 in
theorem oX0_size : okV mX0_size 0 0 := ⟨⟨gW_in (List.mem_of_getElem? (i := 700) (by rfl)) rfl, gW_in (List.mem_of_getElem? (i := 48) (by decide +kernel)) rfl, by decide +kernel, by decide +kernel⟩, gW_in (List.mem_of_getElem? (i := 698) (by decide +kernel)) rfl, gW_in (List.mem_of_getElem? (i := 699) (by decide +kernel)) rfl, _, rfl, rfl⟩
abbrev mX0_clear : rM := (RX0, yX0_clear, cX0_clear, 1, none, 0, 0)
set_option maxRecDepth 100000 in
theorem oX0_clear : okV mX0_clear 0 0 := ⟨⟨gW_in (List.mem_of_getElem? (i := 494) (by rfl)) rfl, gW_in (List.mem_of_getElem? (i := 48) (by decide +kernel)) rfl, by decide +kernel, by decide +kernel⟩, gW_in (List.mem_of_getElem? (i := 492) (by decide +kernel)) rfl, gW_in (List.mem_of_getElem? (i := 493) (by decide +kernel)) rfl, _, rfl, rfl⟩
abbrev mX0_hasRoom : rM := (RX0, yX0_hasRoom, cX0_hasRoom, 1, (some .boolean), 0, 0)
set_option maxRecDepth 100000 in
theorem oX0_hasRoom : okV mX0_hasRoom 0 0 := ⟨⟨gW_in (List.mem_of_getElem? (i := 560) (by rfl)) rfl, gW_in (List.mem_of_getElem? (i := 48) (by decide +kernel)) rfl, by decide +kernel, by decide +kernel⟩, gW_in (List.mem_of_getElem? (i := 558) (by decide +kernel)) rfl, gW_in (List.mem_of_getElem? (i := 559) (by decide +kernel)) rfl, _, rfl, rfl⟩
abbrev mX0_enter : rM := (RX0, yX0_enter, cX0_enter, 7, (some .int), 0, 0)
set_option maxRecDepth 100000 in
theorem oX0_enter : okV mX0_enter 5 0 := ⟨⟨gW_in (List.mem_of_getElem? (i := 582) (by rfl)) rfl, gW_in (List.mem_of_getElem? (i := 48) (by decide +kernel)) rfl, by decide +kernel, by decide +kernel⟩, gW_in (List.mem_of_getElem? (i := 580) (by decide +kernel)) rfl, gW_in (List.mem_of_getElem? (i := 581) (by decide +kernel)) rfl, _, rfl, rfl⟩
abbrev mX0_sayerOf : rM := (RX0, yX0_sayerOf, cX0_sayerOf, 2, (some .int), 1, 21)
set_option maxRecDepth 100000 in
theorem oX0_sayerOf : okV mX0_sayerOf 1 0 := ⟨⟨gW_in (List.mem_of_getElem? (i := 619) (by rfl)) rfl, gW_in (List.mem_of_getElem? (i := 48) (by decide +kernel)) rfl, by decide +kernel, by decide +kernel⟩, gW_in (List.mem_of_getElem? (i := 617) (by decide +kernel)) rfl, gW_in (List.mem_of_getElem? (i := 618) (by decide +kernel)) rfl, _, rfl, rfl⟩
abbrev mX0_hearerOf : rM := (RX0, yX0_hearerOf, cX0_hearerOf, 2, (some .int), 1, 21)
set_option maxRecDepth 100000 in
theorem oX0_hearerOf : okV mX0_hearerOf 1 0 := ⟨⟨gW_in (List.mem_of_getElem? (i := 623) (by rfl)) rfl, gW_in (List.mem_of_getElem? (i := 48) (by decide +kernel)) rfl, by decide +kernel, by decide +kernel⟩, gW_in (List.mem_of_getElem? (i := 621) (by decide +kernel)) rfl, gW_in (List.mem_of_getElem? (i := 622) (by decide +kernel)) rfl, _, rfl, rfl⟩
abbrev mX0_placeIn : rM := (RX0, yX0_placeIn, cX0_placeIn, 2, (some .int), 1, 21)
set_option maxRecDepth 100000 in
theorem oX0_placeIn : okV mX0_placeIn 1 0 := ⟨⟨gW_in (List.mem_of_getElem? (i := 627) (by rfl)) rfl, gW_in (List.mem_of_getElem? (i := 48) (by decide +kernel)) rfl, by decide +kernel, by decide +kernel⟩, gW_in (List.mem_of_getElem? (i := 625) (by decide +kernel)) rfl, gW_in (List.mem_of_getElem? (i := 626) (by decide +kernel)) rfl, _, rfl, rfl⟩
abbrev mX0_dayOf : rM := (RX0, yX0_dayOf, cX0_dayOf, 2, (some .int), 1, 21)
set_option maxRecDepth 100000 in
theorem oX0_dayOf : okV mX0_dayOf 1 0 := ⟨⟨gW_in (List.mem_of_getElem? (i := 631) (by rfl)) rfl, gW_in (List.mem_of_getElem? (i := 48) (by decide +kernel)) rfl, by decide +kernel, by decide +kernel⟩, gW_in (List.mem_of_getElem? (i := 629) (by decide +kernel)) rfl, gW_in (List.mem_of_getElem? (i := 630) (by decide +kernel)) rfl, _, rfl, rfl⟩
abbrev mX0_standingOf : rM := (RX0, yX0_standingOf, cX0_standingOf, 2, (some .int), 1, 21)
set_option maxRecDepth 100000 in
theorem oX0_standingOf : okV mX0_standingOf 1 0 := ⟨⟨gW_in (List.mem_of_getElem? (i := 531) (by rfl)) rfl, gW_in (List.mem_of_getElem? (i := 48) (by decide +kernel)) rfl, by decide +kernel, by decide +kernel⟩, gW_in (List.mem_of_getElem? (i := 529) (by decide +kernel)) rfl, gW_in (List.mem_of_getElem? (i := 530) (by decide +kernel)) rfl, _, rfl, rfl⟩
abbrev mX0_lastDayOf : rM := (RX0, yX0_lastDayOf, cX0_lastDayOf, 2, (some .int), 3, 64)
set_option maxRecDepth 100000 in
theorem oX0_lastDayOf : okV mX0_lastDayOf 1 0 := ⟨⟨gW_in (List.mem_of_getElem? (i := 635) (by rfl)) rfl, gW_in (List.mem_of_getElem? (i := 48) (by decide +kernel)) rfl, by decide +kernel, by decide +kernel⟩, gW_in (List.mem_of_getElem? (i := 633) (by decide +kernel)) rfl, gW_in (List.mem_of_getElem? (i := 634) (by decide +kernel)) rfl, _, rfl, rfl⟩
abbrev mX0_engages : rM := (RX0, yX0_engages, cX0_engages, 3, (some .boolean), 3, 64)
set_option maxRecDepth 100000 in
theorem oX0_engages : okV mX0_engages 1 0 := ⟨⟨gW_in (List.mem_of_getElem? (i := 573) (by rfl)) rfl, gW_in (List.mem_of_getElem? (i := 48) (by decide +kernel)) rfl, by decide +kernel, by decide +kernel⟩, gW_in (List.mem_of_getElem? (i := 571) (by decide +kernel)) rfl, gW_in (List.mem_of_getElem? (i := 572) (by decide +kernel)) rfl, _, rfl, rfl⟩
abbrev mX0_take : rM := (RX0, yX0_take, cX0_take, 3, none, 3, 66)
set_option maxRecDepth 100000 in
theorem oX0_take : okV mX0_take 2 0 := ⟨⟨gW_in (List.mem_of_getElem? (i := 591) (by rfl)) rfl, gW_in (List.mem_of_getElem? (i := 48) (by decide +kernel)) rfl, by decide +kernel, by decide +kernel⟩, gW_in (List.mem_of_getElem? (i := 589) (by decide +kernel)) rfl, gW_in (List.mem_of_getElem? (i := 590) (by decide +kernel)) rfl, _, rfl, rfl⟩
abbrev mX0_change : rM := (RX0, yX0_change, cX0_change, 3, none, 1, 21)
set_option maxRecDepth 100000 in
theorem oX0_change : okV mX0_change 2 0 := ⟨⟨gW_in (List.mem_of_getElem? (i := 595) (by rfl)) rfl, gW_in (List.mem_of_getElem? (i := 48) (by decide +kernel)) rfl, by decide +kernel, by decide +kernel⟩, gW_in (List.mem_of_getElem? (i := 593) (by decide +kernel)) rfl, gW_in (List.mem_of_getElem? (i := 594) (by decide +kernel)) rfl, _, rfl, rfl⟩
abbrev mX0_hasSworn : rM := (RX0, yX0_hasSworn, cX0_hasSworn, 3, (some .boolean), 1, 21)
set_option maxRecDepth 100000 in
theorem oX0_hasSworn : okV mX0_hasSworn 2 0 := ⟨⟨gW_in (List.mem_of_getElem? (i := 603) (by rfl)) rfl, gW_in (List.mem_of_getElem? (i := 48) (by decide +kernel)) rfl, by decide +kernel, by decide +kernel⟩, gW_in (List.mem_of_getElem? (i := 601) (by decide +kernel)) rfl, gW_in (List.mem_of_getElem? (i := 602) (by decide +kernel)) rfl, _, rfl, rfl⟩
abbrev mX0_hearOath : rM := (RX0, yX0_hearOath, cX0_hearOath, 4, none, 2, 45)
set_option maxRecDepth 100000 in
theorem oX0_hearOath : okV mX0_hearOath 3 0 := ⟨⟨gW_in (List.mem_of_getElem? (i := 607) (by rfl)) rfl, gW_in (List.mem_of_getElem? (i := 48) (by decide +kernel)) rfl, by decide +kernel, by decide +kernel⟩, gW_in (List.mem_of_getElem? (i := 605) (by decide +kernel)) rfl, gW_in (List.mem_of_getElem? (i := 606) (by decide +kernel)) rfl, _, rfl, rfl⟩
abbrev mX0_judgeBeyond : rM := (RX0, yX0_judgeBeyond, cX0_judgeBeyond, 4, none, 5, 111)
set_option maxRecDepth 100000 in
theorem oX0_judgeBeyond : okV mX0_judgeBeyond 2 0 := ⟨⟨gW_in (List.mem_of_getElem? (i := 523) (by rfl)) rfl, gW_in (List.mem_of_getElem? (i := 48) (by decide +kernel)) rfl, by decide +kernel, by decide +kernel⟩, gW_in (List.mem_of_getElem? (i := 521) (by decide +kernel)) rfl, gW_in (List.mem_of_getElem? (i := 522) (by decide +kernel)) rfl, _, rfl, rfl⟩
abbrev mX0_judgeAll : rM := (RX0, yX0_judgeAll, cX0_judgeAll, 3, none, 5, 111)
set_option maxRecDepth 100000 in
theorem oX0_judgeAll : okV mX0_judgeAll 1 0 := ⟨⟨gW_in (List.mem_of_getElem? (i := 643) (by rfl)) rfl, gW_in (List.mem_of_getElem? (i := 48) (by decide +kernel)) rfl, by decide +kernel, by decide +kernel⟩, gW_in (List.mem_of_getElem? (i := 641) (by decide +kernel)) rfl, gW_in (List.mem_of_getElem? (i := 642) (by decide +kernel)) rfl, _, rfl, rfl⟩
abbrev mX0_foreseeVerdicts : rM := (RX0, yX0_foreseeVerdicts, cX0_foreseeVerdicts, 3, none, 4, 89)
set_option maxRecDepth 100000 in
theorem oX0_foreseeVerdicts : okV mX0_foreseeVerdicts 1 0 := ⟨⟨gW_in (List.mem_of_getElem? (i := 688) (by rfl)) rfl, gW_in (List.mem_of_getElem? (i := 48) (by decide +kernel)) rfl, by decide +kernel, by decide +kernel⟩, gW_in (List.mem_of_getElem? (i := 686) (by decide +kernel)) rfl, gW_in (List.mem_of_getElem? (i := 687) (by decide +kernel)) rfl, _, rfl, rfl⟩
abbrev mX0_judge : rM := (RX0, yX0_judge, cX0_judge, 3, none, 4, 89)
set_option maxRecDepth 100000 in
theorem oX0_judge : okV mX0_judge 2 0 := ⟨⟨gW_in (List.mem_of_getElem? (i := 539) (by rfl)) rfl, gW_in (List.mem_of_getElem? (i := 48) (by decide +kernel)) rfl, by decide +kernel, by decide +kernel⟩, gW_in (List.mem_of_getElem? (i := 538) (by decide +kernel)) rfl, gW_in (List.mem_of_getElem? (i := 17) (by decide +kernel)) rfl, _, rfl, rfl⟩
abbrev mX0_verdictOn : rM := (RX0, yX0_verdictOn, cX0_verdictOn, 4, (some .int), 2, 42)
set_option maxRecDepth 100000 in
theorem oX0_verdictOn : okV mX0_verdictOn 2 0 := ⟨⟨gW_in (List.mem_of_getElem? (i := 543) (by rfl)) rfl, gW_in (List.mem_of_getElem? (i := 48) (by decide +kernel)) rfl, by decide +kernel, by decide +kernel⟩, gW_in (List.mem_of_getElem? (i := 542) (by decide +kernel)) rfl, gW_in (List.mem_of_getElem? (i := 18) (by decide +kernel)) rfl, _, rfl, rfl⟩
abbrev mX0_carryOut : rM := (RX0, yX0_carryOut, cX0_carryOut, 4, none, 3, 66)
set_option maxRecDepth 100000 in
theorem oX0_carryOut : okV mX0_carryOut 3 0 := ⟨⟨gW_in (List.mem_of_getElem? (i := 548) (by rfl)) rfl, gW_in (List.mem_of_getElem? (i := 48) (by decide +kernel)) rfl, by decide +kernel, by decide +kernel⟩, gW_in (List.mem_of_getElem? (i := 547) (by decide +kernel)) rfl, gW_in (List.mem_of_getElem? (i := 19) (by decide +kernel)) rfl, _, rfl, rfl⟩
abbrev mX0_isRunning : rM := (RX0, yX0_isRunning, cX0_isRunning, 3, (some .boolean), 2, 42)
set_option maxRecDepth 100000 in
theorem oX0_isRunning : okV mX0_isRunning 1 0 := ⟨⟨gW_in (List.mem_of_getElem? (i := 527) (by rfl)) rfl, gW_in (List.mem_of_getElem? (i := 48) (by decide +kernel)) rfl, by decide +kernel, by decide +kernel⟩, gW_in (List.mem_of_getElem? (i := 526) (by decide +kernel)) rfl, gW_in (List.mem_of_getElem? (i := 15) (by decide +kernel)) rfl, _, rfl, rfl⟩
abbrev mX0_has : rM := (RX0, yX0_has, cX0_has, 2, (some .boolean), 0, 0)
set_option maxRecDepth 100000 in
theorem oX0_has : okV mX0_has 1 0 := ⟨⟨gW_in (List.mem_of_getElem? (i := 535) (by rfl)) rfl, gW_in (List.mem_of_getElem? (i := 48) (by decide +kernel)) rfl, by decide +kernel, by decide +kernel⟩, gW_in (List.mem_of_getElem? (i := 534) (by decide +kernel)) rfl, gW_in (List.mem_of_getElem? (i := 16) (by decide +kernel)) rfl, _, rfl, rfl⟩
abbrev mX1_faultKind : rM := (RX1, yX1_faultKind, cX1_faultKind, 1, (some .int), 0, 0)
set_option maxRecDepth 100000 in
theorem oX1_faultKind : okV mX1_faultKind 0 1 := ⟨⟨gW_in (List.mem_of_getElem? (i := 417) (by rfl)) rfl, gW_in (List.mem_of_getElem? (i := 46) (by decide +kernel)) rfl, by decide +kernel, by decide +kernel⟩, gW_in (List.mem_of_getElem? (i := 415) (by decide +kernel)) rfl, gW_in (List.mem_of_getElem? (i := 416) (by decide +kernel)) rfl, _, rfl, rfl⟩
abbrev mX1_faultPlace : rM := (RX1, yX1_faultPlace, cX1_faultPlace, 1, (some .int), 0, 0)
set_option maxRecDepth 100000 in
theorem oX1_faultPlace : okV mX1_faultPlace 0 1 := ⟨⟨gW_in (List.mem_of_getElem? (i := 421) (by rfl)) rfl, gW_in (List.mem_of_getElem? (i := 46) (by decide +kernel)) rfl, by decide +kernel, by decide +kernel⟩, gW_in (List.mem_of_getElem? (i := 419) (by decide +kernel)) rfl, gW_in (List.mem_of_getElem? (i := 420) (by decide +kernel)) rfl, _, rfl, rfl⟩
abbrev mX1_read : rM := (RX1, yX1_read, cX1_read, 4, (some .boolean), 6, 133)
set_option maxRecDepth 100000 in
theorem oX1_read : okV mX1_read 2 1 := ⟨⟨gW_in (List.mem_of_getElem? (i := 254) (by rfl)) rfl, gW_in (List.mem_of_getElem? (i := 46) (by decide +kernel)) rfl, by decide +kernel, by decide +kernel⟩, gW_in (List.mem_of_getElem? (i := 252) (by decide +kernel)) rfl, gW_in (List.mem_of_getElem? (i := 253) (by decide +kernel)) rfl, _, rfl, rfl⟩
abbrev mX1_isSound : rM := (RX1, yX1_isSound, cX1_isSound, 1, (some .boolean), 0, 0)
set_option maxRecDepth 100000 in
theorem oX1_isSound : okV mX1_isSound 0 1 := ⟨⟨gW_in (List.mem_of_getElem? (i := 262) (by rfl)) rfl, gW_in (List.mem_of_getElem? (i := 46) (by decide +kernel)) rfl, by decide +kernel, by decide +kernel⟩, gW_in (List.mem_of_getElem? (i := 261) (by decide +kernel)) rfl, gW_in (List.mem_of_getElem? (i := 0) (by decide +kernel)) rfl, _, rfl, rfl⟩
abbrev mX1_blame : rM := (RX1, yX1_blame, cX1_blame, 3, none, 0, 0)
set_option maxRecDepth 100000 in
theorem oX1_blame : okV mX1_blame 2 1 := ⟨⟨gW_in (List.mem_of_getElem? (i := 356) (by rfl)) rfl, gW_in (List.mem_of_getElem? (i := 46) (by decide +kernel)) rfl, by decide +kernel, by decide +kernel⟩, gW_in (List.mem_of_getElem? (i := 355) (by decide +kernel)) rfl, gW_in (List.mem_of_getElem? (i := 7) (by decide +kernel)) rfl, _, rfl, rfl⟩
abbrev mX1_readLine : rM := (RX1, yX1_readLine, cX1_readLine, 4, none, 5, 110)
set_option maxRecDepth 100000 in
theorem oX1_readLine : okV mX1_readLine 1 1 := ⟨⟨gW_in (List.mem_of_getElem? (i := 277) (by rfl)) rfl, gW_in (List.mem_of_getElem? (i := 46) (by decide +kernel)) rfl, by decide +kernel, by decide +kernel⟩, gW_in (List.mem_of_getElem? (i := 276) (by decide +kernel)) rfl, gW_in (List.mem_of_getElem? (i := 2) (by decide +kernel)) rfl, _, rfl, rfl⟩
abbrev mX1_readBurden : rM := (RX1, yX1_readBurden, cX1_readBurden, 5, none, 4, 86)
set_option maxRecDepth 100000 in
theorem oX1_readBurden : okV mX1_readBurden 1 1 := ⟨⟨gW_in (List.mem_of_getElem? (i := 347) (by rfl)) rfl, gW_in (List.mem_of_getElem? (i := 46) (by decide +kernel)) rfl, by decide +kernel, by decide +kernel⟩, gW_in (List.mem_of_getElem? (i := 346) (by decide +kernel)) rfl, gW_in (List.mem_of_getElem? (i := 5) (by decide +kernel)) rfl, _, rfl, rfl⟩
abbrev mX1_passSettingWord : rM := (RX1, yX1_passSettingWord, cX1_passSettingWord, 2, (some .int), 3, 65)
set_option maxRecDepth 100000 in
theorem oX1_passSettingWord : okV mX1_passSettingWord 0 1 := ⟨⟨gW_in (List.mem_of_getElem? (i := 281) (by rfl)) rfl, gW_in (List.mem_of_getElem? (i := 46) (by decide +kernel)) rfl, by decide +kernel, by decide +kernel⟩, gW_in (List.mem_of_getElem? (i := 280) (by decide +kernel)) rfl, gW_in (List.mem_of_getElem? (i := 3) (by decide +kernel)) rfl, _, rfl, rfl⟩
abbrev mX1_expectWord : rM := (RX1, yX1_expectWord, cX1_expectWord, 2, none, 3, 65)
set_option maxRecDepth 100000 in
theorem oX1_expectWord : okV mX1_expectWord 1 1 := ⟨⟨gW_in (List.mem_of_getElem? (i := 352) (by rfl)) rfl, gW_in (List.mem_of_getElem? (i := 46) (by decide +kernel)) rfl, by decide +kernel, by decide +kernel⟩, gW_in (List.mem_of_getElem? (i := 351) (by decide +kernel)) rfl, gW_in (List.mem_of_getElem? (i := 6) (by decide +kernel)) rfl, _, rfl, rfl⟩
abbrev mX1_expectNewName : rM := (RX1, yX1_expectNewName, cX1_expectNewName, 3, (some .int), 2, 42)
set_option maxRecDepth 100000 in
theorem oX1_expectNewName : okV mX1_expectNewName 1 1 := ⟨⟨gW_in (List.mem_of_getElem? (i := 360) (by rfl)) rfl, gW_in (List.mem_of_getElem? (i := 46) (by decide +kernel)) rfl, by decide +kernel, by decide +kernel⟩, gW_in (List.mem_of_getElem? (i := 359) (by decide +kernel)) rfl, gW_in (List.mem_of_getElem? (i := 8) (by decide +kernel)) rfl, _, rfl, rfl⟩
abbrev mX1_expectNumber : rM := (RX1, yX1_expectNumber, cX1_expectNumber, 5, (some .int), 2, 41)
set_option maxRecDepth 100000 in
theorem oX1_expectNumber : okV mX1_expectNumber 2 1 := ⟨⟨gW_in (List.mem_of_getElem? (i := 373) (by rfl)) rfl, gW_in (List.mem_of_getElem? (i := 46) (by decide +kernel)) rfl, by decide +kernel, by decide +kernel⟩, gW_in (List.mem_of_getElem? (i := 372) (by decide +kernel)) rfl, gW_in (List.mem_of_getElem? (i := 10) (by decide +kernel)) rfl, _, rfl, rfl⟩
abbrev mX1_expectSemicolon : rM := (RX1, yX1_expectSemicolon, cX1_expectSemicolon, 1, none, 2, 41)
set_option maxRecDepth 100000 in
theorem oX1_expectSemicolon : okV mX1_expectSemicolon 0 1 := ⟨⟨gW_in (List.mem_of_getElem? (i := 397) (by rfl)) rfl, gW_in (List.mem_of_getElem? (i := 46) (by decide +kernel)) rfl, by decide +kernel, by decide +kernel⟩, gW_in (List.mem_of_getElem? (i := 396) (by decide +kernel)) rfl, gW_in (List.mem_of_getElem? (i := 11) (by decide +kernel)) rfl, _, rfl, rfl⟩
abbrev mX1_nextSign : rM := (RX1, yX1_nextSign, cX1_nextSign, 1, (some .int), 1, 21)
set_option maxRecDepth 100000 in
theorem oX1_nextSign : okV mX1_nextSign 0 1 := ⟨⟨gW_in (List.mem_of_getElem? (i := 266) (by rfl)) rfl, gW_in (List.mem_of_getElem? (i := 46) (by decide +kernel)) rfl, by decide +kernel, by decide +kernel⟩, gW_in (List.mem_of_getElem? (i := 265) (by decide +kernel)) rfl, gW_in (List.mem_of_getElem? (i := 1) (by decide +kernel)) rfl, _, rfl, rfl⟩
abbrev mX1_passWord : rM := (RX1, yX1_passWord, cX1_passWord, 4, (some .boolean), 2, 42)
set_option maxRecDepth 100000 in
theorem oX1_passWord : okV mX1_passWord 1 1 := ⟨⟨gW_in (List.mem_of_getElem? (i := 292) (by rfl)) rfl, gW_in (List.mem_of_getElem? (i := 46) (by decide +kernel)) rfl, by decide +kernel, by decide +kernel⟩, gW_in (List.mem_of_getElem? (i := 291) (by decide +kernel)) rfl, gW_in (List.mem_of_getElem? (i := 4) (by decide +kernel)) rfl, _, rfl, rfl⟩
abbrev mX1_wordOf : rM := (RX1, yX1_wordOf, cX1_wordOf, 1, (some (.object "java/lang/String")), 0, 0)
set_option maxRecDepth 100000 in
theorem oX1_wordOf : okM mX1_wordOf 1 := ⟨gW_in (List.mem_of_getElem? (i := 284) (by rfl)) rfl, gW_in (List.mem_of_getElem? (i := 46) (by decide +kernel)) rfl, by decide +kernel, by decide +kernel⟩
theorem sX1_wordOf : Cond.static (mY mX1_wordOf) ∈ gW := gW_in (List.mem_of_getElem? (i := 283) (by decide +kernel)) rfl
abbrev mX1_mostOf : rM := (RX1, yX1_mostOf, cX1_mostOf, 1, (some .int), 0, 0)
set_option maxRecDepth 100000 in
theorem oX1_mostOf : okM mX1_mostOf 1 := ⟨gW_in (List.mem_of_getElem? (i := 388) (by rfl)) rfl, gW_in (List.mem_of_getElem? (i := 46) (by decide +kernel)) rfl, by decide +kernel, by decide +kernel⟩
theorem sX1_mostOf : Cond.static (mY mX1_mostOf) ∈ gW := gW_in (List.mem_of_getElem? (i := 387) (by decide +kernel)) rfl
abbrev mX1_isBlank : rM := (RX1, yX1_isBlank, cX1_isBlank, 1, (some .boolean), 0, 0)
set_option maxRecDepth 100000 in
theorem oX1_isBlank : okM mX1_isBlank 1 := ⟨gW_in (List.mem_of_getElem? (i := 273) (by rfl)) rfl, gW_in (List.mem_of_getElem? (i := 46) (by decide +kernel)) rfl, by decide +kernel, by decide +kernel⟩
theorem sX1_isBlank : Cond.static (mY mX1_isBlank) ∈ gW := gW_in (List.mem_of_getElem? (i := 272) (by decide +kernel)) rfl
abbrev mX1_isDigit : rM := (RX1, yX1_isDigit, cX1_isDigit, 1, (some .boolean), 0, 0)
set_option maxRecDepth 100000 in
theorem oX1_isDigit : okM mX1_isDigit 1 := ⟨gW_in (List.mem_of_getElem? (i := 376) (by rfl)) rfl, gW_in (List.mem_of_getElem? (i := 46) (by decide +kernel)) rfl, by decide +kernel, by decide +kernel⟩
theorem sX1_isDigit : Cond.static (mY mX1_isDigit) ∈ gW := gW_in (List.mem_of_getElem? (i := 375) (by decide +kernel)) rfl
abbrev mX1_isSmallLetter : rM := (RX1, yX1_isSmallLetter, cX1_isSmallLetter, 1, (some .boolean), 0, 0)
set_option maxRecDepth 100000 in
theorem oX1_isSmallLetter : okM mX1_isSmallLetter 1 := ⟨gW_in (List.mem_of_getElem? (i := 295) (by rfl)) rfl, gW_in (List.mem_of_getElem? (i := 46) (by decide +kernel)) rfl, by decide +kernel, by decide +kernel⟩
theorem sX1_isSmallLetter : Cond.static (mY mX1_isSmallLetter) ∈ gW := gW_in (List.mem_of_getElem? (i := 294) (by decide +kernel)) rfl
abbrev mX2_copyFrom : rM := (RX2, yX2_copyFrom, cX2_copyFrom, 3, none, 0, 0)
set_option maxRecDepth 100000 in
theorem oX2_copyFrom : okV mX2_copyFrom 1 2 := ⟨⟨gW_in (List.mem_of_getElem? (i := 684) (by rfl)) rfl, gW_in (List.mem_of_getElem? (i := 47) (by decide +kernel)) rfl, by decide +kernel, by decide +kernel⟩, gW_in (List.mem_of_getElem? (i := 682) (by decide +kernel)) rfl, gW_in (List.mem_of_getElem? (i := 683) (by decide +kernel)) rfl, _, rfl, rfl⟩
abbrev mX2_size : rM := (RX2, yX2_size, cX2_size, 1, (some .int), 0, 0)
set_option maxRecDepth 100000 in
theorem oX2_size : okV mX2_size 0 2 := ⟨⟨gW_in (List.mem_of_getElem? (i := 696) (by rfl)) rfl, gW_in (List.mem_of_getElem? (i := 47) (by decide +kernel)) rfl, by decide +kernel, by decide +kernel⟩, gW_in (List.mem_of_getElem? (i := 694) (by decide +kernel)) rfl, gW_in (List.mem_of_getElem? (i := 695) (by decide +kernel)) rfl, _, rfl, rfl⟩
abbrev mX2_has : rM := (RX2, yX2_has, cX2_has, 2, (some .boolean), 0, 0)
set_option maxRecDepth 100000 in
theorem oX2_has : okV mX2_has 1 2 := ⟨⟨gW_in (List.mem_of_getElem? (i := 441) (by rfl)) rfl, gW_in (List.mem_of_getElem? (i := 47) (by decide +kernel)) rfl, by decide +kernel, by decide +kernel⟩, gW_in (List.mem_of_getElem? (i := 439) (by decide +kernel)) rfl, gW_in (List.mem_of_getElem? (i := 440) (by decide +kernel)) rfl, _, rfl, rfl⟩
abbrev mX2_enter : rM := (RX2, yX2_enter, cX2_enter, 4, (some .int), 0, 0)
set_option maxRecDepth 100000 in
theorem oX2_enter : okV mX2_enter 2 2 := ⟨⟨gW_in (List.mem_of_getElem? (i := 433) (by rfl)) rfl, gW_in (List.mem_of_getElem? (i := 47) (by decide +kernel)) rfl, by decide +kernel, by decide +kernel⟩, gW_in (List.mem_of_getElem? (i := 431) (by decide +kernel)) rfl, gW_in (List.mem_of_getElem? (i := 432) (by decide +kernel)) rfl, _, rfl, rfl⟩
abbrev mX2_declaredOf : rM := (RX2, yX2_declaredOf, cX2_declaredOf, 2, (some .int), 1, 21)
set_option maxRecDepth 100000 in
theorem oX2_declaredOf : okV mX2_declaredOf 1 2 := ⟨⟨gW_in (List.mem_of_getElem? (i := 466) (by rfl)) rfl, gW_in (List.mem_of_getElem? (i := 47) (by decide +kernel)) rfl, by decide +kernel, by decide +kernel⟩, gW_in (List.mem_of_getElem? (i := 464) (by decide +kernel)) rfl, gW_in (List.mem_of_getElem? (i := 465) (by decide +kernel)) rfl, _, rfl, rfl⟩
abbrev mX2_hiddenOf : rM := (RX2, yX2_hiddenOf, cX2_hiddenOf, 2, (some .int), 1, 21)
set_option maxRecDepth 100000 in
theorem oX2_hiddenOf : okV mX2_hiddenOf 1 2 := ⟨⟨gW_in (List.mem_of_getElem? (i := 445) (by rfl)) rfl, gW_in (List.mem_of_getElem? (i := 47) (by decide +kernel)) rfl, by decide +kernel, by decide +kernel⟩, gW_in (List.mem_of_getElem? (i := 443) (by decide +kernel)) rfl, gW_in (List.mem_of_getElem? (i := 444) (by decide +kernel)) rfl, _, rfl, rfl⟩
abbrev mX2_worthOf : rM := (RX2, yX2_worthOf, cX2_worthOf, 2, (some .int), 2, 42)
set_option maxRecDepth 100000 in
theorem oX2_worthOf : okV mX2_worthOf 1 2 := ⟨⟨gW_in (List.mem_of_getElem? (i := 675) (by rfl)) rfl, gW_in (List.mem_of_getElem? (i := 47) (by decide +kernel)) rfl, by decide +kernel, by decide +kernel⟩, gW_in (List.mem_of_getElem? (i := 673) (by decide +kernel)) rfl, gW_in (List.mem_of_getElem? (i := 674) (by decide +kernel)) rfl, _, rfl, rfl⟩
abbrev mX2_placeOf : rM := (RX2, yX2_placeOf, cX2_placeOf, 2, (some .int), 1, 21)
set_option maxRecDepth 100000 in
theorem oX2_placeOf : okV mX2_placeOf 1 2 := ⟨⟨gW_in (List.mem_of_getElem? (i := 564) (by rfl)) rfl, gW_in (List.mem_of_getElem? (i := 47) (by decide +kernel)) rfl, by decide +kernel, by decide +kernel⟩, gW_in (List.mem_of_getElem? (i := 562) (by decide +kernel)) rfl, gW_in (List.mem_of_getElem? (i := 563) (by decide +kernel)) rfl, _, rfl, rfl⟩
abbrev mX2_freeFromOf : rM := (RX2, yX2_freeFromOf, cX2_freeFromOf, 2, (some .int), 1, 21)
set_option maxRecDepth 100000 in
theorem oX2_freeFromOf : okV mX2_freeFromOf 1 2 := ⟨⟨gW_in (List.mem_of_getElem? (i := 780) (by rfl)) rfl, gW_in (List.mem_of_getElem? (i := 47) (by decide +kernel)) rfl, by decide +kernel, by decide +kernel⟩, gW_in (List.mem_of_getElem? (i := 778) (by decide +kernel)) rfl, gW_in (List.mem_of_getElem? (i := 779) (by decide +kernel)) rfl, _, rfl, rfl⟩
abbrev mX2_yearsBorneOf : rM := (RX2, yX2_yearsBorneOf, cX2_yearsBorneOf, 2, (some .int), 1, 21)
set_option maxRecDepth 100000 in
theorem oX2_yearsBorneOf : okV mX2_yearsBorneOf 1 2 := ⟨⟨gW_in (List.mem_of_getElem? (i := 784) (by rfl)) rfl, gW_in (List.mem_of_getElem? (i := 47) (by decide +kernel)) rfl, by decide +kernel, by decide +kernel⟩, gW_in (List.mem_of_getElem? (i := 782) (by decide +kernel)) rfl, gW_in (List.mem_of_getElem? (i := 783) (by decide +kernel)) rfl, _, rfl, rfl⟩
abbrev mX2_bearerAt : rM := (RX2, yX2_bearerAt, cX2_bearerAt, 2, (some .int), 1, 20)
set_option maxRecDepth 100000 in
theorem oX2_bearerAt : okV mX2_bearerAt 1 2 := ⟨⟨gW_in (List.mem_of_getElem? (i := 483) (by rfl)) rfl, gW_in (List.mem_of_getElem? (i := 47) (by decide +kernel)) rfl, by decide +kernel, by decide +kernel⟩, gW_in (List.mem_of_getElem? (i := 481) (by decide +kernel)) rfl, gW_in (List.mem_of_getElem? (i := 482) (by decide +kernel)) rfl, _, rfl, rfl⟩
abbrev mX2_hasBorne : rM := (RX2, yX2_hasBorne, cX2_hasBorne, 3, (some .boolean), 1, 21)
set_option maxRecDepth 100000 in
theorem oX2_hasBorne : okV mX2_hasBorne 2 2 := ⟨⟨gW_in (List.mem_of_getElem? (i := 577) (by rfl)) rfl, gW_in (List.mem_of_getElem? (i := 47) (by decide +kernel)) rfl, by decide +kernel, by decide +kernel⟩, gW_in (List.mem_of_getElem? (i := 575) (by decide +kernel)) rfl, gW_in (List.mem_of_getElem? (i := 576) (by decide +kernel)) rfl, _, rfl, rfl⟩
abbrev mX2_uncover : rM := (RX2, yX2_uncover, cX2_uncover, 3, none, 1, 21)
set_option maxRecDepth 100000 in
theorem oX2_uncover : okV mX2_uncover 2 2 := ⟨⟨gW_in (List.mem_of_getElem? (i := 450) (by rfl)) rfl, gW_in (List.mem_of_getElem? (i := 47) (by decide +kernel)) rfl, by decide +kernel, by decide +kernel⟩, gW_in (List.mem_of_getElem? (i := 448) (by decide +kernel)) rfl, gW_in (List.mem_of_getElem? (i := 449) (by decide +kernel)) rfl, _, rfl, rfl⟩
abbrev mX2_exchangeEstates : rM := (RX2, yX2_exchangeEstates, cX2_exchangeEstates, 5, none, 1, 21)
set_option maxRecDepth 100000 in
theorem oX2_exchangeEstates : okV mX2_exchangeEstates 2 2 := ⟨⟨gW_in (List.mem_of_getElem? (i := 611) (by rfl)) rfl, gW_in (List.mem_of_getElem? (i := 47) (by decide +kernel)) rfl, by decide +kernel, by decide +kernel⟩, gW_in (List.mem_of_getElem? (i := 609) (by decide +kernel)) rfl, gW_in (List.mem_of_getElem? (i := 610) (by decide +kernel)) rfl, _, rfl, rfl⟩
abbrev mX2_manOfRank : rM := (RX2, yX2_manOfRank, cX2_manOfRank, 3, (some .int), 3, 66)
set_option maxRecDepth 100000 in
theorem oX2_manOfRank : okV mX2_manOfRank 1 2 := ⟨⟨gW_in (List.mem_of_getElem? (i := 458) (by rfl)) rfl, gW_in (List.mem_of_getElem? (i := 47) (by decide +kernel)) rfl, by decide +kernel, by decide +kernel⟩, gW_in (List.mem_of_getElem? (i := 456) (by decide +kernel)) rfl, gW_in (List.mem_of_getElem? (i := 457) (by decide +kernel)) rfl, _, rfl, rfl⟩
abbrev mX2_rankOf : rM := (RX2, yX2_rankOf, cX2_rankOf, 5, (some .int), 2, 42)
set_option maxRecDepth 100000 in
theorem oX2_rankOf : okV mX2_rankOf 1 2 := ⟨⟨gW_in (List.mem_of_getElem? (i := 462) (by rfl)) rfl, gW_in (List.mem_of_getElem? (i := 47) (by decide +kernel)) rfl, by decide +kernel, by decide +kernel⟩, gW_in (List.mem_of_getElem? (i := 461) (by decide +kernel)) rfl, gW_in (List.mem_of_getElem? (i := 12) (by decide +kernel)) rfl, _, rfl, rfl⟩
abbrev mX2_isFit : rM := (RX2, yX2_isFit, cX2_isFit, 4, (some .boolean), 1, 21)
set_option maxRecDepth 100000 in
theorem oX2_isFit : okV mX2_isFit 3 2 := ⟨⟨gW_in (List.mem_of_getElem? (i := 507) (by rfl)) rfl, gW_in (List.mem_of_getElem? (i := 47) (by decide +kernel)) rfl, by decide +kernel, by decide +kernel⟩, gW_in (List.mem_of_getElem? (i := 505) (by decide +kernel)) rfl, gW_in (List.mem_of_getElem? (i := 506) (by decide +kernel)) rfl, _, rfl, rfl⟩
abbrev mX2_fillPlaces : rM := (RX2, yX2_fillPlaces, cX2_fillPlaces, 6, (some .int), 3, 68)
set_option maxRecDepth 100000 in
theorem oX2_fillPlaces : okV mX2_fillPlaces 2 2 := ⟨⟨gW_in (List.mem_of_getElem? (i := 498) (by rfl)) rfl, gW_in (List.mem_of_getElem? (i := 47) (by decide +kernel)) rfl, by decide +kernel, by decide +kernel⟩, gW_in (List.mem_of_getElem? (i := 496) (by decide +kernel)) rfl, gW_in (List.mem_of_getElem? (i := 497) (by decide +kernel)) rfl, _, rfl, rfl⟩
abbrev mX2_richestFit : rM := (RX2, yX2_richestFit, cX2_richestFit, 5, (some .int), 2, 44)
set_option maxRecDepth 100000 in
theorem oX2_richestFit : okV mX2_richestFit 2 2 := ⟨⟨gW_in (List.mem_of_getElem? (i := 503) (by rfl)) rfl, gW_in (List.mem_of_getElem? (i := 47) (by decide +kernel)) rfl, by decide +kernel, by decide +kernel⟩, gW_in (List.mem_of_getElem? (i := 502) (by decide +kernel)) rfl, gW_in (List.mem_of_getElem? (i := 13) (by decide +kernel)) rfl, _, rfl, rfl⟩
abbrev mX2_handOver : rM := (RX2, yX2_handOver, cX2_handOver, 4, none, 2, 43)
set_option maxRecDepth 100000 in
theorem oX2_handOver : okV mX2_handOver 3 2 := ⟨⟨gW_in (List.mem_of_getElem? (i := 552) (by rfl)) rfl, gW_in (List.mem_of_getElem? (i := 47) (by decide +kernel)) rfl, by decide +kernel, by decide +kernel⟩, gW_in (List.mem_of_getElem? (i := 550) (by decide +kernel)) rfl, gW_in (List.mem_of_getElem? (i := 551) (by decide +kernel)) rfl, _, rfl, rfl⟩
abbrev mX2_layOn : rM := (RX2, yX2_layOn, cX2_layOn, 3, none, 1, 21)
set_option maxRecDepth 100000 in
theorem oX2_layOn : okV mX2_layOn 2 2 := ⟨⟨gW_in (List.mem_of_getElem? (i := 515) (by rfl)) rfl, gW_in (List.mem_of_getElem? (i := 47) (by decide +kernel)) rfl, by decide +kernel, by decide +kernel⟩, gW_in (List.mem_of_getElem? (i := 514) (by decide +kernel)) rfl, gW_in (List.mem_of_getElem? (i := 14) (by decide +kernel)) rfl, _, rfl, rfl⟩
abbrev mX2_partAt : rM := (RX2, yX2_partAt, cX2_partAt, 6, (some .int), 2, 45)
set_option maxRecDepth 100000 in
theorem oX2_partAt : okV mX2_partAt 2 2 := ⟨⟨gW_in (List.mem_of_getElem? (i := 652) (by rfl)) rfl, gW_in (List.mem_of_getElem? (i := 47) (by decide +kernel)) rfl, by decide +kernel, by decide +kernel⟩, gW_in (List.mem_of_getElem? (i := 650) (by decide +kernel)) rfl, gW_in (List.mem_of_getElem? (i := 651) (by decide +kernel)) rfl, _, rfl, rfl⟩
abbrev mX2_settle : rM := (RX2, yX2_settle, cX2_settle, 7, (some .int), 3, 70)
set_option maxRecDepth 100000 in
theorem oX2_settle : okV mX2_settle 2 2 := ⟨⟨gW_in (List.mem_of_getElem? (i := 647) (by rfl)) rfl, gW_in (List.mem_of_getElem? (i := 47) (by decide +kernel)) rfl, by decide +kernel, by decide +kernel⟩, gW_in (List.mem_of_getElem? (i := 645) (by decide +kernel)) rfl, gW_in (List.mem_of_getElem? (i := 646) (by decide +kernel)) rfl, _, rfl, rfl⟩
abbrev mX2_layDownAll : rM := (RX2, yX2_layDownAll, cX2_layDownAll, 2, none, 0, 0)
set_option maxRecDepth 100000 in
theorem oX2_layDownAll : okV mX2_layDownAll 0 2 := ⟨⟨gW_in (List.mem_of_getElem? (i := 661) (by rfl)) rfl, gW_in (List.mem_of_getElem? (i := 47) (by decide +kernel)) rfl, by decide +kernel, by decide +kernel⟩, gW_in (List.mem_of_getElem? (i := 660) (by decide +kernel)) rfl, gW_in (List.mem_of_getElem? (i := 21) (by decide +kernel)) rfl, _, rfl, rfl⟩
abbrev mX2_isPlace : rM := (RX2, yX2_isPlace, cX2_isPlace, 1, (some .boolean), 0, 0)
set_option maxRecDepth 100000 in
theorem oX2_isPlace : okM mX2_isPlace 1 := ⟨gW_in (List.mem_of_getElem? (i := 486) (by rfl)) rfl, gW_in (List.mem_of_getElem? (i := 47) (by decide +kernel)) rfl, by decide +kernel, by decide +kernel⟩
theorem sX2_isPlace : Cond.static (mY mX2_isPlace) ∈ gW := gW_in (List.mem_of_getElem? (i := 485) (by decide +kernel)) rfl
abbrev mX3_clear : rM := (RX3, yX3_clear, cX3_clear, 2, none, 0, 0)
set_option maxRecDepth 100000 in
theorem oX3_clear : okV mX3_clear 0 3 := ⟨⟨gW_in (List.mem_of_getElem? (i := 258) (by rfl)) rfl, gW_in (List.mem_of_getElem? (i := 49) (by decide +kernel)) rfl, by decide +kernel, by decide +kernel⟩, gW_in (List.mem_of_getElem? (i := 256) (by decide +kernel)) rfl, gW_in (List.mem_of_getElem? (i := 257) (by decide +kernel)) rfl, _, rfl, rfl⟩
abbrev mX3_hasBurden : rM := (RX3, yX3_hasBurden, cX3_hasBurden, 2, (some .boolean), 1, 21)
set_option maxRecDepth 100000 in
theorem oX3_hasBurden : okV mX3_hasBurden 1 3 := ⟨⟨gW_in (List.mem_of_getElem? (i := 364) (by rfl)) rfl, gW_in (List.mem_of_getElem? (i := 49) (by decide +kernel)) rfl, by decide +kernel, by decide +kernel⟩, gW_in (List.mem_of_getElem? (i := 362) (by decide +kernel)) rfl, gW_in (List.mem_of_getElem? (i := 363) (by decide +kernel)) rfl, _, rfl, rfl⟩
abbrev mX3_tellBurden : rM := (RX3, yX3_tellBurden, cX3_tellBurden, 4, none, 0, 0)
set_option maxRecDepth 100000 in
theorem oX3_tellBurden : okV mX3_tellBurden 3 3 := ⟨⟨gW_in (List.mem_of_getElem? (i := 385) (by rfl)) rfl, gW_in (List.mem_of_getElem? (i := 49) (by decide +kernel)) rfl, by decide +kernel, by decide +kernel⟩, gW_in (List.mem_of_getElem? (i := 383) (by decide +kernel)) rfl, gW_in (List.mem_of_getElem? (i := 384) (by decide +kernel)) rfl, _, rfl, rfl⟩
abbrev mX3_tellSetting : rM := (RX3, yX3_tellSetting, cX3_tellSetting, 3, none, 0, 0)
set_option maxRecDepth 100000 in
theorem oX3_tellSetting : okV mX3_tellSetting 2 3 := ⟨⟨gW_in (List.mem_of_getElem? (i := 393) (by rfl)) rfl, gW_in (List.mem_of_getElem? (i := 49) (by decide +kernel)) rfl, by decide +kernel, by decide +kernel⟩, gW_in (List.mem_of_getElem? (i := 391) (by decide +kernel)) rfl, gW_in (List.mem_of_getElem? (i := 392) (by decide +kernel)) rfl, _, rfl, rfl⟩
abbrev mX3_numberPlaces : rM := (RX3, yX3_numberPlaces, cX3_numberPlaces, 3, none, 0, 0)
set_option maxRecDepth 100000 in
theorem oX3_numberPlaces : okV mX3_numberPlaces 0 3 := ⟨⟨gW_in (List.mem_of_getElem? (i := 401) (by rfl)) rfl, gW_in (List.mem_of_getElem? (i := 49) (by decide +kernel)) rfl, by decide +kernel, by decide +kernel⟩, gW_in (List.mem_of_getElem? (i := 399) (by decide +kernel)) rfl, gW_in (List.mem_of_getElem? (i := 400) (by decide +kernel)) rfl, _, rfl, rfl⟩
abbrev mX3_setting : rM := (RX3, yX3_setting, cX3_setting, 2, (some .int), 0, 0)
set_option maxRecDepth 100000 in
theorem oX3_setting : okV mX3_setting 1 3 := ⟨⟨gW_in (List.mem_of_getElem? (i := 511) (by rfl)) rfl, gW_in (List.mem_of_getElem? (i := 49) (by decide +kernel)) rfl, by decide +kernel, by decide +kernel⟩, gW_in (List.mem_of_getElem? (i := 509) (by decide +kernel)) rfl, gW_in (List.mem_of_getElem? (i := 510) (by decide +kernel)) rfl, _, rfl, rfl⟩
abbrev mX3_places : rM := (RX3, yX3_places, cX3_places, 1, (some .int), 0, 0)
set_option maxRecDepth 100000 in
theorem oX3_places : okV mX3_places 0 3 := ⟨⟨gW_in (List.mem_of_getElem? (i := 409) (by rfl)) rfl, gW_in (List.mem_of_getElem? (i := 49) (by decide +kernel)) rfl, by decide +kernel, by decide +kernel⟩, gW_in (List.mem_of_getElem? (i := 407) (by decide +kernel)) rfl, gW_in (List.mem_of_getElem? (i := 408) (by decide +kernel)) rfl, _, rfl, rfl⟩
abbrev mX3_hasPlace : rM := (RX3, yX3_hasPlace, cX3_hasPlace, 2, (some .boolean), 0, 0)
set_option maxRecDepth 100000 in
theorem oX3_hasPlace : okV mX3_hasPlace 1 3 := ⟨⟨gW_in (List.mem_of_getElem? (i := 474) (by rfl)) rfl, gW_in (List.mem_of_getElem? (i := 49) (by decide +kernel)) rfl, by decide +kernel, by decide +kernel⟩, gW_in (List.mem_of_getElem? (i := 472) (by decide +kernel)) rfl, gW_in (List.mem_of_getElem? (i := 473) (by decide +kernel)) rfl, _, rfl, rfl⟩
abbrev mX3_burdenAt : rM := (RX3, yX3_burdenAt, cX3_burdenAt, 2, (some .int), 1, 21)
set_option maxRecDepth 100000 in
theorem oX3_burdenAt : okV mX3_burdenAt 1 3 := ⟨⟨gW_in (List.mem_of_getElem? (i := 478) (by rfl)) rfl, gW_in (List.mem_of_getElem? (i := 49) (by decide +kernel)) rfl, by decide +kernel, by decide +kernel⟩, gW_in (List.mem_of_getElem? (i := 476) (by decide +kernel)) rfl, gW_in (List.mem_of_getElem? (i := 477) (by decide +kernel)) rfl, _, rfl, rfl⟩
abbrev mX3_partBehind : rM := (RX3, yX3_partBehind, cX3_partBehind, 5, (some .int), 1, 21)
set_option maxRecDepth 100000 in
theorem oX3_partBehind : okV mX3_partBehind 2 3 := ⟨⟨gW_in (List.mem_of_getElem? (i := 657) (by rfl)) rfl, gW_in (List.mem_of_getElem? (i := 49) (by decide +kernel)) rfl, by decide +kernel, by decide +kernel⟩, gW_in (List.mem_of_getElem? (i := 655) (by decide +kernel)) rfl, gW_in (List.mem_of_getElem? (i := 656) (by decide +kernel)) rfl, _, rfl, rfl⟩
abbrev mX3_shareOf : rM := (RX3, yX3_shareOf, cX3_shareOf, 2, (some .int), 0, 0)
set_option maxRecDepth 100000 in
theorem oX3_shareOf : okV mX3_shareOf 1 3 := ⟨⟨gW_in (List.mem_of_getElem? (i := 368) (by rfl)) rfl, gW_in (List.mem_of_getElem? (i := 49) (by decide +kernel)) rfl, by decide +kernel, by decide +kernel⟩, gW_in (List.mem_of_getElem? (i := 367) (by decide +kernel)) rfl, gW_in (List.mem_of_getElem? (i := 9) (by decide +kernel)) rfl, _, rfl, rfl⟩
abbrev mX4_length : rM := (RX4, yX4_length, cX4_length, 1, (some .int), 0, 0)
set_option maxRecDepth 100000 in
theorem oX4_length : okV mX4_length 0 4 := ⟨⟨gW_in (List.mem_of_getElem? (i := 246) (by rfl)) rfl, gW_in (List.mem_of_getElem? (i := 45) (by decide +kernel)) rfl, by decide +kernel, by decide +kernel⟩, gW_in (List.mem_of_getElem? (i := 244) (by decide +kernel)) rfl, gW_in (List.mem_of_getElem? (i := 245) (by decide +kernel)) rfl, _, rfl, rfl⟩
abbrev mX4_hasRoom : rM := (RX4, yX4_hasRoom, cX4_hasRoom, 2, (some .boolean), 0, 0)
set_option maxRecDepth 100000 in
theorem oX4_hasRoom : okV mX4_hasRoom 1 4 := ⟨⟨gW_in (List.mem_of_getElem? (i := 238) (by rfl)) rfl, gW_in (List.mem_of_getElem? (i := 45) (by decide +kernel)) rfl, by decide +kernel, by decide +kernel⟩, gW_in (List.mem_of_getElem? (i := 236) (by decide +kernel)) rfl, gW_in (List.mem_of_getElem? (i := 237) (by decide +kernel)) rfl, _, rfl, rfl⟩
abbrev mX4_append : rM := (RX4, yX4_append, cX4_append, 3, none, 0, 0)
set_option maxRecDepth 100000 in
theorem oX4_append : okV mX4_append 1 4 := ⟨⟨gW_in (List.mem_of_getElem? (i := 242) (by rfl)) rfl, gW_in (List.mem_of_getElem? (i := 45) (by decide +kernel)) rfl, by decide +kernel, by decide +kernel⟩, gW_in (List.mem_of_getElem? (i := 240) (by decide +kernel)) rfl, gW_in (List.mem_of_getElem? (i := 241) (by decide +kernel)) rfl, _, rfl, rfl⟩
abbrev mX4_at : rM := (RX4, yX4_at, cX4_at, 2, (some .int), 0, 0)
set_option maxRecDepth 100000 in
theorem oX4_at : okV mX4_at 1 4 := ⟨⟨gW_in (List.mem_of_getElem? (i := 270) (by rfl)) rfl, gW_in (List.mem_of_getElem? (i := 45) (by decide +kernel)) rfl, by decide +kernel, by decide +kernel⟩, gW_in (List.mem_of_getElem? (i := 268) (by decide +kernel)) rfl, gW_in (List.mem_of_getElem? (i := 269) (by decide +kernel)) rfl, _, rfl, rfl⟩
abbrev mX4_clear : rM := (RX4, yX4_clear, cX4_clear, 1, none, 0, 0)
set_option maxRecDepth 100000 in
theorem oX4_clear : okV mX4_clear 0 4 := ⟨⟨gW_in (List.mem_of_getElem? (i := 405) (by rfl)) rfl, gW_in (List.mem_of_getElem? (i := 45) (by decide +kernel)) rfl, by decide +kernel, by decide +kernel⟩, gW_in (List.mem_of_getElem? (i := 403) (by decide +kernel)) rfl, gW_in (List.mem_of_getElem? (i := 404) (by decide +kernel)) rfl, _, rfl, rfl⟩
abbrev mX5_feed : rM := (RX5, yX5_feed, cX5_feed, 6, (some .int), 1, 22)
set_option maxRecDepth 100000 in
theorem oX5_feed : okV mX5_feed 5 5 := ⟨⟨gW_in (List.mem_of_getElem? (i := 234) (by rfl)) rfl, gW_in (List.mem_of_getElem? (i := 44) (by decide +kernel)) rfl, by decide +kernel, by decide +kernel⟩, gW_in (List.mem_of_getElem? (i := 232) (by decide +kernel)) rfl, gW_in (List.mem_of_getElem? (i := 233) (by decide +kernel)) rfl, _, rfl, rfl⟩
abbrev mX5_statutes : rM := (RX5, yX5_statutes, cX5_statutes, 4, (some .int), 7, 156)
set_option maxRecDepth 100000 in
theorem oX5_statutes : okV mX5_statutes 1 5 := ⟨⟨gW_in (List.mem_of_getElem? (i := 250) (by rfl)) rfl, gW_in (List.mem_of_getElem? (i := 44) (by decide +kernel)) rfl, by decide +kernel, by decide +kernel⟩, gW_in (List.mem_of_getElem? (i := 248) (by decide +kernel)) rfl, gW_in (List.mem_of_getElem? (i := 249) (by decide +kernel)) rfl, _, rfl, rfl⟩
abbrev mX5_fault : rM := (RX5, yX5_fault, cX5_fault, 2, (some .int), 1, 20)
set_option maxRecDepth 100000 in
theorem oX5_fault : okV mX5_fault 1 5 := ⟨⟨gW_in (List.mem_of_getElem? (i := 413) (by rfl)) rfl, gW_in (List.mem_of_getElem? (i := 44) (by decide +kernel)) rfl, by decide +kernel, by decide +kernel⟩, gW_in (List.mem_of_getElem? (i := 411) (by decide +kernel)) rfl, gW_in (List.mem_of_getElem? (i := 412) (by decide +kernel)) rfl, _, rfl, rfl⟩
abbrev mX5_man : rM := (RX5, yX5_man, cX5_man, 3, (some .int), 1, 23)
set_option maxRecDepth 100000 in
theorem oX5_man : okV mX5_man 2 5 := ⟨⟨gW_in (List.mem_of_getElem? (i := 425) (by rfl)) rfl, gW_in (List.mem_of_getElem? (i := 44) (by decide +kernel)) rfl, by decide +kernel, by decide +kernel⟩, gW_in (List.mem_of_getElem? (i := 423) (by decide +kernel)) rfl, gW_in (List.mem_of_getElem? (i := 424) (by decide +kernel)) rfl, _, rfl, rfl⟩
abbrev mX5_found : rM := (RX5, yX5_found, cX5_found, 3, (some .boolean), 2, 43)
set_option maxRecDepth 100000 in
theorem oX5_found : okV mX5_found 2 5 := ⟨⟨gW_in (List.mem_of_getElem? (i := 437) (by rfl)) rfl, gW_in (List.mem_of_getElem? (i := 44) (by decide +kernel)) rfl, by decide +kernel, by decide +kernel⟩, gW_in (List.mem_of_getElem? (i := 435) (by decide +kernel)) rfl, gW_in (List.mem_of_getElem? (i := 436) (by decide +kernel)) rfl, _, rfl, rfl⟩
abbrev mX5_look : rM := (RX5, yX5_look, cX5_look, 3, (some .int), 3, 65)
set_option maxRecDepth 100000 in
theorem oX5_look : okV mX5_look 2 5 := ⟨⟨gW_in (List.mem_of_getElem? (i := 709) (by rfl)) rfl, gW_in (List.mem_of_getElem? (i := 44) (by decide +kernel)) rfl, by decide +kernel, by decide +kernel⟩, gW_in (List.mem_of_getElem? (i := 707) (by decide +kernel)) rfl, gW_in (List.mem_of_getElem? (i := 708) (by decide +kernel)) rfl, _, rfl, rfl⟩
abbrev mX5_richest : rM := (RX5, yX5_richest, cX5_richest, 2, (some .int), 4, 88)
set_option maxRecDepth 100000 in
theorem oX5_richest : okV mX5_richest 1 5 := ⟨⟨gW_in (List.mem_of_getElem? (i := 454) (by rfl)) rfl, gW_in (List.mem_of_getElem? (i := 44) (by decide +kernel)) rfl, by decide +kernel, by decide +kernel⟩, gW_in (List.mem_of_getElem? (i := 452) (by decide +kernel)) rfl, gW_in (List.mem_of_getElem? (i := 453) (by decide +kernel)) rfl, _, rfl, rfl⟩
abbrev mX5_place : rM := (RX5, yX5_place, cX5_place, 3, (some .int), 2, 42)
set_option maxRecDepth 100000 in
theorem oX5_place : okV mX5_place 2 5 := ⟨⟨gW_in (List.mem_of_getElem? (i := 470) (by rfl)) rfl, gW_in (List.mem_of_getElem? (i := 44) (by decide +kernel)) rfl, by decide +kernel, by decide +kernel⟩, gW_in (List.mem_of_getElem? (i := 468) (by decide +kernel)) rfl, gW_in (List.mem_of_getElem? (i := 469) (by decide +kernel)) rfl, _, rfl, rfl⟩
abbrev mX5_begin : rM := (RX5, yX5_begin, cX5_begin, 2, (some .int), 4, 93)
set_option maxRecDepth 100000 in
theorem oX5_begin : okV mX5_begin 0 5 := ⟨⟨gW_in (List.mem_of_getElem? (i := 490) (by rfl)) rfl, gW_in (List.mem_of_getElem? (i := 44) (by decide +kernel)) rfl, by decide +kernel, by decide +kernel⟩, gW_in (List.mem_of_getElem? (i := 488) (by decide +kernel)) rfl, gW_in (List.mem_of_getElem? (i := 489) (by decide +kernel)) rfl, _, rfl, rfl⟩
abbrev mX5_pass : rM := (RX5, yX5_pass, cX5_pass, 2, (some .int), 6, 134)
set_option maxRecDepth 100000 in
theorem oX5_pass : okV mX5_pass 1 5 := ⟨⟨gW_in (List.mem_of_getElem? (i := 519) (by rfl)) rfl, gW_in (List.mem_of_getElem? (i := 44) (by decide +kernel)) rfl, by decide +kernel, by decide +kernel⟩, gW_in (List.mem_of_getElem? (i := 517) (by decide +kernel)) rfl, gW_in (List.mem_of_getElem? (i := 518) (by decide +kernel)) rfl, _, rfl, rfl⟩
abbrev mX5_challenge : rM := (RX5, yX5_challenge, cX5_challenge, 4, (some .int), 4, 86)
set_option maxRecDepth 100000 in
theorem oX5_challenge : okV mX5_challenge 2 5 := ⟨⟨gW_in (List.mem_of_getElem? (i := 556) (by rfl)) rfl, gW_in (List.mem_of_getElem? (i := 44) (by decide +kernel)) rfl, by decide +kernel, by decide +kernel⟩, gW_in (List.mem_of_getElem? (i := 554) (by decide +kernel)) rfl, gW_in (List.mem_of_getElem? (i := 555) (by decide +kernel)) rfl, _, rfl, rfl⟩
abbrev mX5_answer : rM := (RX5, yX5_answer, cX5_answer, 3, (some .boolean), 4, 88)
set_option maxRecDepth 100000 in
theorem oX5_answer : okV mX5_answer 2 5 := ⟨⟨gW_in (List.mem_of_getElem? (i := 586) (by rfl)) rfl, gW_in (List.mem_of_getElem? (i := 44) (by decide +kernel)) rfl, by decide +kernel, by decide +kernel⟩, gW_in (List.mem_of_getElem? (i := 584) (by decide +kernel)) rfl, gW_in (List.mem_of_getElem? (i := 585) (by decide +kernel)) rfl, _, rfl, rfl⟩
abbrev mX5_swear : rM := (RX5, yX5_swear, cX5_swear, 3, (some .boolean), 3, 68)
set_option maxRecDepth 100000 in
theorem oX5_swear : okV mX5_swear 2 5 := ⟨⟨gW_in (List.mem_of_getElem? (i := 599) (by rfl)) rfl, gW_in (List.mem_of_getElem? (i := 44) (by decide +kernel)) rfl, by decide +kernel, by decide +kernel⟩, gW_in (List.mem_of_getElem? (i := 597) (by decide +kernel)) rfl, gW_in (List.mem_of_getElem? (i := 598) (by decide +kernel)) rfl, _, rfl, rfl⟩
abbrev mX5_told : rM := (RX5, yX5_told, cX5_told, 3, (some .int), 4, 85)
set_option maxRecDepth 100000 in
theorem oX5_told : okV mX5_told 2 5 := ⟨⟨gW_in (List.mem_of_getElem? (i := 615) (by rfl)) rfl, gW_in (List.mem_of_getElem? (i := 44) (by decide +kernel)) rfl, by decide +kernel, by decide +kernel⟩, gW_in (List.mem_of_getElem? (i := 613) (by decide +kernel)) rfl, gW_in (List.mem_of_getElem? (i := 614) (by decide +kernel)) rfl, _, rfl, rfl⟩
abbrev mX5_end : rM := (RX5, yX5_end, cX5_end, 2, (some .int), 6, 133)
set_option maxRecDepth 100000 in
theorem oX5_end : okV mX5_end 0 5 := ⟨⟨gW_in (List.mem_of_getElem? (i := 639) (by rfl)) rfl, gW_in (List.mem_of_getElem? (i := 44) (by decide +kernel)) rfl, by decide +kernel, by decide +kernel⟩, gW_in (List.mem_of_getElem? (i := 637) (by decide +kernel)) rfl, gW_in (List.mem_of_getElem? (i := 638) (by decide +kernel)) rfl, _, rfl, rfl⟩
abbrev mX5_part : rM := (RX5, yX5_part, cX5_part, 2, (some .int), 3, 70)
set_option maxRecDepth 100000 in
theorem oX5_part : okV mX5_part 1 5 := ⟨⟨gW_in (List.mem_of_getElem? (i := 665) (by rfl)) rfl, gW_in (List.mem_of_getElem? (i := 44) (by decide +kernel)) rfl, by decide +kernel, by decide +kernel⟩, gW_in (List.mem_of_getElem? (i := 663) (by decide +kernel)) rfl, gW_in (List.mem_of_getElem? (i := 664) (by decide +kernel)) rfl, _, rfl, rfl⟩
abbrev mX5_gain : rM := (RX5, yX5_gain, cX5_gain, 9, (some .int), 3, 70)
set_option maxRecDepth 100000 in
theorem oX5_gain : okV mX5_gain 2 5 := ⟨⟨gW_in (List.mem_of_getElem? (i := 670) (by rfl)) rfl, gW_in (List.mem_of_getElem? (i := 44) (by decide +kernel)) rfl, by decide +kernel, by decide +kernel⟩, gW_in (List.mem_of_getElem? (i := 668) (by decide +kernel)) rfl, gW_in (List.mem_of_getElem? (i := 669) (by decide +kernel)) rfl, _, rfl, rfl⟩
abbrev mX5_ahead : rM := (RX5, yX5_ahead, cX5_ahead, 3, (some .int), 5, 111)
set_option maxRecDepth 100000 in
theorem oX5_ahead : okV mX5_ahead 1 5 := ⟨⟨gW_in (List.mem_of_getElem? (i := 680) (by rfl)) rfl, gW_in (List.mem_of_getElem? (i := 44) (by decide +kernel)) rfl, by decide +kernel, by decide +kernel⟩, gW_in (List.mem_of_getElem? (i := 678) (by decide +kernel)) rfl, gW_in (List.mem_of_getElem? (i := 679) (by decide +kernel)) rfl, _, rfl, rfl⟩
abbrev mX5_count : rM := (RX5, yX5_count, cX5_count, 2, (some .int), 1, 20)
set_option maxRecDepth 100000 in
theorem oX5_count : okV mX5_count 1 5 := ⟨⟨gW_in (List.mem_of_getElem? (i := 692) (by rfl)) rfl, gW_in (List.mem_of_getElem? (i := 44) (by decide +kernel)) rfl, by decide +kernel, by decide +kernel⟩, gW_in (List.mem_of_getElem? (i := 690) (by decide +kernel)) rfl, gW_in (List.mem_of_getElem? (i := 691) (by decide +kernel)) rfl, _, rfl, rfl⟩
abbrev mX5_areCoins : rM := (RX5, yX5_areCoins, cX5_areCoins, 1, (some .boolean), 0, 0)
set_option maxRecDepth 100000 in
theorem oX5_areCoins : okM mX5_areCoins 1 := ⟨gW_in (List.mem_of_getElem? (i := 428) (by rfl)) rfl, gW_in (List.mem_of_getElem? (i := 44) (by decide +kernel)) rfl, by decide +kernel, by decide +kernel⟩
theorem sX5_areCoins : Cond.static (mY mX5_areCoins) ∈ gW := gW_in (List.mem_of_getElem? (i := 427) (by decide +kernel)) rfl
abbrev mX5_isFitNow : rM := (RX5, yX5_isFitNow, cX5_isFitNow, 2, (some .boolean), 2, 44)
set_option maxRecDepth 100000 in
theorem oX5_isFitNow : okV mX5_isFitNow 1 5 := ⟨⟨gW_in (List.mem_of_getElem? (i := 568) (by rfl)) rfl, gW_in (List.mem_of_getElem? (i := 44) (by decide +kernel)) rfl, by decide +kernel, by decide +kernel⟩, gW_in (List.mem_of_getElem? (i := 567) (by decide +kernel)) rfl, gW_in (List.mem_of_getElem? (i := 20) (by decide +kernel)) rfl, _, rfl, rfl⟩
abbrev mX6_thrown : rM := (RX6, yX6_thrown, cX6_thrown, 1, (some .int), 0, 0)
set_option maxRecDepth 100000 in
theorem oX6_thrown : okV mX6_thrown 0 6 := ⟨⟨gW_in (List.mem_of_getElem? (i := 922) (by rfl)) rfl, gW_in (List.mem_of_getElem? (i := 50) (by decide +kernel)) rfl, by decide +kernel, by decide +kernel⟩, gW_in (List.mem_of_getElem? (i := 920) (by decide +kernel)) rfl, gW_in (List.mem_of_getElem? (i := 921) (by decide +kernel)) rfl, _, rfl, rfl⟩
abbrev mX6_feed : rM := (RX6, yX6_feed, cX6_feed, 8, (some .int), 0, 0)
set_option maxRecDepth 100000 in
theorem oX6_feed : okV mX6_feed 5 6 := ⟨⟨gW_in (List.mem_of_getElem? (i := 926) (by rfl)) rfl, gW_in (List.mem_of_getElem? (i := 50) (by decide +kernel)) rfl, by decide +kernel, by decide +kernel⟩, gW_in (List.mem_of_getElem? (i := 924) (by decide +kernel)) rfl, gW_in (List.mem_of_getElem? (i := 925) (by decide +kernel)) rfl, _, rfl, rfl⟩
abbrev mX6_wrong : rM := (RX6, yX6_wrong, cX6_wrong, 3, (some .boolean), 0, 0)
set_option maxRecDepth 100000 in
theorem oX6_wrong : okV mX6_wrong 2 6 := ⟨⟨gW_in (List.mem_of_getElem? (i := 955) (by rfl)) rfl, gW_in (List.mem_of_getElem? (i := 50) (by decide +kernel)) rfl, by decide +kernel, by decide +kernel⟩, gW_in (List.mem_of_getElem? (i := 954) (by decide +kernel)) rfl, gW_in (List.mem_of_getElem? (i := 28) (by decide +kernel)) rfl, _, rfl, rfl⟩
abbrev mX6_wordAt : rM := (RX6, yX6_wordAt, cX6_wordAt, 8, (some .int), 0, 0)
set_option maxRecDepth 100000 in
theorem oX6_wordAt : okV mX6_wordAt 2 6 := ⟨⟨gW_in (List.mem_of_getElem? (i := 942) (by rfl)) rfl, gW_in (List.mem_of_getElem? (i := 50) (by decide +kernel)) rfl, by decide +kernel, by decide +kernel⟩, gW_in (List.mem_of_getElem? (i := 941) (by decide +kernel)) rfl, gW_in (List.mem_of_getElem? (i := 25) (by decide +kernel)) rfl, _, rfl, rfl⟩
abbrev mX6_isSmall : rM := (RX6, yX6_isSmall, cX6_isSmall, 2, (some .boolean), 0, 0)
set_option maxRecDepth 100000 in
theorem oX6_isSmall : okV mX6_isSmall 1 6 := ⟨⟨gW_in (List.mem_of_getElem? (i := 938) (by rfl)) rfl, gW_in (List.mem_of_getElem? (i := 50) (by decide +kernel)) rfl, by decide +kernel, by decide +kernel⟩, gW_in (List.mem_of_getElem? (i := 937) (by decide +kernel)) rfl, gW_in (List.mem_of_getElem? (i := 24) (by decide +kernel)) rfl, _, rfl, rfl⟩
abbrev mX6_isDigit : rM := (RX6, yX6_isDigit, cX6_isDigit, 2, (some .boolean), 0, 0)
set_option maxRecDepth 100000 in
theorem oX6_isDigit : okV mX6_isDigit 1 6 := ⟨⟨gW_in (List.mem_of_getElem? (i := 946) (by rfl)) rfl, gW_in (List.mem_of_getElem? (i := 50) (by decide +kernel)) rfl, by decide +kernel, by decide +kernel⟩, gW_in (List.mem_of_getElem? (i := 945) (by decide +kernel)) rfl, gW_in (List.mem_of_getElem? (i := 26) (by decide +kernel)) rfl, _, rfl, rfl⟩
abbrev mX6_take : rM := (RX6, yX6_take, cX6_take, 1, none, 1, 27)
set_option maxRecDepth 100000 in
theorem oX6_take : okV mX6_take 0 6 := ⟨⟨gW_in (List.mem_of_getElem? (i := 934) (by rfl)) rfl, gW_in (List.mem_of_getElem? (i := 50) (by decide +kernel)) rfl, by decide +kernel, by decide +kernel⟩, gW_in (List.mem_of_getElem? (i := 933) (by decide +kernel)) rfl, gW_in (List.mem_of_getElem? (i := 23) (by decide +kernel)) rfl, _, rfl, rfl⟩
abbrev mX6_word : rM := (RX6, yX6_word, cX6_word, 2, (some .boolean), 2, 47)
set_option maxRecDepth 100000 in
theorem oX6_word : okV mX6_word 1 6 := ⟨⟨gW_in (List.mem_of_getElem? (i := 963) (by rfl)) rfl, gW_in (List.mem_of_getElem? (i := 50) (by decide +kernel)) rfl, by decide +kernel, by decide +kernel⟩, gW_in (List.mem_of_getElem? (i := 962) (by decide +kernel)) rfl, gW_in (List.mem_of_getElem? (i := 30) (by decide +kernel)) rfl, _, rfl, rfl⟩
abbrev mX6_number : rM := (RX6, yX6_number, cX6_number, 3, (some .boolean), 2, 47)
set_option maxRecDepth 100000 in
theorem oX6_number : okV mX6_number 2 6 := ⟨⟨gW_in (List.mem_of_getElem? (i := 967) (by rfl)) rfl, gW_in (List.mem_of_getElem? (i := 50) (by decide +kernel)) rfl, by decide +kernel, by decide +kernel⟩, gW_in (List.mem_of_getElem? (i := 966) (by decide +kernel)) rfl, gW_in (List.mem_of_getElem? (i := 31) (by decide +kernel)) rfl, _, rfl, rfl⟩
abbrev mX6_burdenLine : rM := (RX6, yX6_burdenLine, cX6_burdenLine, 2, (some .boolean), 3, 69)
set_option maxRecDepth 100000 in
theorem oX6_burdenLine : okV mX6_burdenLine 0 6 := ⟨⟨gW_in (List.mem_of_getElem? (i := 959) (by rfl)) rfl, gW_in (List.mem_of_getElem? (i := 50) (by decide +kernel)) rfl, by decide +kernel, by decide +kernel⟩, gW_in (List.mem_of_getElem? (i := 958) (by decide +kernel)) rfl, gW_in (List.mem_of_getElem? (i := 29) (by decide +kernel)) rfl, _, rfl, rfl⟩
abbrev mX6_line : rM := (RX6, yX6_line, cX6_line, 3, (some .boolean), 4, 90)
set_option maxRecDepth 100000 in
theorem oX6_line : okV mX6_line 0 6 := ⟨⟨gW_in (List.mem_of_getElem? (i := 951) (by rfl)) rfl, gW_in (List.mem_of_getElem? (i := 50) (by decide +kernel)) rfl, by decide +kernel, by decide +kernel⟩, gW_in (List.mem_of_getElem? (i := 950) (by decide +kernel)) rfl, gW_in (List.mem_of_getElem? (i := 27) (by decide +kernel)) rfl, _, rfl, rfl⟩
abbrev mX6_statutes : rM := (RX6, yX6_statutes, cX6_statutes, 4, (some .int), 5, 112)
set_option maxRecDepth 100000 in
theorem oX6_statutes : okV mX6_statutes 1 6 := ⟨⟨gW_in (List.mem_of_getElem? (i := 930) (by rfl)) rfl, gW_in (List.mem_of_getElem? (i := 50) (by decide +kernel)) rfl, by decide +kernel, by decide +kernel⟩, gW_in (List.mem_of_getElem? (i := 928) (by decide +kernel)) rfl, gW_in (List.mem_of_getElem? (i := 929) (by decide +kernel)) rfl, _, rfl, rfl⟩
abbrev mX6_fault : rM := (RX6, yX6_fault, cX6_fault, 2, (some .int), 0, 0)
set_option maxRecDepth 100000 in
theorem oX6_fault : okV mX6_fault 1 6 := ⟨⟨gW_in (List.mem_of_getElem? (i := 972) (by rfl)) rfl, gW_in (List.mem_of_getElem? (i := 50) (by decide +kernel)) rfl, by decide +kernel, by decide +kernel⟩, gW_in (List.mem_of_getElem? (i := 970) (by decide +kernel)) rfl, gW_in (List.mem_of_getElem? (i := 971) (by decide +kernel)) rfl, _, rfl, rfl⟩
abbrev mX6_man : rM := (RX6, yX6_man, cX6_man, 3, (some .int), 0, 0)
set_option maxRecDepth 100000 in
theorem oX6_man : okV mX6_man 2 6 := ⟨⟨gW_in (List.mem_of_getElem? (i := 976) (by rfl)) rfl, gW_in (List.mem_of_getElem? (i := 50) (by decide +kernel)) rfl, by decide +kernel, by decide +kernel⟩, gW_in (List.mem_of_getElem? (i := 974) (by decide +kernel)) rfl, gW_in (List.mem_of_getElem? (i := 975) (by decide +kernel)) rfl, _, rfl, rfl⟩
abbrev mX6_isMan : rM := (RX6, yX6_isMan, cX6_isMan, 2, (some .boolean), 0, 0)
set_option maxRecDepth 100000 in
theorem oX6_isMan : okV mX6_isMan 1 6 := ⟨⟨gW_in (List.mem_of_getElem? (i := 984) (by rfl)) rfl, gW_in (List.mem_of_getElem? (i := 50) (by decide +kernel)) rfl, by decide +kernel, by decide +kernel⟩, gW_in (List.mem_of_getElem? (i := 983) (by decide +kernel)) rfl, gW_in (List.mem_of_getElem? (i := 32) (by decide +kernel)) rfl, _, rfl, rfl⟩
abbrev mX6_found : rM := (RX6, yX6_found, cX6_found, 3, (some .boolean), 1, 21)
set_option maxRecDepth 100000 in
theorem oX6_found : okV mX6_found 2 6 := ⟨⟨gW_in (List.mem_of_getElem? (i := 980) (by rfl)) rfl, gW_in (List.mem_of_getElem? (i := 50) (by decide +kernel)) rfl, by decide +kernel, by decide +kernel⟩, gW_in (List.mem_of_getElem? (i := 978) (by decide +kernel)) rfl, gW_in (List.mem_of_getElem? (i := 979) (by decide +kernel)) rfl, _, rfl, rfl⟩
abbrev mX6_bears : rM := (RX6, yX6_bears, cX6_bears, 4, (some .int), 0, 0)
set_option maxRecDepth 100000 in
theorem oX6_bears : okV mX6_bears 2 6 := ⟨⟨gW_in (List.mem_of_getElem? (i := 996) (by rfl)) rfl, gW_in (List.mem_of_getElem? (i := 50) (by decide +kernel)) rfl, by decide +kernel, by decide +kernel⟩, gW_in (List.mem_of_getElem? (i := 995) (by decide +kernel)) rfl, gW_in (List.mem_of_getElem? (i := 34) (by decide +kernel)) rfl, _, rfl, rfl⟩
abbrev mX6_isFit : rM := (RX6, yX6_isFit, cX6_isFit, 5, (some .boolean), 1, 23)
set_option maxRecDepth 100000 in
theorem oX6_isFit : okV mX6_isFit 4 6 := ⟨⟨gW_in (List.mem_of_getElem? (i := 1000) (by rfl)) rfl, gW_in (List.mem_of_getElem? (i := 50) (by decide +kernel)) rfl, by decide +kernel, by decide +kernel⟩, gW_in (List.mem_of_getElem? (i := 999) (by decide +kernel)) rfl, gW_in (List.mem_of_getElem? (i := 35) (by decide +kernel)) rfl, _, rfl, rfl⟩
abbrev mX6_fails : rM := (RX6, yX6_fails, cX6_fails, 2, (some .int), 0, 0)
set_option maxRecDepth 100000 in
theorem oX6_fails : okV mX6_fails 1 6 := ⟨⟨gW_in (List.mem_of_getElem? (i := 992) (by rfl)) rfl, gW_in (List.mem_of_getElem? (i := 50) (by decide +kernel)) rfl, by decide +kernel, by decide +kernel⟩, gW_in (List.mem_of_getElem? (i := 991) (by decide +kernel)) rfl, gW_in (List.mem_of_getElem? (i := 33) (by decide +kernel)) rfl, _, rfl, rfl⟩
abbrev mX6_look : rM := (RX6, yX6_look, cX6_look, 3, (some .int), 2, 47)
set_option maxRecDepth 100000 in
theorem oX6_look : okV mX6_look 2 6 := ⟨⟨gW_in (List.mem_of_getElem? (i := 988) (by rfl)) rfl, gW_in (List.mem_of_getElem? (i := 50) (by decide +kernel)) rfl, by decide +kernel, by decide +kernel⟩, gW_in (List.mem_of_getElem? (i := 986) (by decide +kernel)) rfl, gW_in (List.mem_of_getElem? (i := 987) (by decide +kernel)) rfl, _, rfl, rfl⟩
abbrev mX6_richest : rM := (RX6, yX6_richest, cX6_richest, 5, (some .int), 0, 0)
set_option maxRecDepth 100000 in
theorem oX6_richest : okV mX6_richest 1 6 := ⟨⟨gW_in (List.mem_of_getElem? (i := 1004) (by rfl)) rfl, gW_in (List.mem_of_getElem? (i := 50) (by decide +kernel)) rfl, by decide +kernel, by decide +kernel⟩, gW_in (List.mem_of_getElem? (i := 1002) (by decide +kernel)) rfl, gW_in (List.mem_of_getElem? (i := 1003) (by decide +kernel)) rfl, _, rfl, rfl⟩
abbrev mX6_place : rM := (RX6, yX6_place, cX6_place, 3, (some .int), 0, 0)
set_option maxRecDepth 100000 in
theorem oX6_place : okV mX6_place 2 6 := ⟨⟨gW_in (List.mem_of_getElem? (i := 1008) (by rfl)) rfl, gW_in (List.mem_of_getElem? (i := 50) (by decide +kernel)) rfl, by decide +kernel, by decide +kernel⟩, gW_in (List.mem_of_getElem? (i := 1006) (by decide +kernel)) rfl, gW_in (List.mem_of_getElem? (i := 1007) (by decide +kernel)) rfl, _, rfl, rfl⟩
abbrev mX6_fill : rM := (RX6, yX6_fill, cX6_fill, 8, (some .int), 2, 47)
set_option maxRecDepth 100000 in
theorem oX6_fill : okV mX6_fill 3 6 := ⟨⟨gW_in (List.mem_of_getElem? (i := 1016) (by rfl)) rfl, gW_in (List.mem_of_getElem? (i := 50) (by decide +kernel)) rfl, by decide +kernel, by decide +kernel⟩, gW_in (List.mem_of_getElem? (i := 1015) (by decide +kernel)) rfl, gW_in (List.mem_of_getElem? (i := 36) (by decide +kernel)) rfl, _, rfl, rfl⟩
abbrev mX6_begin : rM := (RX6, yX6_begin, cX6_begin, 3, (some .int), 3, 74)
set_option maxRecDepth 100000 in
theorem oX6_begin : okV mX6_begin 0 6 := ⟨⟨gW_in (List.mem_of_getElem? (i := 1012) (by rfl)) rfl, gW_in (List.mem_of_getElem? (i := 50) (by decide +kernel)) rfl, by decide +kernel, by decide +kernel⟩, gW_in (List.mem_of_getElem? (i := 1010) (by decide +kernel)) rfl, gW_in (List.mem_of_getElem? (i := 1011) (by decide +kernel)) rfl, _, rfl, rfl⟩
abbrev mX6_pays : rM := (RX6, yX6_pays, cX6_pays, 6, (some .int), 0, 0)
set_option maxRecDepth 100000 in
theorem oX6_pays : okV mX6_pays 2 6 := ⟨⟨gW_in (List.mem_of_getElem? (i := 1064) (by rfl)) rfl, gW_in (List.mem_of_getElem? (i := 50) (by decide +kernel)) rfl, by decide +kernel, by decide +kernel⟩, gW_in (List.mem_of_getElem? (i := 1063) (by decide +kernel)) rfl, gW_in (List.mem_of_getElem? (i := 42) (by decide +kernel)) rfl, _, rfl, rfl⟩
abbrev mX6_ends : rM := (RX6, yX6_ends, cX6_ends, 8, (some .int), 1, 25)
set_option maxRecDepth 100000 in
theorem oX6_ends : okV mX6_ends 3 6 := ⟨⟨gW_in (List.mem_of_getElem? (i := 1060) (by rfl)) rfl, gW_in (List.mem_of_getElem? (i := 50) (by decide +kernel)) rfl, by decide +kernel, by decide +kernel⟩, gW_in (List.mem_of_getElem? (i := 1059) (by decide +kernel)) rfl, gW_in (List.mem_of_getElem? (i := 41) (by decide +kernel)) rfl, _, rfl, rfl⟩
abbrev mX6_isOpen : rM := (RX6, yX6_isOpen, cX6_isOpen, 2, (some .boolean), 0, 0)
set_option maxRecDepth 100000 in
theorem oX6_isOpen : okV mX6_isOpen 1 6 := ⟨⟨gW_in (List.mem_of_getElem? (i := 1024) (by rfl)) rfl, gW_in (List.mem_of_getElem? (i := 50) (by decide +kernel)) rfl, by decide +kernel, by decide +kernel⟩, gW_in (List.mem_of_getElem? (i := 1023) (by decide +kernel)) rfl, gW_in (List.mem_of_getElem? (i := 37) (by decide +kernel)) rfl, _, rfl, rfl⟩
abbrev mX6_goesOver : rM := (RX6, yX6_goesOver, cX6_goesOver, 2, (some .boolean), 0, 0)
set_option maxRecDepth 100000 in
theorem oX6_goesOver : okV mX6_goesOver 1 6 := ⟨⟨gW_in (List.mem_of_getElem? (i := 1032) (by rfl)) rfl, gW_in (List.mem_of_getElem? (i := 50) (by decide +kernel)) rfl, by decide +kernel, by decide +kernel⟩, gW_in (List.mem_of_getElem? (i := 1031) (by decide +kernel)) rfl, gW_in (List.mem_of_getElem? (i := 39) (by decide +kernel)) rfl, _, rfl, rfl⟩
abbrev mX6_over : rM := (RX6, yX6_over, cX6_over, 2, none, 0, 0)
set_option maxRecDepth 100000 in
theorem oX6_over : okV mX6_over 1 6 := ⟨⟨gW_in (List.mem_of_getElem? (i := 1036) (by rfl)) rfl, gW_in (List.mem_of_getElem? (i := 50) (by decide +kernel)) rfl, by decide +kernel, by decide +kernel⟩, gW_in (List.mem_of_getElem? (i := 1035) (by decide +kernel)) rfl, gW_in (List.mem_of_getElem? (i := 40) (by decide +kernel)) rfl, _, rfl, rfl⟩
abbrev mX6_judge : rM := (RX6, yX6_judge, cX6_judge, 3, none, 1, 21)
set_option maxRecDepth 100000 in
theorem oX6_judge : okV mX6_judge 1 6 := ⟨⟨gW_in (List.mem_of_getElem? (i := 1028) (by rfl)) rfl, gW_in (List.mem_of_getElem? (i := 50) (by decide +kernel)) rfl, by decide +kernel, by decide +kernel⟩, gW_in (List.mem_of_getElem? (i := 1027) (by decide +kernel)) rfl, gW_in (List.mem_of_getElem? (i := 38) (by decide +kernel)) rfl, _, rfl, rfl⟩
abbrev mX6_pass : rM := (RX6, yX6_pass, cX6_pass, 3, (some .int), 2, 43)
set_option maxRecDepth 100000 in
theorem oX6_pass : okV mX6_pass 1 6 := ⟨⟨gW_in (List.mem_of_getElem? (i := 1020) (by rfl)) rfl, gW_in (List.mem_of_getElem? (i := 50) (by decide +kernel)) rfl, by decide +kernel, by decide +kernel⟩, gW_in (List.mem_of_getElem? (i := 1018) (by decide +kernel)) rfl, gW_in (List.mem_of_getElem? (i := 1019) (by decide +kernel)) rfl, _, rfl, rfl⟩
abbrev mX6_challenge : rM := (RX6, yX6_challenge, cX6_challenge, 5, (some .int), 2, 47)
set_option maxRecDepth 100000 in
theorem oX6_challenge : okV mX6_challenge 2 6 := ⟨⟨gW_in (List.mem_of_getElem? (i := 1040) (by rfl)) rfl, gW_in (List.mem_of_getElem? (i := 50) (by decide +kernel)) rfl, by decide +kernel, by decide +kernel⟩, gW_in (List.mem_of_getElem? (i := 1038) (by decide +kernel)) rfl, gW_in (List.mem_of_getElem? (i := 1039) (by decide +kernel)) rfl, _, rfl, rfl⟩
abbrev mX6_answer : rM := (RX6, yX6_answer, cX6_answer, 3, (some .boolean), 1, 21)
set_option maxRecDepth 100000 in
theorem oX6_answer : okV mX6_answer 2 6 := ⟨⟨gW_in (List.mem_of_getElem? (i := 1044) (by rfl)) rfl, gW_in (List.mem_of_getElem? (i := 50) (by decide +kernel)) rfl, by decide +kernel, by decide +kernel⟩, gW_in (List.mem_of_getElem? (i := 1042) (by decide +kernel)) rfl, gW_in (List.mem_of_getElem? (i := 1043) (by decide +kernel)) rfl, _, rfl, rfl⟩
abbrev mX6_swear : rM := (RX6, yX6_swear, cX6_swear, 7, (some .boolean), 0, 0)
set_option maxRecDepth 100000 in
theorem oX6_swear : okV mX6_swear 2 6 := ⟨⟨gW_in (List.mem_of_getElem? (i := 1048) (by rfl)) rfl, gW_in (List.mem_of_getElem? (i := 50) (by decide +kernel)) rfl, by decide +kernel, by decide +kernel⟩, gW_in (List.mem_of_getElem? (i := 1046) (by decide +kernel)) rfl, gW_in (List.mem_of_getElem? (i := 1047) (by decide +kernel)) rfl, _, rfl, rfl⟩
abbrev mX6_told : rM := (RX6, yX6_told, cX6_told, 3, (some .int), 1, 21)
set_option maxRecDepth 100000 in
theorem oX6_told : okV mX6_told 2 6 := ⟨⟨gW_in (List.mem_of_getElem? (i := 1052) (by rfl)) rfl, gW_in (List.mem_of_getElem? (i := 50) (by decide +kernel)) rfl, by decide +kernel, by decide +kernel⟩, gW_in (List.mem_of_getElem? (i := 1050) (by decide +kernel)) rfl, gW_in (List.mem_of_getElem? (i := 1051) (by decide +kernel)) rfl, _, rfl, rfl⟩
abbrev mX6_end : rM := (RX6, yX6_end, cX6_end, 2, (some .int), 2, 52)
set_option maxRecDepth 100000 in
theorem oX6_end : okV mX6_end 0 6 := ⟨⟨gW_in (List.mem_of_getElem? (i := 1056) (by rfl)) rfl, gW_in (List.mem_of_getElem? (i := 50) (by decide +kernel)) rfl, by decide +kernel, by decide +kernel⟩, gW_in (List.mem_of_getElem? (i := 1054) (by decide +kernel)) rfl, gW_in (List.mem_of_getElem? (i := 1055) (by decide +kernel)) rfl, _, rfl, rfl⟩
abbrev mX6_part : rM := (RX6, yX6_part, cX6_part, 2, (some .int), 1, 25)
set_option maxRecDepth 100000 in
theorem oX6_part : okV mX6_part 1 6 := ⟨⟨gW_in (List.mem_of_getElem? (i := 1068) (by rfl)) rfl, gW_in (List.mem_of_getElem? (i := 50) (by decide +kernel)) rfl, by decide +kernel, by decide +kernel⟩, gW_in (List.mem_of_getElem? (i := 1066) (by decide +kernel)) rfl, gW_in (List.mem_of_getElem? (i := 1067) (by decide +kernel)) rfl, _, rfl, rfl⟩
abbrev mX6_gain : rM := (RX6, yX6_gain, cX6_gain, 7, (some .int), 1, 25)
set_option maxRecDepth 100000 in
theorem oX6_gain : okV mX6_gain 2 6 := ⟨⟨gW_in (List.mem_of_getElem? (i := 1072) (by rfl)) rfl, gW_in (List.mem_of_getElem? (i := 50) (by decide +kernel)) rfl, by decide +kernel, by decide +kernel⟩, gW_in (List.mem_of_getElem? (i := 1070) (by decide +kernel)) rfl, gW_in (List.mem_of_getElem? (i := 1071) (by decide +kernel)) rfl, _, rfl, rfl⟩
abbrev mX6_ahead : rM := (RX6, yX6_ahead, cX6_ahead, 5, (some .int), 3, 74)
set_option maxRecDepth 100000 in
theorem oX6_ahead : okV mX6_ahead 1 6 := ⟨⟨gW_in (List.mem_of_getElem? (i := 1077) (by rfl)) rfl, gW_in (List.mem_of_getElem? (i := 50) (by decide +kernel)) rfl, by decide +kernel, by decide +kernel⟩, gW_in (List.mem_of_getElem? (i := 1075) (by decide +kernel)) rfl, gW_in (List.mem_of_getElem? (i := 1076) (by decide +kernel)) rfl, _, rfl, rfl⟩
abbrev mX6_count : rM := (RX6, yX6_count, cX6_count, 2, (some .int), 0, 0)
set_option maxRecDepth 100000 in
theorem oX6_count : okV mX6_count 1 6 := ⟨⟨gW_in (List.mem_of_getElem? (i := 1081) (by rfl)) rfl, gW_in (List.mem_of_getElem? (i := 50) (by decide +kernel)) rfl, by decide +kernel, by decide +kernel⟩, gW_in (List.mem_of_getElem? (i := 1079) (by decide +kernel)) rfl, gW_in (List.mem_of_getElem? (i := 1080) (by decide +kernel)) rfl, _, rfl, rfl⟩
abbrev mJ9_min_7cf53 : rM := (RJ9, yJ9_min_7cf53, cJ9_min_7cf53, 2, (some .int), 0, 0)
set_option maxRecDepth 100000 in
theorem oJ9_min_7cf53 : okM mJ9_min_7cf53 2 := ⟨gW_in (List.mem_of_getElem? (i := 380) (by rfl)) rfl, gW_in (List.mem_of_getElem? (i := 55) (by decide +kernel)) rfl, by decide +kernel, by decide +kernel⟩
theorem sJ9_min_7cf53 : Cond.static (mY mJ9_min_7cf53) ∈ gW := gW_in (List.mem_of_getElem? (i := 379) (by decide +kernel)) rfl
abbrev mJ0_length_8abf5 : rM := (RJ0, yJ0_length_8abf5, cJ0_length_8abf5, 1, (some .int), 1, 20)
set_option maxRecDepth 100000 in
theorem oJ0_length_8abf5 : okM mJ0_length_8abf5 0 := ⟨gW_in (List.mem_of_getElem? (i := 299) (by rfl)) rfl, gW_in (List.mem_of_getElem? (i := 51) (by decide +kernel)) rfl, by decide +kernel, by decide +kernel⟩
theorem oiJ0_length_8abf5 : Cond.instanceMethod (mY mJ0_length_8abf5) ∈ gW ∧ Cond.selects (mY mJ0_length_8abf5).cls (mY mJ0_length_8abf5) (mY mJ0_length_8abf5) ∈ gW := ⟨gW_in (List.mem_of_getElem? (i := 297) (by decide +kernel)) rfl, gW_in (List.mem_of_getElem? (i := 298) (by decide +kernel)) rfl⟩
abbrev mJ0_charAt_5068e : rM := (RJ0, yJ0_charAt_5068e, cJ0_charAt_5068e, 2, (some .char), 1, 21)
set_option maxRecDepth 100000 in
theorem oJ0_charAt_5068e : okM mJ0_charAt_5068e 1 := ⟨gW_in (List.mem_of_getElem? (i := 309) (by rfl)) rfl, gW_in (List.mem_of_getElem? (i := 51) (by decide +kernel)) rfl, by decide +kernel, by decide +kernel⟩
theorem oiJ0_charAt_5068e : Cond.instanceMethod (mY mJ0_charAt_5068e) ∈ gW ∧ Cond.selects (mY mJ0_charAt_5068e).cls (mY mJ0_charAt_5068e) (mY mJ0_charAt_5068e) ∈ gW := ⟨gW_in (List.mem_of_getElem? (i := 307) (by decide +kernel)) rfl, gW_in (List.mem_of_getElem? (i := 308) (by decide +kernel)) rfl⟩
abbrev mJ0_coder_7d493 : rM := (RJ0, yJ0_coder_7d493, cJ0_coder_7d493, 1, (some .byte), 0, 0)
set_option maxRecDepth 100000 in
theorem oJ0_coder_7d493 : okM mJ0_coder_7d493 0 := ⟨gW_in (List.mem_of_getElem? (i := 303) (by rfl)) rfl, gW_in (List.mem_of_getElem? (i := 51) (by decide +kernel)) rfl, by decide +kernel, by decide +kernel⟩
theorem oiJ0_coder_7d493 : Cond.instanceMethod (mY mJ0_coder_7d493) ∈ gW ∧ Cond.selects (mY mJ0_coder_7d493).cls (mY mJ0_coder_7d493) (mY mJ0_coder_7d493) ∈ gW := ⟨gW_in (List.mem_of_getElem? (i := 301) (by decide +kernel)) rfl, gW_in (List.mem_of_getElem? (i := 302) (by decide +kernel)) rfl⟩
abbrev mJ0_isLatin1_aae02 : rM := (RJ0, yJ0_isLatin1_aae02, cJ0_isLatin1_aae02, 1, (some .boolean), 0, 0)
set_option maxRecDepth 100000 in
theorem oJ0_isLatin1_aae02 : okM mJ0_isLatin1_aae02 0 := ⟨gW_in (List.mem_of_getElem? (i := 313) (by rfl)) rfl, gW_in (List.mem_of_getElem? (i := 51) (by decide +kernel)) rfl, by decide +kernel, by decide +kernel⟩
theorem oiJ0_isLatin1_aae02 : Cond.instanceMethod (mY mJ0_isLatin1_aae02) ∈ gW ∧ Cond.selects (mY mJ0_isLatin1_aae02).cls (mY mJ0_isLatin1_aae02) (mY mJ0_isLatin1_aae02) ∈ gW := ⟨gW_in (List.mem_of_getElem? (i := 311) (by decide +kernel)) rfl, gW_in (List.mem_of_getElem? (i := 312) (by decide +kernel)) rfl⟩
abbrev mJ1_charAt_3b067 : rM := (RJ1, yJ1_charAt_3b067, cJ1_charAt_3b067, 2, (some .char), 0, 0)
set_option maxRecDepth 100000 in
theorem oJ1_charAt_3b067 : okM mJ1_charAt_3b067 2 := ⟨gW_in (List.mem_of_getElem? (i := 316) (by rfl)) rfl, gW_in (List.mem_of_getElem? (i := 52) (by decide +kernel)) rfl, by decide +kernel, by decide +kernel⟩
theorem sJ1_charAt_3b067 : Cond.static (mY mJ1_charAt_3b067) ∈ gW := gW_in (List.mem_of_getElem? (i := 315) (by decide +kernel)) rfl
theorem fX0_37 : Cond.fieldLink RX0 37 (TX0 8).1 (TX0 8).2.1 (TX0 8).2.2.1 ∈ gW := gW_in (List.mem_of_getElem? (i := 155) (by decide +kernel)) rfl
theorem fX0_9 : Cond.fieldLink RX0 9 (TX0 0).1 (TX0 0).2.1 (TX0 0).2.2.1 ∈ gW := gW_in (List.mem_of_getElem? (i := 147) (by decide +kernel)) rfl
theorem fX0_15 : Cond.fieldLink RX0 15 (TX0 1).1 (TX0 1).2.1 (TX0 1).2.2.1 ∈ gW := gW_in (List.mem_of_getElem? (i := 148) (by decide +kernel)) rfl
theorem fX0_18 : Cond.fieldLink RX0 18 (TX0 2).1 (TX0 2).2.1 (TX0 2).2.2.1 ∈ gW := gW_in (List.mem_of_getElem? (i := 149) (by decide +kernel)) rfl
theorem fX0_21 : Cond.fieldLink RX0 21 (TX0 3).1 (TX0 3).2.1 (TX0 3).2.2.1 ∈ gW := gW_in (List.mem_of_getElem? (i := 150) (by decide +kernel)) rfl
theorem fX0_24 : Cond.fieldLink RX0 24 (TX0 4).1 (TX0 4).2.1 (TX0 4).2.2.1 ∈ gW := gW_in (List.mem_of_getElem? (i := 151) (by decide +kernel)) rfl
theorem fX0_27 : Cond.fieldLink RX0 27 (TX0 5).1 (TX0 5).2.1 (TX0 5).2.2.1 ∈ gW := gW_in (List.mem_of_getElem? (i := 152) (by decide +kernel)) rfl
theorem fX0_30 : Cond.fieldLink RX0 30 (TX0 6).1 (TX0 6).2.1 (TX0 6).2.2.1 ∈ gW := gW_in (List.mem_of_getElem? (i := 153) (by decide +kernel)) rfl
theorem fX0_34 : Cond.fieldLink RX0 34 (TX0 7).1 (TX0 7).2.1 (TX0 7).2.2.1 ∈ gW := gW_in (List.mem_of_getElem? (i := 154) (by decide +kernel)) rfl
theorem lX0_41 : Cond.methodLink RX0 41 yX0_has ∈ gW := gW_in (List.mem_of_getElem? (i := 532) (by decide +kernel)) rfl
theorem lX0_45 : Cond.methodLink RX0 45 yX0_isRunning ∈ gW := gW_in (List.mem_of_getElem? (i := 524) (by decide +kernel)) rfl
theorem lX0_48 : Cond.methodLink RX0 48 yX2_handOver ∈ gW := gW_in (List.mem_of_getElem? (i := 549) (by decide +kernel)) rfl
theorem lX0_54 : Cond.methodLink RX0 54 yX2_exchangeEstates ∈ gW := gW_in (List.mem_of_getElem? (i := 608) (by decide +kernel)) rfl
theorem lX0_58 : Cond.methodLink RX0 58 yX0_judge ∈ gW := gW_in (List.mem_of_getElem? (i := 536) (by decide +kernel)) rfl
theorem lX0_62 : Cond.methodLink RX0 62 yX0_verdictOn ∈ gW := gW_in (List.mem_of_getElem? (i := 540) (by decide +kernel)) rfl
theorem lX0_66 : Cond.methodLink RX0 66 yX0_carryOut ∈ gW := gW_in (List.mem_of_getElem? (i := 545) (by decide +kernel)) rfl
theorem lX0_70 : Cond.methodLink RX0 70 yX2_declaredOf ∈ gW := gW_in (List.mem_of_getElem? (i := 544) (by decide +kernel)) rfl
theorem lX0_74 : Cond.methodLink RX0 74 yX0_standingOf ∈ gW := gW_in (List.mem_of_getElem? (i := 528) (by decide +kernel)) rfl
theorem fX1_26 : Cond.fieldLink RX1 26 (TX1 4).1 (TX1 4).2.1 (TX1 4).2.2.1 ∈ gW := gW_in (List.mem_of_getElem? (i := 93) (by decide +kernel)) rfl
theorem fX1_29 : Cond.fieldLink RX1 29 (TX1 5).1 (TX1 5).2.1 (TX1 5).2.2.1 ∈ gW := gW_in (List.mem_of_getElem? (i := 94) (by decide +kernel)) rfl
theorem fX1_19 : Cond.fieldLink RX1 19 (TX1 2).1 (TX1 2).2.1 (TX1 2).2.2.1 ∈ gW := gW_in (List.mem_of_getElem? (i := 91) (by decide +kernel)) rfl
theorem fX1_23 : Cond.fieldLink RX1 23 (TX1 3).1 (TX1 3).2.1 (TX1 3).2.2.1 ∈ gW := gW_in (List.mem_of_getElem? (i := 92) (by decide +kernel)) rfl
theorem fX1_15 : Cond.fieldLink RX1 15 (TX1 1).1 (TX1 1).2.1 (TX1 1).2.2.1 ∈ gW := gW_in (List.mem_of_getElem? (i := 90) (by decide +kernel)) rfl
theorem lX1_32 : Cond.methodLink RX1 32 yX3_clear ∈ gW := gW_in (List.mem_of_getElem? (i := 255) (by decide +kernel)) rfl
theorem lX1_37 : Cond.methodLink RX1 37 yX1_isSound ∈ gW := gW_in (List.mem_of_getElem? (i := 259) (by decide +kernel)) rfl
theorem lX1_41 : Cond.methodLink RX1 41 yX1_nextSign ∈ gW := gW_in (List.mem_of_getElem? (i := 263) (by decide +kernel)) rfl
theorem lX1_45 : Cond.methodLink RX1 45 yX1_readLine ∈ gW := gW_in (List.mem_of_getElem? (i := 274) (by decide +kernel)) rfl
theorem lX1_49 : Cond.methodLink RX1 49 yX3_numberPlaces ∈ gW := gW_in (List.mem_of_getElem? (i := 398) (by decide +kernel)) rfl
theorem lX1_52 : Cond.methodLink RX1 52 yX1_passSettingWord ∈ gW := gW_in (List.mem_of_getElem? (i := 278) (by decide +kernel)) rfl
theorem lX1_55 : Cond.methodLink RX1 55 yX1_readBurden ∈ gW := gW_in (List.mem_of_getElem? (i := 344) (by decide +kernel)) rfl
theorem lX1_58 : Cond.methodLink RX1 58 yX1_blame ∈ gW := gW_in (List.mem_of_getElem? (i := 353) (by decide +kernel)) rfl
theorem lX1_62 : Cond.methodLink RX1 62 yX1_mostOf ∈ gW := gW_in (List.mem_of_getElem? (i := 386) (by decide +kernel)) rfl
theorem lX1_66 : Cond.methodLink RX1 66 yX1_expectNumber ∈ gW := gW_in (List.mem_of_getElem? (i := 370) (by decide +kernel)) rfl
theorem lX1_70 : Cond.methodLink RX1 70 yX3_tellSetting ∈ gW := gW_in (List.mem_of_getElem? (i := 390) (by decide +kernel)) rfl
theorem lX1_73 : Cond.methodLink RX1 73 yX1_expectSemicolon ∈ gW := gW_in (List.mem_of_getElem? (i := 394) (by decide +kernel)) rfl
theorem lX1_78 : Cond.methodLink RX1 78 yX1_expectWord ∈ gW := gW_in (List.mem_of_getElem? (i := 349) (by decide +kernel)) rfl
theorem lX1_82 : Cond.methodLink RX1 82 yX1_expectNewName ∈ gW := gW_in (List.mem_of_getElem? (i := 357) (by decide +kernel)) rfl
theorem lX1_90 : Cond.methodLink RX1 90 yX3_tellBurden ∈ gW := gW_in (List.mem_of_getElem? (i := 382) (by decide +kernel)) rfl
theorem lX1_94 : Cond.methodLink RX1 94 yX1_wordOf ∈ gW := gW_in (List.mem_of_getElem? (i := 282) (by decide +kernel)) rfl
theorem lX1_98 : Cond.methodLink RX1 98 yX1_passWord ∈ gW := gW_in (List.mem_of_getElem? (i := 289) (by decide +kernel)) rfl
theorem lX1_102 : Cond.methodLink RX1 102 yX3_hasBurden ∈ gW := gW_in (List.mem_of_getElem? (i := 361) (by decide +kernel)) rfl
theorem lX1_106 : Cond.methodLink RX1 106 yX1_isDigit ∈ gW := gW_in (List.mem_of_getElem? (i := 374) (by decide +kernel)) rfl
theorem fX1_9 : Cond.fieldLink RX1 9 (TX1 0).1 (TX1 0).2.1 (TX1 0).2.2.1 ∈ gW := gW_in (List.mem_of_getElem? (i := 89) (by decide +kernel)) rfl
theorem lX1_109 : Cond.methodLink RX1 109 yX4_at ∈ gW := gW_in (List.mem_of_getElem? (i := 267) (by decide +kernel)) rfl
theorem lX1_115 : Cond.methodLink RX1 115 yJ9_min_7cf53 ∈ gW := gW_in (List.mem_of_getElem? (i := 378) (by decide +kernel)) rfl
theorem lX1_120 : Cond.methodLink RX1 120 yX1_isBlank ∈ gW := gW_in (List.mem_of_getElem? (i := 271) (by decide +kernel)) rfl
theorem lX1_123 : Cond.methodLink RX1 123 yX1_isSmallLetter ∈ gW := gW_in (List.mem_of_getElem? (i := 293) (by decide +kernel)) rfl
theorem lX1_126 : Cond.methodLink RX1 126 yJ0_length_8abf5 ∈ gW := gW_in (List.mem_of_getElem? (i := 296) (by decide +kernel)) rfl
theorem lX1_131 : Cond.methodLink RX1 131 yJ0_charAt_5068e ∈ gW := gW_in (List.mem_of_getElem? (i := 306) (by decide +kernel)) rfl
theorem fX2_33 : Cond.fieldLink RX2 33 (TX2 7).1 (TX2 7).2.1 (TX2 7).2.2.1 ∈ gW := gW_in (List.mem_of_getElem? (i := 122) (by decide +kernel)) rfl
theorem fX2_9 : Cond.fieldLink RX2 9 (TX2 0).1 (TX2 0).2.1 (TX2 0).2.2.1 ∈ gW := gW_in (List.mem_of_getElem? (i := 115) (by decide +kernel)) rfl
theorem fX2_15 : Cond.fieldLink RX2 15 (TX2 1).1 (TX2 1).2.1 (TX2 1).2.2.1 ∈ gW := gW_in (List.mem_of_getElem? (i := 116) (by decide +kernel)) rfl
theorem fX2_18 : Cond.fieldLink RX2 18 (TX2 2).1 (TX2 2).2.1 (TX2 2).2.2.1 ∈ gW := gW_in (List.mem_of_getElem? (i := 117) (by decide +kernel)) rfl
theorem fX2_21 : Cond.fieldLink RX2 21 (TX2 3).1 (TX2 3).2.1 (TX2 3).2.2.1 ∈ gW := gW_in (List.mem_of_getElem? (i := 118) (by decide +kernel)) rfl
theorem fX2_24 : Cond.fieldLink RX2 24 (TX2 4).1 (TX2 4).2.1 (TX2 4).2.2.1 ∈ gW := gW_in (List.mem_of_getElem? (i := 119) (by decide +kernel)) rfl
theorem fX2_27 : Cond.fieldLink RX2 27 (TX2 5).1 (TX2 5).2.1 (TX2 5).2.2.1 ∈ gW := gW_in (List.mem_of_getElem? (i := 120) (by decide +kernel)) rfl
theorem fX2_30 : Cond.fieldLink RX2 30 (TX2 6).1 (TX2 6).2.1 (TX2 6).2.2.1 ∈ gW := gW_in (List.mem_of_getElem? (i := 121) (by decide +kernel)) rfl
theorem lX2_37 : Cond.methodLink RX2 37 yX2_has ∈ gW := gW_in (List.mem_of_getElem? (i := 446) (by decide +kernel)) rfl
theorem lX2_41 : Cond.methodLink RX2 41 yX2_declaredOf ∈ gW := gW_in (List.mem_of_getElem? (i := 463) (by decide +kernel)) rfl
theorem lX2_45 : Cond.methodLink RX2 45 yX2_hiddenOf ∈ gW := gW_in (List.mem_of_getElem? (i := 676) (by decide +kernel)) rfl
theorem lX2_48 : Cond.methodLink RX2 48 yX2_isPlace ∈ gW := gW_in (List.mem_of_getElem? (i := 484) (by decide +kernel)) rfl
theorem lX2_51 : Cond.methodLink RX2 51 yX2_rankOf ∈ gW := gW_in (List.mem_of_getElem? (i := 459) (by decide +kernel)) rfl
theorem lX2_54 : Cond.methodLink RX2 54 yX3_setting ∈ gW := gW_in (List.mem_of_getElem? (i := 508) (by decide +kernel)) rfl
theorem lX2_59 : Cond.methodLink RX2 59 yX3_places ∈ gW := gW_in (List.mem_of_getElem? (i := 499) (by decide +kernel)) rfl
theorem lX2_63 : Cond.methodLink RX2 63 yX2_richestFit ∈ gW := gW_in (List.mem_of_getElem? (i := 500) (by decide +kernel)) rfl
theorem lX2_67 : Cond.methodLink RX2 67 yX2_layOn ∈ gW := gW_in (List.mem_of_getElem? (i := 512) (by decide +kernel)) rfl
theorem lX2_71 : Cond.methodLink RX2 71 yX2_isFit ∈ gW := gW_in (List.mem_of_getElem? (i := 504) (by decide +kernel)) rfl
theorem lX2_75 : Cond.methodLink RX2 75 yX3_burdenAt ∈ gW := gW_in (List.mem_of_getElem? (i := 653) (by decide +kernel)) rfl
theorem lX2_78 : Cond.methodLink RX2 78 yX3_partBehind ∈ gW := gW_in (List.mem_of_getElem? (i := 654) (by decide +kernel)) rfl
theorem lX2_82 : Cond.methodLink RX2 82 yX2_bearerAt ∈ gW := gW_in (List.mem_of_getElem? (i := 648) (by decide +kernel)) rfl
theorem lX2_84 : Cond.methodLink RX2 84 yX2_partAt ∈ gW := gW_in (List.mem_of_getElem? (i := 649) (by decide +kernel)) rfl
theorem lX2_87 : Cond.methodLink RX2 87 yX2_layDownAll ∈ gW := gW_in (List.mem_of_getElem? (i := 658) (by decide +kernel)) rfl
theorem fX3_9 : Cond.fieldLink RX3 9 (TX3 0).1 (TX3 0).2.1 (TX3 0).2.2.1 ∈ gW := gW_in (List.mem_of_getElem? (i := 181) (by decide +kernel)) rfl
theorem fX3_15 : Cond.fieldLink RX3 15 (TX3 1).1 (TX3 1).2.1 (TX3 1).2.2.1 ∈ gW := gW_in (List.mem_of_getElem? (i := 182) (by decide +kernel)) rfl
theorem fX3_18 : Cond.fieldLink RX3 18 (TX3 2).1 (TX3 2).2.1 (TX3 2).2.2.1 ∈ gW := gW_in (List.mem_of_getElem? (i := 183) (by decide +kernel)) rfl
theorem fX3_24 : Cond.fieldLink RX3 24 (TX3 4).1 (TX3 4).2.1 (TX3 4).2.2.1 ∈ gW := gW_in (List.mem_of_getElem? (i := 185) (by decide +kernel)) rfl
theorem lX3_28 : Cond.methodLink RX3 28 yX3_shareOf ∈ gW := gW_in (List.mem_of_getElem? (i := 365) (by decide +kernel)) rfl
theorem fX3_21 : Cond.fieldLink RX3 21 (TX3 3).1 (TX3 3).2.1 (TX3 3).2.2.1 ∈ gW := gW_in (List.mem_of_getElem? (i := 184) (by decide +kernel)) rfl
theorem lX3_32 : Cond.methodLink RX3 32 yX3_hasPlace ∈ gW := gW_in (List.mem_of_getElem? (i := 479) (by decide +kernel)) rfl
theorem fX4_15 : Cond.fieldLink RX4 15 (TX4 1).1 (TX4 1).2.1 (TX4 1).2.2.1 ∈ gW := gW_in (List.mem_of_getElem? (i := 76) (by decide +kernel)) rfl
theorem fX4_9 : Cond.fieldLink RX4 9 (TX4 0).1 (TX4 0).2.1 (TX4 0).2.2.1 ∈ gW := gW_in (List.mem_of_getElem? (i := 75) (by decide +kernel)) rfl
theorem fX5_10 : Cond.fieldLink RX5 10 (TX5 0).1 (TX5 0).2.1 (TX5 0).2.2.1 ∈ gW := gW_in (List.mem_of_getElem? (i := 197) (by decide +kernel)) rfl
theorem lX5_66 : Cond.methodLink RX5 66 yX4_hasRoom ∈ gW := gW_in (List.mem_of_getElem? (i := 235) (by decide +kernel)) rfl
theorem lX5_70 : Cond.methodLink RX5 70 yX4_append ∈ gW := gW_in (List.mem_of_getElem? (i := 239) (by decide +kernel)) rfl
theorem lX5_74 : Cond.methodLink RX5 74 yX4_length ∈ gW := gW_in (List.mem_of_getElem? (i := 243) (by decide +kernel)) rfl
theorem fX5_52 : Cond.fieldLink RX5 52 (TX5 7).1 (TX5 7).2.1 (TX5 7).2.2.1 ∈ gW := gW_in (List.mem_of_getElem? (i := 204) (by decide +kernel)) rfl
theorem fX5_21 : Cond.fieldLink RX5 21 (TX5 1).1 (TX5 1).2.1 (TX5 1).2.2.1 ∈ gW := gW_in (List.mem_of_getElem? (i := 198) (by decide +kernel)) rfl
theorem fX5_49 : Cond.fieldLink RX5 49 (TX5 6).1 (TX5 6).2.1 (TX5 6).2.2.1 ∈ gW := gW_in (List.mem_of_getElem? (i := 203) (by decide +kernel)) rfl
theorem lX5_78 : Cond.methodLink RX5 78 yX1_read ∈ gW := gW_in (List.mem_of_getElem? (i := 251) (by decide +kernel)) rfl
theorem lX5_82 : Cond.methodLink RX5 82 yX4_clear ∈ gW := gW_in (List.mem_of_getElem? (i := 402) (by decide +kernel)) rfl
theorem fX5_45 : Cond.fieldLink RX5 45 (TX5 5).1 (TX5 5).2.1 (TX5 5).2.2.1 ∈ gW := gW_in (List.mem_of_getElem? (i := 202) (by decide +kernel)) rfl
theorem lX5_85 : Cond.methodLink RX5 85 yX3_places ∈ gW := gW_in (List.mem_of_getElem? (i := 406) (by decide +kernel)) rfl
theorem lX5_88 : Cond.methodLink RX5 88 yX1_faultKind ∈ gW := gW_in (List.mem_of_getElem? (i := 414) (by decide +kernel)) rfl
theorem lX5_91 : Cond.methodLink RX5 91 yX1_faultPlace ∈ gW := gW_in (List.mem_of_getElem? (i := 418) (by decide +kernel)) rfl
theorem lX5_94 : Cond.methodLink RX5 94 yX5_areCoins ∈ gW := gW_in (List.mem_of_getElem? (i := 426) (by decide +kernel)) rfl
theorem fX5_28 : Cond.fieldLink RX5 28 (TX5 2).1 (TX5 2).2.1 (TX5 2).2.2.1 ∈ gW := gW_in (List.mem_of_getElem? (i := 199) (by decide +kernel)) rfl
theorem lX5_97 : Cond.methodLink RX5 97 yX2_enter ∈ gW := gW_in (List.mem_of_getElem? (i := 430) (by decide +kernel)) rfl
theorem lX5_101 : Cond.methodLink RX5 101 yX2_has ∈ gW := gW_in (List.mem_of_getElem? (i := 438) (by decide +kernel)) rfl
theorem lX5_104 : Cond.methodLink RX5 104 yX2_hiddenOf ∈ gW := gW_in (List.mem_of_getElem? (i := 442) (by decide +kernel)) rfl
theorem lX5_108 : Cond.methodLink RX5 108 yX2_uncover ∈ gW := gW_in (List.mem_of_getElem? (i := 447) (by decide +kernel)) rfl
theorem lX5_119 : Cond.methodLink RX5 119 yX2_declaredOf ∈ gW := gW_in (List.mem_of_getElem? (i := 776) (by decide +kernel)) rfl
theorem lX5_122 : Cond.methodLink RX5 122 yX2_placeOf ∈ gW := gW_in (List.mem_of_getElem? (i := 561) (by decide +kernel)) rfl
theorem lX5_125 : Cond.methodLink RX5 125 yX2_freeFromOf ∈ gW := gW_in (List.mem_of_getElem? (i := 777) (by decide +kernel)) rfl
theorem lX5_128 : Cond.methodLink RX5 128 yX2_yearsBorneOf ∈ gW := gW_in (List.mem_of_getElem? (i := 781) (by decide +kernel)) rfl
theorem lX5_131 : Cond.methodLink RX5 131 yX5_isFitNow ∈ gW := gW_in (List.mem_of_getElem? (i := 565) (by decide +kernel)) rfl
theorem lX5_139 : Cond.methodLink RX5 139 yX2_manOfRank ∈ gW := gW_in (List.mem_of_getElem? (i := 455) (by decide +kernel)) rfl
theorem lX5_142 : Cond.methodLink RX5 142 yX3_hasPlace ∈ gW := gW_in (List.mem_of_getElem? (i := 471) (by decide +kernel)) rfl
theorem lX5_145 : Cond.methodLink RX5 145 yX3_burdenAt ∈ gW := gW_in (List.mem_of_getElem? (i := 475) (by decide +kernel)) rfl
theorem lX5_148 : Cond.methodLink RX5 148 yX2_bearerAt ∈ gW := gW_in (List.mem_of_getElem? (i := 480) (by decide +kernel)) rfl
theorem fX5_56 : Cond.fieldLink RX5 56 (TX5 8).1 (TX5 8).2.1 (TX5 8).2.2.1 ∈ gW := gW_in (List.mem_of_getElem? (i := 205) (by decide +kernel)) rfl
theorem fX5_60 : Cond.fieldLink RX5 60 (TX5 9).1 (TX5 9).2.1 (TX5 9).2.2.1 ∈ gW := gW_in (List.mem_of_getElem? (i := 206) (by decide +kernel)) rfl
theorem fX5_38 : Cond.fieldLink RX5 38 (TX5 4).1 (TX5 4).2.1 (TX5 4).2.2.1 ∈ gW := gW_in (List.mem_of_getElem? (i := 201) (by decide +kernel)) rfl
theorem lX5_151 : Cond.methodLink RX5 151 yX0_clear ∈ gW := gW_in (List.mem_of_getElem? (i := 491) (by decide +kernel)) rfl
theorem lX5_152 : Cond.methodLink RX5 152 yX2_fillPlaces ∈ gW := gW_in (List.mem_of_getElem? (i := 495) (by decide +kernel)) rfl
theorem lX5_156 : Cond.methodLink RX5 156 yX0_judgeBeyond ∈ gW := gW_in (List.mem_of_getElem? (i := 520) (by decide +kernel)) rfl
theorem lX5_160 : Cond.methodLink RX5 160 yX0_hasRoom ∈ gW := gW_in (List.mem_of_getElem? (i := 557) (by decide +kernel)) rfl
theorem lX5_163 : Cond.methodLink RX5 163 yX0_engages ∈ gW := gW_in (List.mem_of_getElem? (i := 570) (by decide +kernel)) rfl
theorem lX5_166 : Cond.methodLink RX5 166 yX2_hasBorne ∈ gW := gW_in (List.mem_of_getElem? (i := 574) (by decide +kernel)) rfl
theorem lX5_170 : Cond.methodLink RX5 170 yX3_setting ∈ gW := gW_in (List.mem_of_getElem? (i := 578) (by decide +kernel)) rfl
theorem lX5_173 : Cond.methodLink RX5 173 yX0_enter ∈ gW := gW_in (List.mem_of_getElem? (i := 579) (by decide +kernel)) rfl
theorem lX5_176 : Cond.methodLink RX5 176 yX0_standingOf ∈ gW := gW_in (List.mem_of_getElem? (i := 587) (by decide +kernel)) rfl
theorem lX5_179 : Cond.methodLink RX5 179 yX0_take ∈ gW := gW_in (List.mem_of_getElem? (i := 588) (by decide +kernel)) rfl
theorem lX5_182 : Cond.methodLink RX5 182 yX0_change ∈ gW := gW_in (List.mem_of_getElem? (i := 592) (by decide +kernel)) rfl
theorem lX5_185 : Cond.methodLink RX5 185 yX0_hasSworn ∈ gW := gW_in (List.mem_of_getElem? (i := 600) (by decide +kernel)) rfl
theorem lX5_189 : Cond.methodLink RX5 189 yX0_hearOath ∈ gW := gW_in (List.mem_of_getElem? (i := 604) (by decide +kernel)) rfl
theorem lX5_193 : Cond.methodLink RX5 193 yX0_sayerOf ∈ gW := gW_in (List.mem_of_getElem? (i := 616) (by decide +kernel)) rfl
theorem lX5_196 : Cond.methodLink RX5 196 yX0_hearerOf ∈ gW := gW_in (List.mem_of_getElem? (i := 620) (by decide +kernel)) rfl
theorem lX5_199 : Cond.methodLink RX5 199 yX0_placeIn ∈ gW := gW_in (List.mem_of_getElem? (i := 624) (by decide +kernel)) rfl
theorem lX5_202 : Cond.methodLink RX5 202 yX0_dayOf ∈ gW := gW_in (List.mem_of_getElem? (i := 628) (by decide +kernel)) rfl
theorem lX5_205 : Cond.methodLink RX5 205 yX0_lastDayOf ∈ gW := gW_in (List.mem_of_getElem? (i := 632) (by decide +kernel)) rfl
theorem lX5_208 : Cond.methodLink RX5 208 yX0_judgeAll ∈ gW := gW_in (List.mem_of_getElem? (i := 640) (by decide +kernel)) rfl
theorem lX5_212 : Cond.methodLink RX5 212 yX2_settle ∈ gW := gW_in (List.mem_of_getElem? (i := 644) (by decide +kernel)) rfl
theorem fX5_63 : Cond.fieldLink RX5 63 (TX5 10).1 (TX5 10).2.1 (TX5 10).2.2.1 ∈ gW := gW_in (List.mem_of_getElem? (i := 207) (by decide +kernel)) rfl
theorem lX5_215 : Cond.methodLink RX5 215 yX2_partAt ∈ gW := gW_in (List.mem_of_getElem? (i := 666) (by decide +kernel)) rfl
theorem lX5_221 : Cond.methodLink RX5 221 yX2_worthOf ∈ gW := gW_in (List.mem_of_getElem? (i := 672) (by decide +kernel)) rfl
theorem fX5_32 : Cond.fieldLink RX5 32 (TX5 3).1 (TX5 3).2.1 (TX5 3).2.2.1 ∈ gW := gW_in (List.mem_of_getElem? (i := 200) (by decide +kernel)) rfl
theorem lX5_224 : Cond.methodLink RX5 224 yX2_copyFrom ∈ gW := gW_in (List.mem_of_getElem? (i := 681) (by decide +kernel)) rfl
theorem lX5_227 : Cond.methodLink RX5 227 yX0_foreseeVerdicts ∈ gW := gW_in (List.mem_of_getElem? (i := 685) (by decide +kernel)) rfl
theorem lX5_230 : Cond.methodLink RX5 230 yX2_size ∈ gW := gW_in (List.mem_of_getElem? (i := 693) (by decide +kernel)) rfl
theorem lX5_233 : Cond.methodLink RX5 233 yX0_size ∈ gW := gW_in (List.mem_of_getElem? (i := 697) (by decide +kernel)) rfl
theorem lX5_235 : Cond.methodLink RX5 235 yX2_isFit ∈ gW := gW_in (List.mem_of_getElem? (i := 569) (by decide +kernel)) rfl
theorem fX6_75 : Cond.fieldLink RX6 75 (TX6 2).1 (TX6 2).2.1 (TX6 2).2.2.1 ∈ gW := gW_in (List.mem_of_getElem? (i := 809) (by decide +kernel)) rfl
theorem fX6_78 : Cond.fieldLink RX6 78 (TX6 1).1 (TX6 1).2.1 (TX6 1).2.2.1 ∈ gW := gW_in (List.mem_of_getElem? (i := 808) (by decide +kernel)) rfl
theorem fX6_7 : Cond.fieldLink RX6 7 (TX6 0).1 (TX6 0).2.1 (TX6 0).2.2.1 ∈ gW := gW_in (List.mem_of_getElem? (i := 807) (by decide +kernel)) rfl
theorem fX6_81 : Cond.fieldLink RX6 81 (TX6 8).1 (TX6 8).2.1 (TX6 8).2.2.1 ∈ gW := gW_in (List.mem_of_getElem? (i := 815) (by decide +kernel)) rfl
theorem fX6_25 : Cond.fieldLink RX6 25 (TX6 9).1 (TX6 9).2.1 (TX6 9).2.2.1 ∈ gW := gW_in (List.mem_of_getElem? (i := 816) (by decide +kernel)) rfl
theorem fX6_72 : Cond.fieldLink RX6 72 (TX6 30).1 (TX6 30).2.1 (TX6 30).2.2.1 ∈ gW := gW_in (List.mem_of_getElem? (i := 837) (by decide +kernel)) rfl
theorem fX6_84 : Cond.fieldLink RX6 84 (TX6 31).1 (TX6 31).2.1 (TX6 31).2.2.1 ∈ gW := gW_in (List.mem_of_getElem? (i := 838) (by decide +kernel)) rfl
theorem fX6_87 : Cond.fieldLink RX6 87 (TX6 32).1 (TX6 32).2.1 (TX6 32).2.2.1 ∈ gW := gW_in (List.mem_of_getElem? (i := 839) (by decide +kernel)) rfl
theorem fX6_90 : Cond.fieldLink RX6 90 (TX6 35).1 (TX6 35).2.1 (TX6 35).2.2.1 ∈ gW := gW_in (List.mem_of_getElem? (i := 842) (by decide +kernel)) rfl
theorem fX6_93 : Cond.fieldLink RX6 93 (TX6 33).1 (TX6 33).2.1 (TX6 33).2.2.1 ∈ gW := gW_in (List.mem_of_getElem? (i := 840) (by decide +kernel)) rfl
theorem lX6_96 : Cond.methodLink RX6 96 yX6_isSmall ∈ gW := gW_in (List.mem_of_getElem? (i := 935) (by decide +kernel)) rfl
theorem lX6_100 : Cond.methodLink RX6 100 yX6_wordAt ∈ gW := gW_in (List.mem_of_getElem? (i := 939) (by decide +kernel)) rfl
theorem fX6_104 : Cond.fieldLink RX6 104 (TX6 34).1 (TX6 34).2.1 (TX6 34).2.2.1 ∈ gW := gW_in (List.mem_of_getElem? (i := 841) (by decide +kernel)) rfl
theorem lX6_107 : Cond.methodLink RX6 107 yX6_isDigit ∈ gW := gW_in (List.mem_of_getElem? (i := 943) (by decide +kernel)) rfl
theorem lX6_111 : Cond.methodLink RX6 111 yX6_wrong ∈ gW := gW_in (List.mem_of_getElem? (i := 952) (by decide +kernel)) rfl
theorem lX6_115 : Cond.methodLink RX6 115 yX6_take ∈ gW := gW_in (List.mem_of_getElem? (i := 931) (by decide +kernel)) rfl
theorem fX6_118 : Cond.fieldLink RX6 118 (TX6 36).1 (TX6 36).2.1 (TX6 36).2.2.1 ∈ gW := gW_in (List.mem_of_getElem? (i := 843) (by decide +kernel)) rfl
theorem fX6_16 : Cond.fieldLink RX6 16 (TX6 4).1 (TX6 4).2.1 (TX6 4).2.2.1 ∈ gW := gW_in (List.mem_of_getElem? (i := 811) (by decide +kernel)) rfl
theorem lX6_121 : Cond.methodLink RX6 121 yX6_word ∈ gW := gW_in (List.mem_of_getElem? (i := 960) (by decide +kernel)) rfl
theorem lX6_124 : Cond.methodLink RX6 124 yX6_number ∈ gW := gW_in (List.mem_of_getElem? (i := 964) (by decide +kernel)) rfl
theorem fX6_13 : Cond.fieldLink RX6 13 (TX6 3).1 (TX6 3).2.1 (TX6 3).2.2.1 ∈ gW := gW_in (List.mem_of_getElem? (i := 810) (by decide +kernel)) rfl
theorem lX6_127 : Cond.methodLink RX6 127 yX6_burdenLine ∈ gW := gW_in (List.mem_of_getElem? (i := 956) (by decide +kernel)) rfl
theorem fX6_19 : Cond.fieldLink RX6 19 (TX6 5).1 (TX6 5).2.1 (TX6 5).2.2.1 ∈ gW := gW_in (List.mem_of_getElem? (i := 812) (by decide +kernel)) rfl
theorem fX6_132 : Cond.fieldLink RX6 132 (TX6 16).1 (TX6 16).2.1 (TX6 16).2.2.1 ∈ gW := gW_in (List.mem_of_getElem? (i := 823) (by decide +kernel)) rfl
theorem lX6_136 : Cond.methodLink RX6 136 yX6_line ∈ gW := gW_in (List.mem_of_getElem? (i := 948) (by decide +kernel)) rfl
theorem fX6_139 : Cond.fieldLink RX6 139 (TX6 6).1 (TX6 6).2.1 (TX6 6).2.2.1 ∈ gW := gW_in (List.mem_of_getElem? (i := 813) (by decide +kernel)) rfl
theorem fX6_22 : Cond.fieldLink RX6 22 (TX6 7).1 (TX6 7).2.1 (TX6 7).2.2.1 ∈ gW := gW_in (List.mem_of_getElem? (i := 814) (by decide +kernel)) rfl
theorem fX6_142 : Cond.fieldLink RX6 142 (TX6 10).1 (TX6 10).2.1 (TX6 10).2.2.1 ∈ gW := gW_in (List.mem_of_getElem? (i := 817) (by decide +kernel)) rfl
theorem fX6_29 : Cond.fieldLink RX6 29 (TX6 11).1 (TX6 11).2.1 (TX6 11).2.2.1 ∈ gW := gW_in (List.mem_of_getElem? (i := 818) (by decide +kernel)) rfl
theorem fX6_32 : Cond.fieldLink RX6 32 (TX6 12).1 (TX6 12).2.1 (TX6 12).2.2.1 ∈ gW := gW_in (List.mem_of_getElem? (i := 819) (by decide +kernel)) rfl
theorem lX6_145 : Cond.methodLink RX6 145 yX6_isMan ∈ gW := gW_in (List.mem_of_getElem? (i := 981) (by decide +kernel)) rfl
theorem fX6_41 : Cond.fieldLink RX6 41 (TX6 18).1 (TX6 18).2.1 (TX6 18).2.2.1 ∈ gW := gW_in (List.mem_of_getElem? (i := 825) (by decide +kernel)) rfl
theorem fX6_35 : Cond.fieldLink RX6 35 (TX6 13).1 (TX6 13).2.1 (TX6 13).2.2.1 ∈ gW := gW_in (List.mem_of_getElem? (i := 820) (by decide +kernel)) rfl
theorem lX6_148 : Cond.methodLink RX6 148 yX6_bears ∈ gW := gW_in (List.mem_of_getElem? (i := 993) (by decide +kernel)) rfl
theorem lX6_151 : Cond.methodLink RX6 151 yX6_fails ∈ gW := gW_in (List.mem_of_getElem? (i := 989) (by decide +kernel)) rfl
theorem fX6_38 : Cond.fieldLink RX6 38 (TX6 14).1 (TX6 14).2.1 (TX6 14).2.2.1 ∈ gW := gW_in (List.mem_of_getElem? (i := 821) (by decide +kernel)) rfl
theorem fX6_155 : Cond.fieldLink RX6 155 (TX6 15).1 (TX6 15).2.1 (TX6 15).2.2.1 ∈ gW := gW_in (List.mem_of_getElem? (i := 822) (by decide +kernel)) rfl
theorem lX6_158 : Cond.methodLink RX6 158 yX6_isFit ∈ gW := gW_in (List.mem_of_getElem? (i := 997) (by decide +kernel)) rfl
theorem fX6_162 : Cond.fieldLink RX6 162 (TX6 17).1 (TX6 17).2.1 (TX6 17).2.2.1 ∈ gW := gW_in (List.mem_of_getElem? (i := 824) (by decide +kernel)) rfl
theorem fX6_165 : Cond.fieldLink RX6 165 (TX6 21).1 (TX6 21).2.1 (TX6 21).2.2.1 ∈ gW := gW_in (List.mem_of_getElem? (i := 828) (by decide +kernel)) rfl
theorem lX6_168 : Cond.methodLink RX6 168 yX6_fill ∈ gW := gW_in (List.mem_of_getElem? (i := 1013) (by decide +kernel)) rfl
theorem fX6_44 : Cond.fieldLink RX6 44 (TX6 19).1 (TX6 19).2.1 (TX6 19).2.2.1 ∈ gW := gW_in (List.mem_of_getElem? (i := 826) (by decide +kernel)) rfl
theorem lX6_172 : Cond.methodLink RX6 172 yX6_pays ∈ gW := gW_in (List.mem_of_getElem? (i := 1061) (by decide +kernel)) rfl
theorem fX6_60 : Cond.fieldLink RX6 60 (TX6 26).1 (TX6 26).2.1 (TX6 26).2.2.1 ∈ gW := gW_in (List.mem_of_getElem? (i := 833) (by decide +kernel)) rfl
theorem fX6_51 : Cond.fieldLink RX6 51 (TX6 23).1 (TX6 23).2.1 (TX6 23).2.2.1 ∈ gW := gW_in (List.mem_of_getElem? (i := 830) (by decide +kernel)) rfl
theorem fX6_48 : Cond.fieldLink RX6 48 (TX6 22).1 (TX6 22).2.1 (TX6 22).2.2.1 ∈ gW := gW_in (List.mem_of_getElem? (i := 829) (by decide +kernel)) rfl
theorem fX6_66 : Cond.fieldLink RX6 66 (TX6 28).1 (TX6 28).2.1 (TX6 28).2.2.1 ∈ gW := gW_in (List.mem_of_getElem? (i := 835) (by decide +kernel)) rfl
theorem fX6_69 : Cond.fieldLink RX6 69 (TX6 29).1 (TX6 29).2.1 (TX6 29).2.2.1 ∈ gW := gW_in (List.mem_of_getElem? (i := 836) (by decide +kernel)) rfl
theorem fX6_54 : Cond.fieldLink RX6 54 (TX6 24).1 (TX6 24).2.1 (TX6 24).2.2.1 ∈ gW := gW_in (List.mem_of_getElem? (i := 831) (by decide +kernel)) rfl
theorem lX6_175 : Cond.methodLink RX6 175 yX6_goesOver ∈ gW := gW_in (List.mem_of_getElem? (i := 1029) (by decide +kernel)) rfl
theorem lX6_178 : Cond.methodLink RX6 178 yX6_over ∈ gW := gW_in (List.mem_of_getElem? (i := 1033) (by decide +kernel)) rfl
theorem lX6_182 : Cond.methodLink RX6 182 yX6_isOpen ∈ gW := gW_in (List.mem_of_getElem? (i := 1021) (by decide +kernel)) rfl
theorem fX6_63 : Cond.fieldLink RX6 63 (TX6 27).1 (TX6 27).2.1 (TX6 27).2.2.1 ∈ gW := gW_in (List.mem_of_getElem? (i := 834) (by decide +kernel)) rfl
theorem lX6_185 : Cond.methodLink RX6 185 yX6_judge ∈ gW := gW_in (List.mem_of_getElem? (i := 1025) (by decide +kernel)) rfl
theorem fX6_57 : Cond.fieldLink RX6 57 (TX6 25).1 (TX6 25).2.1 (TX6 25).2.2.1 ∈ gW := gW_in (List.mem_of_getElem? (i := 832) (by decide +kernel)) rfl
theorem lX6_188 : Cond.methodLink RX6 188 yX6_ends ∈ gW := gW_in (List.mem_of_getElem? (i := 1057) (by decide +kernel)) rfl
theorem fX6_191 : Cond.fieldLink RX6 191 (TX6 20).1 (TX6 20).2.1 (TX6 20).2.2.1 ∈ gW := gW_in (List.mem_of_getElem? (i := 827) (by decide +kernel)) rfl
theorem kX1_114 : Cond.constant RX1 114 (1000000) ∈ gW := gW_in (List.mem_of_getElem? (i := 377) (by decide +kernel)) rfl
theorem kX1_143 : Cond.constant RX1 143 (100000) ∈ gW := gW_in (List.mem_of_getElem? (i := 389) (by decide +kernel)) rfl
theorem kX5_234 : Cond.constant RX5 234 (100000) ∈ gW := gW_in (List.mem_of_getElem? (i := 429) (by decide +kernel)) rfl
theorem kX5_220 : Cond.constant RX5 220 (-2147483648) ∈ gW := gW_in (List.mem_of_getElem? (i := 671) (by decide +kernel)) rfl
theorem kX6_110 : Cond.constant RX6 110 (999999) ∈ gW := gW_in (List.mem_of_getElem? (i := 947) (by decide +kernel)) rfl
theorem kX6_131 : Cond.constant RX6 131 (100000) ∈ gW := gW_in (List.mem_of_getElem? (i := 968) (by decide +kernel)) rfl
theorem kX6_194 : Cond.constant RX6 194 (-2147483648) ∈ gW := gW_in (List.mem_of_getElem? (i := 1073) (by decide +kernel)) rfl
end
