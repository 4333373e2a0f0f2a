theorem dX1_passWord_84 : decode cX1_passWord 84 = .ok (.goto (-34), 3) := by decide +kernel
theorem dX1_passWord_87 : decode cX1_passWord 87 = .ok (.aload_n 0, 1) := by decide +kernel
theorem dX1_passWord_88 : decode cX1_passWord 88 = .ok (.iload_n 2, 1) := by decide +kernel
theorem dX1_passWord_89 : decode cX1_passWord 89 = .ok (.putfield 23, 3) := by decide +kernel
theorem dX1_passWord_92 : decode cX1_passWord 92 = .ok (.iconst 1, 1) := by decide +kernel
theorem dX1_passWord_93 : decode cX1_passWord 93 = .ok (.ireturn, 1) := by decide +kernel
theorem dX1_wordOf_0 : decode cX1_wordOf 0 = .ok (.iload_n 0, 1) := by decide +kernel
theorem dX1_wordOf_1 : decode cX1_wordOf 1 = .ok (.tableswitch 36 0 2 #[27, 30, 33], 27) := by decide +kernel
theorem dX1_wordOf_28 : decode cX1_wordOf 28 = .ok (.ldc 135, 2) := by decide +kernel
theorem dX1_wordOf_30 : decode cX1_wordOf 30 = .ok (.areturn, 1) := by decide +kernel
theorem dX1_wordOf_31 : decode cX1_wordOf 31 = .ok (.ldc 137, 2) := by decide +kernel
theorem dX1_wordOf_33 : decode cX1_wordOf 33 = .ok (.areturn, 1) := by decide +kernel
theorem dX1_wordOf_34 : decode cX1_wordOf 34 = .ok (.ldc 139, 2) := by decide +kernel
theorem dX1_wordOf_36 : decode cX1_wordOf 36 = .ok (.areturn, 1) := by decide +kernel
theorem dX1_wordOf_37 : decode cX1_wordOf 37 = .ok (.ldc 141, 2) := by decide +kernel
theorem dX1_wordOf_39 : decode cX1_wordOf 39 = .ok (.areturn, 1) := by decide +kernel
theorem dX1_mostOf_0 : decode cX1_mostOf 0 = .ok (.iload_n 0, 1) := by decide +kernel
theorem dX1_mostOf_1 : decode cX1_mostOf 1 = .ok (.lookupswitch 33 #[(0, 27), (1, 30)], 27) := by decide +kernel
theorem dX1_mostOf_28 : decode cX1_mostOf 28 = .ok (.bipush 9, 2) := by decide +kernel
theorem dX1_mostOf_30 : decode cX1_mostOf 30 = .ok (.ireturn, 1) := by decide +kernel
theorem dX1_mostOf_31 : decode cX1_mostOf 31 = .ok (.ldc 143, 2) := by decide +kernel
theorem dX1_mostOf_33 : decode cX1_mostOf 33 = .ok (.ireturn, 1) := by decide +kernel
theorem dX1_mostOf_34 : decode cX1_mostOf 34 = .ok (.bipush 60, 2) := by decide +kernel
theorem dX1_mostOf_36 : decode cX1_mostOf 36 = .ok (.ireturn, 1) := by decide +kernel
theorem dX1_isBlank_0 : decode cX1_isBlank 0 = .ok (.iload_n 0, 1) := by decide +kernel
theorem dX1_isBlank_1 : decode cX1_isBlank 1 = .ok (.bipush 10, 2) := by decide +kernel
theorem dX1_isBlank_3 : decode cX1_isBlank 3 = .ok (.if_icmp .eq 9, 3) := by decide +kernel
theorem dX1_isBlank_6 : decode cX1_isBlank 6 = .ok (.iload_n 0, 1) := by decide +kernel
theorem dX1_isBlank_7 : decode cX1_isBlank 7 = .ok (.bipush 32, 2) := by decide +kernel
theorem dX1_isBlank_9 : decode cX1_isBlank 9 = .ok (.if_icmp .ne 7, 3) := by decide +kernel
theorem dX1_isBlank_12 : decode cX1_isBlank 12 = .ok (.iconst 1, 1) := by decide +kernel
theorem dX1_isBlank_13 : decode cX1_isBlank 13 = .ok (.goto 4, 3) := by decide +kernel
theorem dX1_isBlank_16 : decode cX1_isBlank 16 = .ok (.iconst 0, 1) := by decide +kernel
theorem dX1_isBlank_17 : decode cX1_isBlank 17 = .ok (.ireturn, 1) := by decide +kernel
theorem dX1_isDigit_0 : decode cX1_isDigit 0 = .ok (.iload_n 0, 1) := by decide +kernel
theorem dX1_isDigit_1 : decode cX1_isDigit 1 = .ok (.bipush 48, 2) := by decide +kernel
theorem dX1_isDigit_3 : decode cX1_isDigit 3 = .ok (.if_icmp .lt 13, 3) := by decide +kernel
theorem dX1_isDigit_6 : decode cX1_isDigit 6 = .ok (.iload_n 0, 1) := by decide +kernel
theorem dX1_isDigit_7 : decode cX1_isDigit 7 = .ok (.bipush 57, 2) := by decide +kernel
theorem dX1_isDigit_9 : decode cX1_isDigit 9 = .ok (.if_icmp .gt 7, 3) := by decide +kernel
theorem dX1_isDigit_12 : decode cX1_isDigit 12 = .ok (.iconst 1, 1) := by decide +kernel
theorem dX1_isDigit_13 : decode cX1_isDigit 13 = .ok (.goto 4, 3) := by decide +kernel
theorem dX1_isDigit_16 : decode cX1_isDigit 16 = .ok (.iconst 0, 1) := by decide +kernel
theorem dX1_isDigit_17 : decode cX1_isDigit 17 = .ok (.ireturn, 1) := by decide +kernel
theorem dX1_isSmallLetter_0 : decode cX1_isSmallLetter 0 = .ok (.iload_n 0, 1) := by decide +kernel
theorem dX1_isSmallLetter_1 : decode cX1_isSmallLetter 1 = .ok (.bipush 97, 2) := by decide +kernel
theorem dX1_isSmallLetter_3 : decode cX1_isSmallLetter 3 = .ok (.if_icmp .lt 13, 3) := by decide +kernel
theorem dX1_isSmallLetter_6 : decode cX1_isSmallLetter 6 = .ok (.iload_n 0, 1) := by decide +kernel
theorem dX1_isSmallLetter_7 : decode cX1_isSmallLetter 7 = .ok (.bipush 122, 2) := by decide +kernel
theorem dX1_isSmallLetter_9 : decode cX1_isSmallLetter 9 = .ok (.if_icmp .gt 7, 3) := by decide +kernel
theorem dX1_isSmallLetter_12 : decode cX1_isSmallLetter 12 = .ok (.iconst 1, 1) := by decide +kernel
theorem dX1_isSmallLetter_13 : decode cX1_isSmallLetter 13 = .ok (.goto 4, 3) := by decide +kernel
theorem dX1_isSmallLetter_16 : decode cX1_isSmallLetter 16 = .ok (.iconst 0, 1) := by decide +kernel
theorem dX1_isSmallLetter_17 : decode cX1_isSmallLetter 17 = .ok (.ireturn, 1) := by decide +kernel
theorem dX2_init_0 : decode cX2_init 0 = .ok (.aload_n 0, 1) := by decide +kernel
theorem dX2_init_1 : decode cX2_init 1 = .ok (.invokespecial 3, 3) := by decide +kernel
theorem dX2_init_4 : decode cX2_init 4 = .ok (.aload_n 0, 1) := by decide +kernel
theorem dX2_init_5 : decode cX2_init 5 = .ok (.bipush 12, 2) := by decide +kernel
theorem dX2_init_7 : decode cX2_init 7 = .ok (.newarray .int, 2) := by decide +kernel
theorem dX2_init_9 : decode cX2_init 9 = .ok (.putfield 9, 3) := by decide +kernel
theorem dX2_init_12 : decode cX2_init 12 = .ok (.aload_n 0, 1) := by decide +kernel
theorem dX2_init_13 : decode cX2_init 13 = .ok (.bipush 12, 2) := by decide +kernel
theorem dX2_init_15 : decode cX2_init 15 = .ok (.newarray .int, 2) := by decide +kernel
theorem dX2_init_17 : decode cX2_init 17 = .ok (.putfield 15, 3) := by decide +kernel
theorem dX2_init_20 : decode cX2_init 20 = .ok (.aload_n 0, 1) := by decide +kernel
theorem dX2_init_21 : decode cX2_init 21 = .ok (.bipush 12, 2) := by decide +kernel
theorem dX2_init_23 : decode cX2_init 23 = .ok (.newarray .int, 2) := by decide +kernel
theorem dX2_init_25 : decode cX2_init 25 = .ok (.putfield 18, 3) := by decide +kernel
theorem dX2_init_28 : decode cX2_init 28 = .ok (.aload_n 0, 1) := by decide +kernel
theorem dX2_init_29 : decode cX2_init 29 = .ok (.bipush 12, 2) := by decide +kernel
theorem dX2_init_31 : decode cX2_init 31 = .ok (.newarray .int, 2) := by decide +kernel
theorem dX2_init_33 : decode cX2_init 33 = .ok (.putfield 21, 3) := by decide +kernel
theorem dX2_init_36 : decode cX2_init 36 = .ok (.aload_n 0, 1) := by decide +kernel
theorem dX2_init_37 : decode cX2_init 37 = .ok (.bipush 12, 2) := by decide +kernel
theorem dX2_init_39 : decode cX2_init 39 = .ok (.newarray .int, 2) := by decide +kernel
theorem dX2_init_41 : decode cX2_init 41 = .ok (.putfield 24, 3) := by decide +kernel
theorem dX2_init_44 : decode cX2_init 44 = .ok (.aload_n 0, 1) := by decide +kernel
theorem dX2_init_45 : decode cX2_init 45 = .ok (.bipush 24, 2) := by decide +kernel
theorem dX2_init_47 : decode cX2_init 47 = .ok (.newarray .int, 2) := by decide +kernel
theorem dX2_init_49 : decode cX2_init 49 = .ok (.putfield 27, 3) := by decide +kernel
theorem dX2_init_52 : decode cX2_init 52 = .ok (.aload_n 0, 1) := by decide +kernel
theorem dX2_init_53 : decode cX2_init 53 = .ok (.bipush 24, 2) := by decide +kernel
theorem dX2_init_55 : decode cX2_init 55 = .ok (.newarray .int, 2) := by decide +kernel
theorem dX2_init_57 : decode cX2_init 57 = .ok (.putfield 30, 3) := by decide +kernel
theorem dX2_init_60 : decode cX2_init 60 = .ok (.aload_n 0, 1) := by decide +kernel
theorem dX2_init_61 : decode cX2_init 61 = .ok (.iconst 0, 1) := by decide +kernel
theorem dX2_init_62 : decode cX2_init 62 = .ok (.putfield 33, 3) := by decide +kernel
theorem dX2_init_65 : decode cX2_init 65 = .ok (.iconst 0, 1) := by decide +kernel
theorem dX2_init_66 : decode cX2_init 66 = .ok (.istore_n 1, 1) := by decide +kernel
theorem dX2_init_67 : decode cX2_init 67 = .ok (.iload_n 1, 1) := by decide +kernel
theorem dX2_init_68 : decode cX2_init 68 = .ok (.aload_n 0, 1) := by decide +kernel
theorem dX2_init_69 : decode cX2_init 69 = .ok (.getfield 24, 3) := by decide +kernel
theorem dX2_init_72 : decode cX2_init 72 = .ok (.arraylength, 1) := by decide +kernel
theorem dX2_init_73 : decode cX2_init 73 = .ok (.if_icmp .ge 16, 3) := by decide +kernel
theorem dX2_init_76 : decode cX2_init 76 = .ok (.aload_n 0, 1) := by decide +kernel
theorem dX2_init_77 : decode cX2_init 77 = .ok (.getfield 24, 3) := by decide +kernel
theorem dX2_init_80 : decode cX2_init 80 = .ok (.iload_n 1, 1) := by decide +kernel
theorem dX2_init_81 : decode cX2_init 81 = .ok (.iconst (-1), 1) := by decide +kernel
theorem dX2_init_82 : decode cX2_init 82 = .ok (.iastore, 1) := by decide +kernel
theorem dX2_init_83 : decode cX2_init 83 = .ok (.iinc 1 1, 3) := by decide +kernel
theorem dX2_init_86 : decode cX2_init 86 = .ok (.goto (-19), 3) := by decide +kernel
theorem dX2_init_89 : decode cX2_init 89 = .ok (.iconst 0, 1) := by decide +kernel
theorem dX2_init_90 : decode cX2_init 90 = .ok (.istore_n 1, 1) := by decide +kernel
theorem dX2_init_91 : decode cX2_init 91 = .ok (.iload_n 1, 1) := by decide +kernel
theorem dX2_init_92 : decode cX2_init 92 = .ok (.aload_n 0, 1) := by decide +kernel
theorem dX2_init_93 : decode cX2_init 93 = .ok (.getfield 27, 3) := by decide +kernel
theorem dX2_init_96 : decode cX2_init 96 = .ok (.arraylength, 1) := by decide +kernel
theorem dX2_init_97 : decode cX2_init 97 = .ok (.if_icmp .ge 16, 3) := by decide +kernel
theorem dX2_init_100 : decode cX2_init 100 = .ok (.aload_n 0, 1) := by decide +kernel
theorem dX2_init_101 : decode cX2_init 101 = .ok (.getfield 27, 3) := by decide +kernel
theorem dX2_init_104 : decode cX2_init 104 = .ok (.iload_n 1, 1) := by decide +kernel
theorem dX2_init_105 : decode cX2_init 105 = .ok (.iconst (-1), 1) := by decide +kernel
theorem dX2_init_106 : decode cX2_init 106 = .ok (.iastore, 1) := by decide +kernel
theorem dX2_init_107 : decode cX2_init 107 = .ok (.iinc 1 1, 3) := by decide +kernel
theorem dX2_init_110 : decode cX2_init 110 = .ok (.goto (-19), 3) := by decide +kernel
theorem dX2_init_113 : decode cX2_init 113 = .ok (.return_, 1) := by decide +kernel
theorem dX2_copyFrom_0 : decode cX2_copyFrom 0 = .ok (.aload_n 0, 1) := by decide +kernel
theorem dX2_copyFrom_1 : decode cX2_copyFrom 1 = .ok (.aload_n 1, 1) := by decide +kernel
theorem dX2_copyFrom_2 : decode cX2_copyFrom 2 = .ok (.getfield 33, 3) := by decide +kernel
theorem dX2_copyFrom_5 : decode cX2_copyFrom 5 = .ok (.putfield 33, 3) := by decide +kernel
theorem dX2_copyFrom_8 : decode cX2_copyFrom 8 = .ok (.iconst 0, 1) := by decide +kernel
theorem dX2_copyFrom_9 : decode cX2_copyFrom 9 = .ok (.istore_n 2, 1) := by decide +kernel
theorem dX2_copyFrom_10 : decode cX2_copyFrom 10 = .ok (.iload_n 2, 1) := by decide +kernel
theorem dX2_copyFrom_11 : decode cX2_copyFrom 11 = .ok (.bipush 12, 2) := by decide +kernel
theorem dX2_copyFrom_13 : decode cX2_copyFrom 13 = .ok (.if_icmp .ge 69, 3) := by decide +kernel
theorem dX2_copyFrom_16 : decode cX2_copyFrom 16 = .ok (.aload_n 0, 1) := by decide +kernel
theorem dX2_copyFrom_17 : decode cX2_copyFrom 17 = .ok (.getfield 9, 3) := by decide +kernel
theorem dX2_copyFrom_20 : decode cX2_copyFrom 20 = .ok (.iload_n 2, 1) := by decide +kernel
theorem dX2_copyFrom_21 : decode cX2_copyFrom 21 = .ok (.aload_n 1, 1) := by decide +kernel
theorem dX2_copyFrom_22 : decode cX2_copyFrom 22 = .ok (.getfield 9, 3) := by decide +kernel
theorem dX2_copyFrom_25 : decode cX2_copyFrom 25 = .ok (.iload_n 2, 1) := by decide +kernel
theorem dX2_copyFrom_26 : decode cX2_copyFrom 26 = .ok (.iaload, 1) := by decide +kernel
theorem dX2_copyFrom_27 : decode cX2_copyFrom 27 = .ok (.iastore, 1) := by decide +kernel
theorem dX2_copyFrom_28 : decode cX2_copyFrom 28 = .ok (.aload_n 0, 1) := by decide +kernel
theorem dX2_copyFrom_29 : decode cX2_copyFrom 29 = .ok (.getfield 15, 3) := by decide +kernel
theorem dX2_copyFrom_32 : decode cX2_copyFrom 32 = .ok (.iload_n 2, 1) := by decide +kernel
theorem dX2_copyFrom_33 : decode cX2_copyFrom 33 = .ok (.aload_n 1, 1) := by decide +kernel
theorem dX2_copyFrom_34 : decode cX2_copyFrom 34 = .ok (.getfield 15, 3) := by decide +kernel
theorem dX2_copyFrom_37 : decode cX2_copyFrom 37 = .ok (.iload_n 2, 1) := by decide +kernel
theorem dX2_copyFrom_38 : decode cX2_copyFrom 38 = .ok (.iaload, 1) := by decide +kernel
theorem dX2_copyFrom_39 : decode cX2_copyFrom 39 = .ok (.iastore, 1) := by decide +kernel
theorem dX2_copyFrom_40 : decode cX2_copyFrom 40 = .ok (.aload_n 0, 1) := by decide +kernel
theorem dX2_copyFrom_41 : decode cX2_copyFrom 41 = .ok (.getfield 18, 3) := by decide +kernel
theorem dX2_copyFrom_44 : decode cX2_copyFrom 44 = .ok (.iload_n 2, 1) := by decide +kernel
theorem dX2_copyFrom_45 : decode cX2_copyFrom 45 = .ok (.aload_n 1, 1) := by decide +kernel
theorem dX2_copyFrom_46 : decode cX2_copyFrom 46 = .ok (.getfield 18, 3) := by decide +kernel
theorem dX2_copyFrom_49 : decode cX2_copyFrom 49 = .ok (.iload_n 2, 1) := by decide +kernel
theorem dX2_copyFrom_50 : decode cX2_copyFrom 50 = .ok (.iaload, 1) := by decide +kernel
theorem dX2_copyFrom_51 : decode cX2_copyFrom 51 = .ok (.iastore, 1) := by decide +kernel
theorem dX2_copyFrom_52 : decode cX2_copyFrom 52 = .ok (.aload_n 0, 1) := by decide +kernel
theorem dX2_copyFrom_53 : decode cX2_copyFrom 53 = .ok (.getfield 21, 3) := by decide +kernel
theorem dX2_copyFrom_56 : decode cX2_copyFrom 56 = .ok (.iload_n 2, 1) := by decide +kernel
theorem dX2_copyFrom_57 : decode cX2_copyFrom 57 = .ok (.aload_n 1, 1) := by decide +kernel
theorem dX2_copyFrom_58 : decode cX2_copyFrom 58 = .ok (.getfield 21, 3) := by decide +kernel
theorem dX2_copyFrom_61 : decode cX2_copyFrom 61 = .ok (.iload_n 2, 1) := by decide +kernel
theorem dX2_copyFrom_62 : decode cX2_copyFrom 62 = .ok (.iaload, 1) := by decide +kernel
theorem dX2_copyFrom_63 : decode cX2_copyFrom 63 = .ok (.iastore, 1) := by decide +kernel
theorem dX2_copyFrom_64 : decode cX2_copyFrom 64 = .ok (.aload_n 0, 1) := by decide +kernel
theorem dX2_copyFrom_65 : decode cX2_copyFrom 65 = .ok (.getfield 24, 3) := by decide +kernel
theorem dX2_copyFrom_68 : decode cX2_copyFrom 68 = .ok (.iload_n 2, 1) := by decide +kernel
theorem dX2_copyFrom_69 : decode cX2_copyFrom 69 = .ok (.aload_n 1, 1) := by decide +kernel
theorem dX2_copyFrom_70 : decode cX2_copyFrom 70 = .ok (.getfield 24, 3) := by decide +kernel
theorem dX2_copyFrom_73 : decode cX2_copyFrom 73 = .ok (.iload_n 2, 1) := by decide +kernel
theorem dX2_copyFrom_74 : decode cX2_copyFrom 74 = .ok (.iaload, 1) := by decide +kernel
theorem dX2_copyFrom_75 : decode cX2_copyFrom 75 = .ok (.iastore, 1) := by decide +kernel
theorem dX2_copyFrom_76 : decode cX2_copyFrom 76 = .ok (.iinc 2 1, 3) := by decide +kernel
theorem dX2_copyFrom_79 : decode cX2_copyFrom 79 = .ok (.goto (-69), 3) := by decide +kernel
theorem dX2_copyFrom_82 : decode cX2_copyFrom 82 = .ok (.iconst 0, 1) := by decide +kernel
theorem dX2_copyFrom_83 : decode cX2_copyFrom 83 = .ok (.istore_n 2, 1) := by decide +kernel
theorem dX2_copyFrom_84 : decode cX2_copyFrom 84 = .ok (.iload_n 2, 1) := by decide +kernel
theorem dX2_copyFrom_85 : decode cX2_copyFrom 85 = .ok (.bipush 24, 2) := by decide +kernel
theorem dX2_copyFrom_87 : decode cX2_copyFrom 87 = .ok (.if_icmp .ge 33, 3) := by decide +kernel
theorem dX2_copyFrom_90 : decode cX2_copyFrom 90 = .ok (.aload_n 0, 1) := by decide +kernel
theorem dX2_copyFrom_91 : decode cX2_copyFrom 91 = .ok (.getfield 27, 3) := by decide +kernel
theorem dX2_copyFrom_94 : decode cX2_copyFrom 94 = .ok (.iload_n 2, 1) := by decide +kernel
theorem dX2_copyFrom_95 : decode cX2_copyFrom 95 = .ok (.aload_n 1, 1) := by decide +kernel
theorem dX2_copyFrom_96 : decode cX2_copyFrom 96 = .ok (.getfield 27, 3) := by decide +kernel
theorem dX2_copyFrom_99 : decode cX2_copyFrom 99 = .ok (.iload_n 2, 1) := by decide +kernel
theorem dX2_copyFrom_100 : decode cX2_copyFrom 100 = .ok (.iaload, 1) := by decide +kernel
theorem dX2_copyFrom_101 : decode cX2_copyFrom 101 = .ok (.iastore, 1) := by decide +kernel
theorem dX2_copyFrom_102 : decode cX2_copyFrom 102 = .ok (.aload_n 0, 1) := by decide +kernel
theorem dX2_copyFrom_103 : decode cX2_copyFrom 103 = .ok (.getfield 30, 3) := by decide +kernel
theorem dX2_copyFrom_106 : decode cX2_copyFrom 106 = .ok (.iload_n 2, 1) := by decide +kernel
theorem dX2_copyFrom_107 : decode cX2_copyFrom 107 = .ok (.aload_n 1, 1) := by decide +kernel
theorem dX2_copyFrom_108 : decode cX2_copyFrom 108 = .ok (.getfield 30, 3) := by decide +kernel
theorem dX2_copyFrom_111 : decode cX2_copyFrom 111 = .ok (.iload_n 2, 1) := by decide +kernel
theorem dX2_copyFrom_112 : decode cX2_copyFrom 112 = .ok (.iaload, 1) := by decide +kernel
theorem dX2_copyFrom_113 : decode cX2_copyFrom 113 = .ok (.iastore, 1) := by decide +kernel
theorem dX2_copyFrom_114 : decode cX2_copyFrom 114 = .ok (.iinc 2 1, 3) := by decide +kernel
theorem dX2_copyFrom_117 : decode cX2_copyFrom 117 = .ok (.goto (-33), 3) := by decide +kernel
theorem dX2_copyFrom_120 : decode cX2_copyFrom 120 = .ok (.return_, 1) := by decide +kernel
theorem dX2_size_0 : decode cX2_size 0 = .ok (.aload_n 0, 1) := by decide +kernel
theorem dX2_size_1 : decode cX2_size 1 = .ok (.getfield 33, 3) := by decide +kernel
theorem dX2_size_4 : decode cX2_size 4 = .ok (.ireturn, 1) := by decide +kernel
theorem dX2_has_0 : decode cX2_has 0 = .ok (.iload_n 1, 1) := by decide +kernel
theorem dX2_has_1 : decode cX2_has 1 = .ok (.ifCond .lt 21, 3) := by decide +kernel
theorem dX2_has_4 : decode cX2_has 4 = .ok (.iload_n 1, 1) := by decide +kernel
theorem dX2_has_5 : decode cX2_has 5 = .ok (.aload_n 0, 1) := by decide +kernel
theorem dX2_has_6 : decode cX2_has 6 = .ok (.getfield 33, 3) := by decide +kernel
theorem dX2_has_9 : decode cX2_has 9 = .ok (.if_icmp .ge 13, 3) := by decide +kernel
theorem dX2_has_12 : decode cX2_has 12 = .ok (.iload_n 1, 1) := by decide +kernel
theorem dX2_has_13 : decode cX2_has 13 = .ok (.bipush 12, 2) := by decide +kernel
theorem dX2_has_15 : decode cX2_has 15 = .ok (.if_icmp .ge 7, 3) := by decide +kernel
theorem dX2_has_18 : decode cX2_has 18 = .ok (.iconst 1, 1) := by decide +kernel
theorem dX2_has_19 : decode cX2_has 19 = .ok (.goto 4, 3) := by decide +kernel
theorem dX2_has_22 : decode cX2_has 22 = .ok (.iconst 0, 1) := by decide +kernel
theorem dX2_has_23 : decode cX2_has 23 = .ok (.ireturn, 1) := by decide +kernel
theorem dX2_enter_0 : decode cX2_enter 0 = .ok (.aload_n 0, 1) := by decide +kernel
theorem dX2_enter_1 : decode cX2_enter 1 = .ok (.getfield 33, 3) := by decide +kernel
theorem dX2_enter_4 : decode cX2_enter 4 = .ok (.ifCond .lt 12, 3) := by decide +kernel
theorem dX2_enter_7 : decode cX2_enter 7 = .ok (.aload_n 0, 1) := by decide +kernel
theorem dX2_enter_8 : decode cX2_enter 8 = .ok (.getfield 33, 3) := by decide +kernel
theorem dX2_enter_11 : decode cX2_enter 11 = .ok (.bipush 12, 2) := by decide +kernel
theorem dX2_enter_13 : decode cX2_enter 13 = .ok (.if_icmp .lt 5, 3) := by decide +kernel
theorem dX2_enter_16 : decode cX2_enter 16 = .ok (.iconst (-1), 1) := by decide +kernel
theorem dX2_enter_17 : decode cX2_enter 17 = .ok (.ireturn, 1) := by decide +kernel
theorem dX2_enter_18 : decode cX2_enter 18 = .ok (.aload_n 0, 1) := by decide +kernel
theorem dX2_enter_19 : decode cX2_enter 19 = .ok (.getfield 33, 3) := by decide +kernel
theorem dX2_enter_22 : decode cX2_enter 22 = .ok (.istore_n 3, 1) := by decide +kernel
theorem dX2_enter_23 : decode cX2_enter 23 = .ok (.aload_n 0, 1) := by decide +kernel
theorem dX2_enter_24 : decode cX2_enter 24 = .ok (.getfield 9, 3) := by decide +kernel
theorem dX2_enter_27 : decode cX2_enter 27 = .ok (.iload_n 3, 1) := by decide +kernel
theorem dX2_enter_28 : decode cX2_enter 28 = .ok (.iload_n 1, 1) := by decide +kernel
theorem dX2_enter_29 : decode cX2_enter 29 = .ok (.iastore, 1) := by decide +kernel
theorem dX2_enter_30 : decode cX2_enter 30 = .ok (.aload_n 0, 1) := by decide +kernel
theorem dX2_enter_31 : decode cX2_enter 31 = .ok (.getfield 15, 3) := by decide +kernel
theorem dX2_enter_34 : decode cX2_enter 34 = .ok (.iload_n 3, 1) := by decide +kernel
theorem dX2_enter_35 : decode cX2_enter 35 = .ok (.iload_n 2, 1) := by decide +kernel
theorem dX2_enter_36 : decode cX2_enter 36 = .ok (.iastore, 1) := by decide +kernel
theorem dX2_enter_37 : decode cX2_enter 37 = .ok (.aload_n 0, 1) := by decide +kernel
theorem dX2_enter_38 : decode cX2_enter 38 = .ok (.dup, 1) := by decide +kernel
theorem dX2_enter_39 : decode cX2_enter 39 = .ok (.getfield 33, 3) := by decide +kernel
theorem dX2_enter_42 : decode cX2_enter 42 = .ok (.iconst 1, 1) := by decide +kernel
theorem dX2_enter_43 : decode cX2_enter 43 = .ok (.iadd, 1) := by decide +kernel
theorem dX2_enter_44 : decode cX2_enter 44 = .ok (.putfield 33, 3) := by decide +kernel
theorem dX2_enter_47 : decode cX2_enter 47 = .ok (.iload_n 3, 1) := by decide +kernel
theorem dX2_enter_48 : decode cX2_enter 48 = .ok (.ireturn, 1) := by decide +kernel
theorem dX2_declaredOf_0 : decode cX2_declaredOf 0 = .ok (.aload_n 0, 1) := by decide +kernel
theorem dX2_declaredOf_1 : decode cX2_declaredOf 1 = .ok (.iload_n 1, 1) := by decide +kernel
theorem dX2_declaredOf_2 : decode cX2_declaredOf 2 = .ok (.invokevirtual 37, 3) := by decide +kernel
theorem dX2_declaredOf_5 : decode cX2_declaredOf 5 = .ok (.ifCond .eq 12, 3) := by decide +kernel
theorem dX2_declaredOf_8 : decode cX2_declaredOf 8 = .ok (.aload_n 0, 1) := by decide +kernel
theorem dX2_declaredOf_9 : decode cX2_declaredOf 9 = .ok (.getfield 9, 3) := by decide +kernel
theorem dX2_declaredOf_12 : decode cX2_declaredOf 12 = .ok (.iload_n 1, 1) := by decide +kernel
theorem dX2_declaredOf_13 : decode cX2_declaredOf 13 = .ok (.iaload, 1) := by decide +kernel
theorem dX2_declaredOf_14 : decode cX2_declaredOf 14 = .ok (.goto 4, 3) := by decide +kernel
theorem dX2_declaredOf_17 : decode cX2_declaredOf 17 = .ok (.iconst 0, 1) := by decide +kernel
theorem dX2_declaredOf_18 : decode cX2_declaredOf 18 = .ok (.ireturn, 1) := by decide +kernel
theorem dX2_hiddenOf_0 : decode cX2_hiddenOf 0 = .ok (.aload_n 0, 1) := by decide +kernel
theorem dX2_hiddenOf_1 : decode cX2_hiddenOf 1 = .ok (.iload_n 1, 1) := by decide +kernel
theorem dX2_hiddenOf_2 : decode cX2_hiddenOf 2 = .ok (.invokevirtual 37, 3) := by decide +kernel
theorem dX2_hiddenOf_5 : decode cX2_hiddenOf 5 = .ok (.ifCond .eq 12, 3) := by decide +kernel
theorem dX2_hiddenOf_8 : decode cX2_hiddenOf 8 = .ok (.aload_n 0, 1) := by decide +kernel
theorem dX2_hiddenOf_9 : decode cX2_hiddenOf 9 = .ok (.getfield 15, 3) := by decide +kernel
theorem dX2_hiddenOf_12 : decode cX2_hiddenOf 12 = .ok (.iload_n 1, 1) := by decide +kernel
theorem dX2_hiddenOf_13 : decode cX2_hiddenOf 13 = .ok (.iaload, 1) := by decide +kernel
theorem dX2_hiddenOf_14 : decode cX2_hiddenOf 14 = .ok (.goto 4, 3) := by decide +kernel
theorem dX2_hiddenOf_17 : decode cX2_hiddenOf 17 = .ok (.iconst 0, 1) := by decide +kernel
theorem dX2_hiddenOf_18 : decode cX2_hiddenOf 18 = .ok (.ireturn, 1) := by decide +kernel
theorem dX2_worthOf_0 : decode cX2_worthOf 0 = .ok (.aload_n 0, 1) := by decide +kernel
theorem dX2_worthOf_1 : decode cX2_worthOf 1 = .ok (.iload_n 1, 1) := by decide +kernel
theorem dX2_worthOf_2 : decode cX2_worthOf 2 = .ok (.invokevirtual 41, 3) := by decide +kernel
theorem dX2_worthOf_5 : decode cX2_worthOf 5 = .ok (.aload_n 0, 1) := by decide +kernel
theorem dX2_worthOf_6 : decode cX2_worthOf 6 = .ok (.iload_n 1, 1) := by decide +kernel
theorem dX2_worthOf_7 : decode cX2_worthOf 7 = .ok (.invokevirtual 45, 3) := by decide +kernel
theorem dX2_worthOf_10 : decode cX2_worthOf 10 = .ok (.iadd, 1) := by decide +kernel
theorem dX2_worthOf_11 : decode cX2_worthOf 11 = .ok (.ireturn, 1) := by decide +kernel
theorem dX2_placeOf_0 : decode cX2_placeOf 0 = .ok (.aload_n 0, 1) := by decide +kernel
theorem dX2_placeOf_1 : decode cX2_placeOf 1 = .ok (.iload_n 1, 1) := by decide +kernel
theorem dX2_placeOf_2 : decode cX2_placeOf 2 = .ok (.invokevirtual 37, 3) := by decide +kernel
theorem dX2_placeOf_5 : decode cX2_placeOf 5 = .ok (.ifCond .eq 12, 3) := by decide +kernel
theorem dX2_placeOf_8 : decode cX2_placeOf 8 = .ok (.aload_n 0, 1) := by decide +kernel
theorem dX2_placeOf_9 : decode cX2_placeOf 9 = .ok (.getfield 24, 3) := by decide +kernel
theorem dX2_placeOf_12 : decode cX2_placeOf 12 = .ok (.iload_n 1, 1) := by decide +kernel
theorem dX2_placeOf_13 : decode cX2_placeOf 13 = .ok (.iaload, 1) := by decide +kernel
theorem dX2_placeOf_14 : decode cX2_placeOf 14 = .ok (.goto 4, 3) := by decide +kernel
theorem dX2_placeOf_17 : decode cX2_placeOf 17 = .ok (.iconst (-1), 1) := by decide +kernel
theorem dX2_placeOf_18 : decode cX2_placeOf 18 = .ok (.ireturn, 1) := by decide +kernel
theorem dX2_freeFromOf_0 : decode cX2_freeFromOf 0 = .ok (.aload_n 0, 1) := by decide +kernel
theorem dX2_freeFromOf_1 : decode cX2_freeFromOf 1 = .ok (.iload_n 1, 1) := by decide +kernel
theorem dX2_freeFromOf_2 : decode cX2_freeFromOf 2 = .ok (.invokevirtual 37, 3) := by decide +kernel
theorem dX2_freeFromOf_5 : decode cX2_freeFromOf 5 = .ok (.ifCond .eq 12, 3) := by decide +kernel
theorem dX2_freeFromOf_8 : decode cX2_freeFromOf 8 = .ok (.aload_n 0, 1) := by decide +kernel
theorem dX2_freeFromOf_9 : decode cX2_freeFromOf 9 = .ok (.getfield 18, 3) := by decide +kernel
theorem dX2_freeFromOf_12 : decode cX2_freeFromOf 12 = .ok (.iload_n 1, 1) := by decide +kernel
theorem dX2_freeFromOf_13 : decode cX2_freeFromOf 13 = .ok (.iaload, 1) := by decide +kernel
theorem dX2_freeFromOf_14 : decode cX2_freeFromOf 14 = .ok (.goto 4, 3) := by decide +kernel
theorem dX2_freeFromOf_17 : decode cX2_freeFromOf 17 = .ok (.iconst 0, 1) := by decide +kernel
theorem dX2_freeFromOf_18 : decode cX2_freeFromOf 18 = .ok (.ireturn, 1) := by decide +kernel
theorem dX2_yearsBorneOf_0 : decode cX2_yearsBorneOf 0 = .ok (.aload_n 0, 1) := by decide +kernel
theorem dX2_yearsBorneOf_1 : decode cX2_yearsBorneOf 1 = .ok (.iload_n 1, 1) := by decide +kernel
theorem dX2_yearsBorneOf_2 : decode cX2_yearsBorneOf 2 = .ok (.invokevirtual 37, 3) := by decide +kernel
theorem dX2_yearsBorneOf_5 : decode cX2_yearsBorneOf 5 = .ok (.ifCond .eq 12, 3) := by decide +kernel
theorem dX2_yearsBorneOf_8 : decode cX2_yearsBorneOf 8 = .ok (.aload_n 0, 1) := by decide +kernel
theorem dX2_yearsBorneOf_9 : decode cX2_yearsBorneOf 9 = .ok (.getfield 21, 3) := by decide +kernel
theorem dX2_yearsBorneOf_12 : decode cX2_yearsBorneOf 12 = .ok (.iload_n 1, 1) := by decide +kernel
theorem dX2_yearsBorneOf_13 : decode cX2_yearsBorneOf 13 = .ok (.iaload, 1) := by decide +kernel
theorem dX2_yearsBorneOf_14 : decode cX2_yearsBorneOf 14 = .ok (.goto 4, 3) := by decide +kernel
theorem dX2_yearsBorneOf_17 : decode cX2_yearsBorneOf 17 = .ok (.iconst 0, 1) := by decide +kernel
theorem dX2_yearsBorneOf_18 : decode cX2_yearsBorneOf 18 = .ok (.ireturn, 1) := by decide +kernel
theorem dX2_bearerAt_0 : decode cX2_bearerAt 0 = .ok (.iload_n 1, 1) := by decide +kernel
theorem dX2_bearerAt_1 : decode cX2_bearerAt 1 = .ok (.invokestatic 48, 3) := by decide +kernel
theorem dX2_bearerAt_4 : decode cX2_bearerAt 4 = .ok (.ifCond .eq 12, 3) := by decide +kernel
theorem dX2_bearerAt_7 : decode cX2_bearerAt 7 = .ok (.aload_n 0, 1) := by decide +kernel
theorem dX2_bearerAt_8 : decode cX2_bearerAt 8 = .ok (.getfield 27, 3) := by decide +kernel
theorem dX2_bearerAt_11 : decode cX2_bearerAt 11 = .ok (.iload_n 1, 1) := by decide +kernel
theorem dX2_bearerAt_12 : decode cX2_bearerAt 12 = .ok (.iaload, 1) := by decide +kernel
theorem dX2_bearerAt_13 : decode cX2_bearerAt 13 = .ok (.goto 4, 3) := by decide +kernel
theorem dX2_bearerAt_16 : decode cX2_bearerAt 16 = .ok (.iconst (-1), 1) := by decide +kernel
theorem dX2_bearerAt_17 : decode cX2_bearerAt 17 = .ok (.ireturn, 1) := by decide +kernel
theorem dX2_hasBorne_0 : decode cX2_hasBorne 0 = .ok (.aload_n 0, 1) := by decide +kernel
theorem dX2_hasBorne_1 : decode cX2_hasBorne 1 = .ok (.iload_n 1, 1) := by decide +kernel
theorem dX2_hasBorne_2 : decode cX2_hasBorne 2 = .ok (.invokevirtual 37, 3) := by decide +kernel
theorem dX2_hasBorne_5 : decode cX2_hasBorne 5 = .ok (.ifCond .eq 27, 3) := by decide +kernel
theorem dX2_hasBorne_8 : decode cX2_hasBorne 8 = .ok (.iload_n 2, 1) := by decide +kernel
theorem dX2_hasBorne_9 : decode cX2_hasBorne 9 = .ok (.invokestatic 48, 3) := by decide +kernel
theorem dX2_hasBorne_12 : decode cX2_hasBorne 12 = .ok (.ifCond .eq 20, 3) := by decide +kernel
theorem dX2_hasBorne_15 : decode cX2_hasBorne 15 = .ok (.aload_n 0, 1) := by decide +kernel
theorem dX2_hasBorne_16 : decode cX2_hasBorne 16 = .ok (.getfield 30, 3) := by decide +kernel
theorem dX2_hasBorne_19 : decode cX2_hasBorne 19 = .ok (.iload_n 2, 1) := by decide +kernel
theorem dX2_hasBorne_20 : decode cX2_hasBorne 20 = .ok (.iaload, 1) := by decide +kernel
theorem dX2_hasBorne_21 : decode cX2_hasBorne 21 = .ok (.iconst 1, 1) := by decide +kernel
theorem dX2_hasBorne_22 : decode cX2_hasBorne 22 = .ok (.iload_n 1, 1) := by decide +kernel
theorem dX2_hasBorne_23 : decode cX2_hasBorne 23 = .ok (.ishl, 1) := by decide +kernel
theorem dX2_hasBorne_24 : decode cX2_hasBorne 24 = .ok (.iand, 1) := by decide +kernel
theorem dX2_hasBorne_25 : decode cX2_hasBorne 25 = .ok (.ifCond .eq 7, 3) := by decide +kernel
theorem dX2_hasBorne_28 : decode cX2_hasBorne 28 = .ok (.iconst 1, 1) := by decide +kernel
theorem dX2_hasBorne_29 : decode cX2_hasBorne 29 = .ok (.goto 4, 3) := by decide +kernel
theorem dX2_hasBorne_32 : decode cX2_hasBorne 32 = .ok (.iconst 0, 1) := by decide +kernel
theorem dX2_hasBorne_33 : decode cX2_hasBorne 33 = .ok (.ireturn, 1) := by decide +kernel
theorem dX2_uncover_0 : decode cX2_uncover 0 = .ok (.aload_n 0, 1) := by decide +kernel
theorem dX2_uncover_1 : decode cX2_uncover 1 = .ok (.iload_n 1, 1) := by decide +kernel
theorem dX2_uncover_2 : decode cX2_uncover 2 = .ok (.invokevirtual 37, 3) := by decide +kernel
theorem dX2_uncover_5 : decode cX2_uncover 5 = .ok (.ifCond .eq 23, 3) := by decide +kernel
theorem dX2_uncover_8 : decode cX2_uncover 8 = .ok (.aload_n 0, 1) := by decide +kernel
theorem dX2_uncover_9 : decode cX2_uncover 9 = .ok (.getfield 15, 3) := by decide +kernel
theorem dX2_uncover_12 : decode cX2_uncover 12 = .ok (.iload_n 1, 1) := by decide +kernel
theorem dX2_uncover_13 : decode cX2_uncover 13 = .ok (.dup2, 1) := by decide +kernel
theorem dX2_uncover_14 : decode cX2_uncover 14 = .ok (.iaload, 1) := by decide +kernel
theorem dX2_uncover_15 : decode cX2_uncover 15 = .ok (.iload_n 2, 1) := by decide +kernel
theorem dX2_uncover_16 : decode cX2_uncover 16 = .ok (.isub, 1) := by decide +kernel
theorem dX2_uncover_17 : decode cX2_uncover 17 = .ok (.iastore, 1) := by decide +kernel
theorem dX2_uncover_18 : decode cX2_uncover 18 = .ok (.aload_n 0, 1) := by decide +kernel
theorem dX2_uncover_19 : decode cX2_uncover 19 = .ok (.getfield 9, 3) := by decide +kernel
theorem dX2_uncover_22 : decode cX2_uncover 22 = .ok (.iload_n 1, 1) := by decide +kernel
theorem dX2_uncover_23 : decode cX2_uncover 23 = .ok (.dup2, 1) := by decide +kernel
theorem dX2_uncover_24 : decode cX2_uncover 24 = .ok (.iaload, 1) := by decide +kernel
theorem dX2_uncover_25 : decode cX2_uncover 25 = .ok (.iload_n 2, 1) := by decide +kernel
theorem dX2_uncover_26 : decode cX2_uncover 26 = .ok (.iadd, 1) := by decide +kernel
theorem dX2_uncover_27 : decode cX2_uncover 27 = .ok (.iastore, 1) := by decide +kernel
theorem dX2_uncover_28 : decode cX2_uncover 28 = .ok (.return_, 1) := by decide +kernel
theorem dX2_exchangeEstates_0 : decode cX2_exchangeEstates 0 = .ok (.aload_n 0, 1) := by decide +kernel
theorem dX2_exchangeEstates_1 : decode cX2_exchangeEstates 1 = .ok (.iload_n 1, 1) := by decide +kernel
theorem dX2_exchangeEstates_2 : decode cX2_exchangeEstates 2 = .ok (.invokevirtual 37, 3) := by decide +kernel
theorem dX2_exchangeEstates_5 : decode cX2_exchangeEstates 5 = .ok (.ifCond .eq 65, 3) := by decide +kernel
theorem dX2_exchangeEstates_8 : decode cX2_exchangeEstates 8 = .ok (.aload_n 0, 1) := by decide +kernel
theorem dX2_exchangeEstates_9 : decode cX2_exchangeEstates 9 = .ok (.iload_n 2, 1) := by decide +kernel
theorem dX2_exchangeEstates_10 : decode cX2_exchangeEstates 10 = .ok (.invokevirtual 37, 3) := by decide +kernel
theorem dX2_exchangeEstates_13 : decode cX2_exchangeEstates 13 = .ok (.ifCond .eq 57, 3) := by decide +kernel
theorem dX2_exchangeEstates_16 : decode cX2_exchangeEstates 16 = .ok (.aload_n 0, 1) := by decide +kernel
theorem dX2_exchangeEstates_17 : decode cX2_exchangeEstates 17 = .ok (.getfield 9, 3) := by decide +kernel
theorem dX2_exchangeEstates_20 : decode cX2_exchangeEstates 20 = .ok (.iload_n 1, 1) := by decide +kernel
theorem dX2_exchangeEstates_21 : decode cX2_exchangeEstates 21 = .ok (.iaload, 1) := by decide +kernel
theorem dX2_exchangeEstates_22 : decode cX2_exchangeEstates 22 = .ok (.istore_n 3, 1) := by decide +kernel
theorem dX2_exchangeEstates_23 : decode cX2_exchangeEstates 23 = .ok (.aload_n 0, 1) := by decide +kernel
theorem dX2_exchangeEstates_24 : decode cX2_exchangeEstates 24 = .ok (.getfield 15, 3) := by decide +kernel
theorem dX2_exchangeEstates_27 : decode cX2_exchangeEstates 27 = .ok (.iload_n 1, 1) := by decide +kernel
theorem dX2_exchangeEstates_28 : decode cX2_exchangeEstates 28 = .ok (.iaload, 1) := by decide +kernel
theorem dX2_exchangeEstates_29 : decode cX2_exchangeEstates 29 = .ok (.istore 4, 2) := by decide +kernel
theorem dX2_exchangeEstates_31 : decode cX2_exchangeEstates 31 = .ok (.aload_n 0, 1) := by decide +kernel
theorem dX2_exchangeEstates_32 : decode cX2_exchangeEstates 32 = .ok (.getfield 9, 3) := by decide +kernel
theorem dX2_exchangeEstates_35 : decode cX2_exchangeEstates 35 = .ok (.iload_n 1, 1) := by decide +kernel
theorem dX2_exchangeEstates_36 : decode cX2_exchangeEstates 36 = .ok (.aload_n 0, 1) := by decide +kernel
theorem dX2_exchangeEstates_37 : decode cX2_exchangeEstates 37 = .ok (.getfield 9, 3) := by decide +kernel
theorem dX2_exchangeEstates_40 : decode cX2_exchangeEstates 40 = .ok (.iload_n 2, 1) := by decide +kernel
theorem dX2_exchangeEstates_41 : decode cX2_exchangeEstates 41 = .ok (.iaload, 1) := by decide +kernel
theorem dX2_exchangeEstates_42 : decode cX2_exchangeEstates 42 = .ok (.iastore, 1) := by decide +kernel
theorem dX2_exchangeEstates_43 : decode cX2_exchangeEstates 43 = .ok (.aload_n 0, 1) := by decide +kernel
theorem dX2_exchangeEstates_44 : decode cX2_exchangeEstates 44 = .ok (.getfield 15, 3) := by decide +kernel
theorem dX2_exchangeEstates_47 : decode cX2_exchangeEstates 47 = .ok (.iload_n 1, 1) := by decide +kernel
theorem dX2_exchangeEstates_48 : decode cX2_exchangeEstates 48 = .ok (.aload_n 0, 1) := by decide +kernel
theorem dX2_exchangeEstates_49 : decode cX2_exchangeEstates 49 = .ok (.getfield 15, 3) := by decide +kernel
theorem dX2_exchangeEstates_52 : decode cX2_exchangeEstates 52 = .ok (.iload_n 2, 1) := by decide +kernel
theorem dX2_exchangeEstates_53 : decode cX2_exchangeEstates 53 = .ok (.iaload, 1) := by decide +kernel
theorem dX2_exchangeEstates_54 : decode cX2_exchangeEstates 54 = .ok (.iastore, 1) := by decide +kernel
theorem dX2_exchangeEstates_55 : decode cX2_exchangeEstates 55 = .ok (.aload_n 0, 1) := by decide +kernel
theorem dX2_exchangeEstates_56 : decode cX2_exchangeEstates 56 = .ok (.getfield 9, 3) := by decide +kernel
theorem dX2_exchangeEstates_59 : decode cX2_exchangeEstates 59 = .ok (.iload_n 2, 1) := by decide +kernel
theorem dX2_exchangeEstates_60 : decode cX2_exchangeEstates 60 = .ok (.iload_n 3, 1) := by decide +kernel
theorem dX2_exchangeEstates_61 : decode cX2_exchangeEstates 61 = .ok (.iastore, 1) := by decide +kernel
theorem dX2_exchangeEstates_62 : decode cX2_exchangeEstates 62 = .ok (.aload_n 0, 1) := by decide +kernel
theorem dX2_exchangeEstates_63 : decode cX2_exchangeEstates 63 = .ok (.getfield 15, 3) := by decide +kernel
theorem dX2_exchangeEstates_66 : decode cX2_exchangeEstates 66 = .ok (.iload_n 2, 1) := by decide +kernel
theorem dX2_exchangeEstates_67 : decode cX2_exchangeEstates 67 = .ok (.iload 4, 2) := by decide +kernel
theorem dX2_exchangeEstates_69 : decode cX2_exchangeEstates 69 = .ok (.iastore, 1) := by decide +kernel
theorem dX2_exchangeEstates_70 : decode cX2_exchangeEstates 70 = .ok (.return_, 1) := by decide +kernel
theorem dX2_manOfRank_0 : decode cX2_manOfRank 0 = .ok (.iconst 0, 1) := by decide +kernel
theorem dX2_manOfRank_1 : decode cX2_manOfRank 1 = .ok (.istore_n 2, 1) := by decide +kernel
theorem dX2_manOfRank_2 : decode cX2_manOfRank 2 = .ok (.iload_n 2, 1) := by decide +kernel
theorem dX2_manOfRank_3 : decode cX2_manOfRank 3 = .ok (.aload_n 0, 1) := by decide +kernel
theorem dX2_manOfRank_4 : decode cX2_manOfRank 4 = .ok (.getfield 33, 3) := by decide +kernel
theorem dX2_manOfRank_7 : decode cX2_manOfRank 7 = .ok (.if_icmp .ge 20, 3) := by decide +kernel
theorem dX2_manOfRank_10 : decode cX2_manOfRank 10 = .ok (.aload_n 0, 1) := by decide +kernel
theorem dX2_manOfRank_11 : decode cX2_manOfRank 11 = .ok (.iload_n 2, 1) := by decide +kernel
theorem dX2_manOfRank_12 : decode cX2_manOfRank 12 = .ok (.invokevirtual 51, 3) := by decide +kernel
theorem dX2_manOfRank_15 : decode cX2_manOfRank 15 = .ok (.iload_n 1, 1) := by decide +kernel
theorem dX2_manOfRank_16 : decode cX2_manOfRank 16 = .ok (.if_icmp .ne 5, 3) := by decide +kernel
theorem dX2_manOfRank_19 : decode cX2_manOfRank 19 = .ok (.iload_n 2, 1) := by decide +kernel
theorem dX2_manOfRank_20 : decode cX2_manOfRank 20 = .ok (.ireturn, 1) := by decide +kernel
theorem dX2_manOfRank_21 : decode cX2_manOfRank 21 = .ok (.iinc 2 1, 3) := by decide +kernel
theorem dX2_manOfRank_24 : decode cX2_manOfRank 24 = .ok (.goto (-22), 3) := by decide +kernel
theorem dX2_manOfRank_27 : decode cX2_manOfRank 27 = .ok (.iconst (-1), 1) := by decide +kernel
theorem dX2_manOfRank_28 : decode cX2_manOfRank 28 = .ok (.ireturn, 1) := by decide +kernel
theorem dX2_rankOf_0 : decode cX2_rankOf 0 = .ok (.iconst 0, 1) := by decide +kernel
theorem dX2_rankOf_1 : decode cX2_rankOf 1 = .ok (.istore_n 2, 1) := by decide +kernel
theorem dX2_rankOf_2 : decode cX2_rankOf 2 = .ok (.iconst 0, 1) := by decide +kernel
theorem dX2_rankOf_3 : decode cX2_rankOf 3 = .ok (.istore_n 3, 1) := by decide +kernel
theorem dX2_rankOf_4 : decode cX2_rankOf 4 = .ok (.iload_n 3, 1) := by decide +kernel
theorem dX2_rankOf_5 : decode cX2_rankOf 5 = .ok (.aload_n 0, 1) := by decide +kernel
theorem dX2_rankOf_6 : decode cX2_rankOf 6 = .ok (.getfield 33, 3) := by decide +kernel
theorem dX2_rankOf_9 : decode cX2_rankOf 9 = .ok (.if_icmp .ge 40, 3) := by decide +kernel
theorem dX2_rankOf_12 : decode cX2_rankOf 12 = .ok (.aload_n 0, 1) := by decide +kernel
theorem dX2_rankOf_13 : decode cX2_rankOf 13 = .ok (.iload_n 3, 1) := by decide +kernel
theorem dX2_rankOf_14 : decode cX2_rankOf 14 = .ok (.invokevirtual 41, 3) := by decide +kernel
theorem dX2_rankOf_17 : decode cX2_rankOf 17 = .ok (.aload_n 0, 1) := by decide +kernel
theorem dX2_rankOf_18 : decode cX2_rankOf 18 = .ok (.iload_n 1, 1) := by decide +kernel
theorem dX2_rankOf_19 : decode cX2_rankOf 19 = .ok (.invokevirtual 41, 3) := by decide +kernel
theorem dX2_rankOf_22 : decode cX2_rankOf 22 = .ok (.isub, 1) := by decide +kernel
theorem dX2_rankOf_23 : decode cX2_rankOf 23 = .ok (.istore 4, 2) := by decide +kernel
theorem dX2_rankOf_25 : decode cX2_rankOf 25 = .ok (.iload 4, 2) := by decide +kernel
theorem dX2_rankOf_27 : decode cX2_rankOf 27 = .ok (.ifCond .gt 13, 3) := by decide +kernel
theorem dX2_rankOf_30 : decode cX2_rankOf 30 = .ok (.iload 4, 2) := by decide +kernel
theorem dX2_rankOf_32 : decode cX2_rankOf 32 = .ok (.ifCond .ne 11, 3) := by decide +kernel
theorem dX2_rankOf_35 : decode cX2_rankOf 35 = .ok (.iload_n 3, 1) := by decide +kernel
theorem dX2_rankOf_36 : decode cX2_rankOf 36 = .ok (.iload_n 1, 1) := by decide +kernel
theorem dX2_rankOf_37 : decode cX2_rankOf 37 = .ok (.if_icmp .ge 6, 3) := by decide +kernel
theorem dX2_rankOf_40 : decode cX2_rankOf 40 = .ok (.iinc 2 1, 3) := by decide +kernel
theorem dX2_rankOf_43 : decode cX2_rankOf 43 = .ok (.iinc 3 1, 3) := by decide +kernel
theorem dX2_rankOf_46 : decode cX2_rankOf 46 = .ok (.goto (-42), 3) := by decide +kernel
theorem dX2_rankOf_49 : decode cX2_rankOf 49 = .ok (.iload_n 2, 1) := by decide +kernel
theorem dX2_rankOf_50 : decode cX2_rankOf 50 = .ok (.ireturn, 1) := by decide +kernel
theorem dX2_isFit_0 : decode cX2_isFit 0 = .ok (.aload_n 0, 1) := by decide +kernel
theorem dX2_isFit_1 : decode cX2_isFit 1 = .ok (.iload_n 1, 1) := by decide +kernel
theorem dX2_isFit_2 : decode cX2_isFit 2 = .ok (.invokevirtual 37, 3) := by decide +kernel
theorem dX2_isFit_5 : decode cX2_isFit 5 = .ok (.ifCond .eq 41, 3) := by decide +kernel
theorem dX2_isFit_8 : decode cX2_isFit 8 = .ok (.aload_n 0, 1) := by decide +kernel
theorem dX2_isFit_9 : decode cX2_isFit 9 = .ok (.getfield 9, 3) := by decide +kernel
theorem dX2_isFit_12 : decode cX2_isFit 12 = .ok (.iload_n 1, 1) := by decide +kernel
theorem dX2_isFit_13 : decode cX2_isFit 13 = .ok (.iaload, 1) := by decide +kernel
theorem dX2_isFit_14 : decode cX2_isFit 14 = .ok (.aload_n 2, 1) := by decide +kernel
theorem dX2_isFit_15 : decode cX2_isFit 15 = .ok (.iconst 1, 1) := by decide +kernel
theorem dX2_isFit_16 : decode cX2_isFit 16 = .ok (.invokevirtual 54, 3) := by decide +kernel
theorem dX2_isFit_19 : decode cX2_isFit 19 = .ok (.if_icmp .lt 27, 3) := by decide +kernel
theorem dX2_isFit_22 : decode cX2_isFit 22 = .ok (.aload_n 0, 1) := by decide +kernel
theorem dX2_isFit_23 : decode cX2_isFit 23 = .ok (.getfield 18, 3) := by decide +kernel
theorem dX2_isFit_26 : decode cX2_isFit 26 = .ok (.iload_n 1, 1) := by decide +kernel
theorem dX2_isFit_27 : decode cX2_isFit 27 = .ok (.iaload, 1) := by decide +kernel
theorem dX2_isFit_28 : decode cX2_isFit 28 = .ok (.iload_n 3, 1) := by decide +kernel
theorem dX2_isFit_29 : decode cX2_isFit 29 = .ok (.if_icmp .gt 17, 3) := by decide +kernel
theorem dX2_isFit_32 : decode cX2_isFit 32 = .ok (.aload_n 0, 1) := by decide +kernel
theorem dX2_isFit_33 : decode cX2_isFit 33 = .ok (.getfield 24, 3) := by decide +kernel
theorem dX2_isFit_36 : decode cX2_isFit 36 = .ok (.iload_n 1, 1) := by decide +kernel
theorem dX2_isFit_37 : decode cX2_isFit 37 = .ok (.iaload, 1) := by decide +kernel
theorem dX2_isFit_38 : decode cX2_isFit 38 = .ok (.iconst (-1), 1) := by decide +kernel
theorem dX2_isFit_39 : decode cX2_isFit 39 = .ok (.if_icmp .ne 7, 3) := by decide +kernel
theorem dX2_isFit_42 : decode cX2_isFit 42 = .ok (.iconst 1, 1) := by decide +kernel
theorem dX2_isFit_43 : decode cX2_isFit 43 = .ok (.goto 4, 3) := by decide +kernel
theorem dX2_isFit_46 : decode cX2_isFit 46 = .ok (.iconst 0, 1) := by decide +kernel
theorem dX2_isFit_47 : decode cX2_isFit 47 = .ok (.ireturn, 1) := by decide +kernel
theorem dX2_fillPlaces_0 : decode cX2_fillPlaces 0 = .ok (.iconst 0, 1) := by decide +kernel
theorem dX2_fillPlaces_1 : decode cX2_fillPlaces 1 = .ok (.istore_n 3, 1) := by decide +kernel
theorem dX2_fillPlaces_2 : decode cX2_fillPlaces 2 = .ok (.iconst 0, 1) := by decide +kernel
theorem dX2_fillPlaces_3 : decode cX2_fillPlaces 3 = .ok (.istore 4, 2) := by decide +kernel
theorem dX2_fillPlaces_5 : decode cX2_fillPlaces 5 = .ok (.iload 4, 2) := by decide +kernel
theorem dX2_fillPlaces_7 : decode cX2_fillPlaces 7 = .ok (.aload_n 1, 1) := by decide +kernel
theorem dX2_fillPlaces_8 : decode cX2_fillPlaces 8 = .ok (.invokevirtual 59, 3) := by decide +kernel
theorem dX2_fillPlaces_11 : decode cX2_fillPlaces 11 = .ok (.if_icmp .ge 55, 3) := by decide +kernel
theorem dX2_fillPlaces_14 : decode cX2_fillPlaces 14 = .ok (.iload 4, 2) := by decide +kernel
theorem dX2_fillPlaces_16 : decode cX2_fillPlaces 16 = .ok (.aload_n 0, 1) := by decide +kernel
theorem dX2_fillPlaces_17 : decode cX2_fillPlaces 17 = .ok (.getfield 30, 3) := by decide +kernel
theorem dX2_fillPlaces_20 : decode cX2_fillPlaces 20 = .ok (.arraylength, 1) := by decide +kernel
theorem dX2_fillPlaces_21 : decode cX2_fillPlaces 21 = .ok (.if_icmp .ge 45, 3) := by decide +kernel
theorem dX2_fillPlaces_24 : decode cX2_fillPlaces 24 = .ok (.aload_n 0, 1) := by decide +kernel
theorem dX2_fillPlaces_25 : decode cX2_fillPlaces 25 = .ok (.getfield 30, 3) := by decide +kernel
theorem dX2_fillPlaces_28 : decode cX2_fillPlaces 28 = .ok (.iload 4, 2) := by decide +kernel
theorem dX2_fillPlaces_30 : decode cX2_fillPlaces 30 = .ok (.iconst 0, 1) := by decide +kernel
theorem dX2_fillPlaces_31 : decode cX2_fillPlaces 31 = .ok (.iastore, 1) := by decide +kernel
theorem dX2_fillPlaces_32 : decode cX2_fillPlaces 32 = .ok (.aload_n 0, 1) := by decide +kernel
theorem dX2_fillPlaces_33 : decode cX2_fillPlaces 33 = .ok (.aload_n 1, 1) := by decide +kernel
theorem dX2_fillPlaces_34 : decode cX2_fillPlaces 34 = .ok (.iload_n 2, 1) := by decide +kernel
theorem dX2_fillPlaces_35 : decode cX2_fillPlaces 35 = .ok (.invokevirtual 63, 3) := by decide +kernel
theorem dX2_fillPlaces_38 : decode cX2_fillPlaces 38 = .ok (.istore 5, 2) := by decide +kernel
theorem dX2_fillPlaces_40 : decode cX2_fillPlaces 40 = .ok (.iload 5, 2) := by decide +kernel
theorem dX2_fillPlaces_42 : decode cX2_fillPlaces 42 = .ok (.iconst (-1), 1) := by decide +kernel
theorem dX2_fillPlaces_43 : decode cX2_fillPlaces 43 = .ok (.if_icmp .ne 9, 3) := by decide +kernel
theorem dX2_fillPlaces_46 : decode cX2_fillPlaces 46 = .ok (.iinc 3 1, 3) := by decide +kernel
theorem dX2_fillPlaces_49 : decode cX2_fillPlaces 49 = .ok (.goto 11, 3) := by decide +kernel
theorem dX2_fillPlaces_52 : decode cX2_fillPlaces 52 = .ok (.aload_n 0, 1) := by decide +kernel
theorem dX2_fillPlaces_53 : decode cX2_fillPlaces 53 = .ok (.iload 5, 2) := by decide +kernel
theorem dX2_fillPlaces_55 : decode cX2_fillPlaces 55 = .ok (.iload 4, 2) := by decide +kernel
theorem dX2_fillPlaces_57 : decode cX2_fillPlaces 57 = .ok (.invokevirtual 67, 3) := by decide +kernel
theorem dX2_fillPlaces_60 : decode cX2_fillPlaces 60 = .ok (.iinc 4 1, 3) := by decide +kernel
theorem dX2_fillPlaces_63 : decode cX2_fillPlaces 63 = .ok (.goto (-58), 3) := by decide +kernel
theorem dX2_fillPlaces_66 : decode cX2_fillPlaces 66 = .ok (.iload_n 3, 1) := by decide +kernel
theorem dX2_fillPlaces_67 : decode cX2_fillPlaces 67 = .ok (.ireturn, 1) := by decide +kernel
theorem dX2_richestFit_0 : decode cX2_richestFit 0 = .ok (.iconst (-1), 1) := by decide +kernel
theorem dX2_richestFit_1 : decode cX2_richestFit 1 = .ok (.istore_n 3, 1) := by decide +kernel
theorem dX2_richestFit_2 : decode cX2_richestFit 2 = .ok (.iconst 0, 1) := by decide +kernel
theorem dX2_richestFit_3 : decode cX2_richestFit 3 = .ok (.istore 4, 2) := by decide +kernel
theorem dX2_richestFit_5 : decode cX2_richestFit 5 = .ok (.iload 4, 2) := by decide +kernel
theorem dX2_richestFit_7 : decode cX2_richestFit 7 = .ok (.aload_n 0, 1) := by decide +kernel
theorem dX2_richestFit_8 : decode cX2_richestFit 8 = .ok (.getfield 33, 3) := by decide +kernel
theorem dX2_richestFit_11 : decode cX2_richestFit 11 = .ok (.if_icmp .ge 42, 3) := by decide +kernel
theorem dX2_richestFit_14 : decode cX2_richestFit 14 = .ok (.aload_n 0, 1) := by decide +kernel
theorem dX2_richestFit_15 : decode cX2_richestFit 15 = .ok (.iload 4, 2) := by decide +kernel
theorem dX2_richestFit_17 : decode cX2_richestFit 17 = .ok (.aload_n 1, 1) := by decide +kernel
theorem dX2_richestFit_18 : decode cX2_richestFit 18 = .ok (.iload_n 2, 1) := by decide +kernel
theorem dX2_richestFit_19 : decode cX2_richestFit 19 = .ok (.invokevirtual 71, 3) := by decide +kernel
theorem dX2_richestFit_22 : decode cX2_richestFit 22 = .ok (.ifCond .eq 25, 3) := by decide +kernel
theorem dX2_richestFit_25 : decode cX2_richestFit 25 = .ok (.iload_n 3, 1) := by decide +kernel
theorem dX2_richestFit_26 : decode cX2_richestFit 26 = .ok (.iconst (-1), 1) := by decide +kernel
theorem dX2_richestFit_27 : decode cX2_richestFit 27 = .ok (.if_icmp .eq 17, 3) := by decide +kernel
theorem dX2_richestFit_30 : decode cX2_richestFit 30 = .ok (.aload_n 0, 1) := by decide +kernel
theorem dX2_richestFit_31 : decode cX2_richestFit 31 = .ok (.iload 4, 2) := by decide +kernel
theorem dX2_richestFit_33 : decode cX2_richestFit 33 = .ok (.invokevirtual 41, 3) := by decide +kernel
theorem dX2_richestFit_36 : decode cX2_richestFit 36 = .ok (.aload_n 0, 1) := by decide +kernel
theorem dX2_richestFit_37 : decode cX2_richestFit 37 = .ok (.iload_n 3, 1) := by decide +kernel
theorem dX2_richestFit_38 : decode cX2_richestFit 38 = .ok (.invokevirtual 41, 3) := by decide +kernel
theorem dX2_richestFit_41 : decode cX2_richestFit 41 = .ok (.if_icmp .le 6, 3) := by decide +kernel
theorem dX2_richestFit_44 : decode cX2_richestFit 44 = .ok (.iload 4, 2) := by decide +kernel
theorem dX2_richestFit_46 : decode cX2_richestFit 46 = .ok (.istore_n 3, 1) := by decide +kernel
theorem dX2_richestFit_47 : decode cX2_richestFit 47 = .ok (.iinc 4 1, 3) := by decide +kernel
theorem dX2_richestFit_50 : decode cX2_richestFit 50 = .ok (.goto (-45), 3) := by decide +kernel
theorem dX2_richestFit_53 : decode cX2_richestFit 53 = .ok (.iload_n 3, 1) := by decide +kernel
theorem dX2_richestFit_54 : decode cX2_richestFit 54 = .ok (.ireturn, 1) := by decide +kernel
theorem dX2_handOver_0 : decode cX2_handOver 0 = .ok (.aload_n 0, 1) := by decide +kernel
theorem dX2_handOver_1 : decode cX2_handOver 1 = .ok (.iload_n 2, 1) := by decide +kernel
theorem dX2_handOver_2 : decode cX2_handOver 2 = .ok (.invokevirtual 37, 3) := by decide +kernel
theorem dX2_handOver_5 : decode cX2_handOver 5 = .ok (.ifCond .eq 10, 3) := by decide +kernel
theorem dX2_handOver_8 : decode cX2_handOver 8 = .ok (.aload_n 0, 1) := by decide +kernel
theorem dX2_handOver_9 : decode cX2_handOver 9 = .ok (.getfield 24, 3) := by decide +kernel
theorem dX2_handOver_12 : decode cX2_handOver 12 = .ok (.iload_n 2, 1) := by decide +kernel
theorem dX2_handOver_13 : decode cX2_handOver 13 = .ok (.iconst (-1), 1) := by decide +kernel
theorem dX2_handOver_14 : decode cX2_handOver 14 = .ok (.iastore, 1) := by decide +kernel
theorem dX2_handOver_15 : decode cX2_handOver 15 = .ok (.aload_n 0, 1) := by decide +kernel
theorem dX2_handOver_16 : decode cX2_handOver 16 = .ok (.iload_n 3, 1) := by decide +kernel
theorem dX2_handOver_17 : decode cX2_handOver 17 = .ok (.iload_n 1, 1) := by decide +kernel
theorem dX2_handOver_18 : decode cX2_handOver 18 = .ok (.invokevirtual 67, 3) := by decide +kernel
theorem dX2_handOver_21 : decode cX2_handOver 21 = .ok (.return_, 1) := by decide +kernel
theorem dX2_layOn_0 : decode cX2_layOn 0 = .ok (.aload_n 0, 1) := by decide +kernel
theorem dX2_layOn_1 : decode cX2_layOn 1 = .ok (.iload_n 1, 1) := by decide +kernel
theorem dX2_layOn_2 : decode cX2_layOn 2 = .ok (.invokevirtual 37, 3) := by decide +kernel
theorem dX2_layOn_5 : decode cX2_layOn 5 = .ok (.ifCond .eq 36, 3) := by decide +kernel
theorem dX2_layOn_8 : decode cX2_layOn 8 = .ok (.iload_n 2, 1) := by decide +kernel
theorem dX2_layOn_9 : decode cX2_layOn 9 = .ok (.invokestatic 48, 3) := by decide +kernel
theorem dX2_layOn_12 : decode cX2_layOn 12 = .ok (.ifCond .eq 29, 3) := by decide +kernel
theorem dX2_layOn_15 : decode cX2_layOn 15 = .ok (.aload_n 0, 1) := by decide +kernel
theorem dX2_layOn_16 : decode cX2_layOn 16 = .ok (.getfield 24, 3) := by decide +kernel
theorem dX2_layOn_19 : decode cX2_layOn 19 = .ok (.iload_n 1, 1) := by decide +kernel
theorem dX2_layOn_20 : decode cX2_layOn 20 = .ok (.iload_n 2, 1) := by decide +kernel
theorem dX2_layOn_21 : decode cX2_layOn 21 = .ok (.iastore, 1) := by decide +kernel
theorem dX2_layOn_22 : decode cX2_layOn 22 = .ok (.aload_n 0, 1) := by decide +kernel
theorem dX2_layOn_23 : decode cX2_layOn 23 = .ok (.getfield 27, 3) := by decide +kernel
theorem dX2_layOn_26 : decode cX2_layOn 26 = .ok (.iload_n 2, 1) := by decide +kernel
theorem dX2_layOn_27 : decode cX2_layOn 27 = .ok (.iload_n 1, 1) := by decide +kernel
theorem dX2_layOn_28 : decode cX2_layOn 28 = .ok (.iastore, 1) := by decide +kernel
theorem dX2_layOn_29 : decode cX2_layOn 29 = .ok (.aload_n 0, 1) := by decide +kernel
theorem dX2_layOn_30 : decode cX2_layOn 30 = .ok (.getfield 30, 3) := by decide +kernel
theorem dX2_layOn_33 : decode cX2_layOn 33 = .ok (.iload_n 2, 1) := by decide +kernel
theorem dX2_layOn_34 : decode cX2_layOn 34 = .ok (.dup2, 1) := by decide +kernel
theorem dX2_layOn_35 : decode cX2_layOn 35 = .ok (.iaload, 1) := by decide +kernel
theorem dX2_layOn_36 : decode cX2_layOn 36 = .ok (.iconst 1, 1) := by decide +kernel
theorem dX2_layOn_37 : decode cX2_layOn 37 = .ok (.iload_n 1, 1) := by decide +kernel
theorem dX2_layOn_38 : decode cX2_layOn 38 = .ok (.ishl, 1) := by decide +kernel
theorem dX2_layOn_39 : decode cX2_layOn 39 = .ok (.ior, 1) := by decide +kernel
theorem dX2_layOn_40 : decode cX2_layOn 40 = .ok (.iastore, 1) := by decide +kernel
theorem dX2_layOn_41 : decode cX2_layOn 41 = .ok (.return_, 1) := by decide +kernel
theorem dX2_partAt_0 : decode cX2_partAt 0 = .ok (.aload_n 1, 1) := by decide +kernel
theorem dX2_partAt_1 : decode cX2_partAt 1 = .ok (.iload_n 2, 1) := by decide +kernel
theorem dX2_partAt_2 : decode cX2_partAt 2 = .ok (.invokevirtual 75, 3) := by decide +kernel
theorem dX2_partAt_5 : decode cX2_partAt 5 = .ok (.istore_n 3, 1) := by decide +kernel
theorem dX2_partAt_6 : decode cX2_partAt 6 = .ok (.iconst 0, 1) := by decide +kernel
theorem dX2_partAt_7 : decode cX2_partAt 7 = .ok (.istore 4, 2) := by decide +kernel
theorem dX2_partAt_9 : decode cX2_partAt 9 = .ok (.iconst 0, 1) := by decide +kernel
theorem dX2_partAt_10 : decode cX2_partAt 10 = .ok (.istore 5, 2) := by decide +kernel
theorem dX2_partAt_12 : decode cX2_partAt 12 = .ok (.iload 5, 2) := by decide +kernel
theorem dX2_partAt_14 : decode cX2_partAt 14 = .ok (.iload_n 2, 1) := by decide +kernel
theorem dX2_partAt_15 : decode cX2_partAt 15 = .ok (.if_icmp .ge 43, 3) := by decide +kernel
theorem dX2_partAt_18 : decode cX2_partAt 18 = .ok (.iload 5, 2) := by decide +kernel
theorem dX2_partAt_20 : decode cX2_partAt 20 = .ok (.aload_n 0, 1) := by decide +kernel
theorem dX2_partAt_21 : decode cX2_partAt 21 = .ok (.getfield 27, 3) := by decide +kernel
theorem dX2_partAt_24 : decode cX2_partAt 24 = .ok (.arraylength, 1) := by decide +kernel
theorem dX2_partAt_25 : decode cX2_partAt 25 = .ok (.if_icmp .ge 33, 3) := by decide +kernel
theorem dX2_partAt_28 : decode cX2_partAt 28 = .ok (.aload_n 1, 1) := by decide +kernel
theorem dX2_partAt_29 : decode cX2_partAt 29 = .ok (.iload 5, 2) := by decide +kernel
theorem dX2_partAt_31 : decode cX2_partAt 31 = .ok (.invokevirtual 75, 3) := by decide +kernel
theorem dX2_partAt_34 : decode cX2_partAt 34 = .ok (.iload_n 3, 1) := by decide +kernel
theorem dX2_partAt_35 : decode cX2_partAt 35 = .ok (.if_icmp .ne 17, 3) := by decide +kernel
theorem dX2_partAt_38 : decode cX2_partAt 38 = .ok (.aload_n 0, 1) := by decide +kernel
theorem dX2_partAt_39 : decode cX2_partAt 39 = .ok (.getfield 27, 3) := by decide +kernel
theorem dX2_partAt_42 : decode cX2_partAt 42 = .ok (.iload 5, 2) := by decide +kernel
theorem dX2_partAt_44 : decode cX2_partAt 44 = .ok (.iaload, 1) := by decide +kernel
theorem dX2_partAt_45 : decode cX2_partAt 45 = .ok (.iconst (-1), 1) := by decide +kernel
theorem dX2_partAt_46 : decode cX2_partAt 46 = .ok (.if_icmp .eq 6, 3) := by decide +kernel
theorem dX2_partAt_49 : decode cX2_partAt 49 = .ok (.iinc 4 1, 3) := by decide +kernel
theorem dX2_partAt_52 : decode cX2_partAt 52 = .ok (.iinc 5 1, 3) := by decide +kernel
theorem dX2_partAt_55 : decode cX2_partAt 55 = .ok (.goto (-43), 3) := by decide +kernel
theorem dX2_partAt_58 : decode cX2_partAt 58 = .ok (.aload_n 1, 1) := by decide +kernel
theorem dX2_partAt_59 : decode cX2_partAt 59 = .ok (.iload_n 3, 1) := by decide +kernel
theorem dX2_partAt_60 : decode cX2_partAt 60 = .ok (.iload 4, 2) := by decide +kernel
theorem dX2_partAt_62 : decode cX2_partAt 62 = .ok (.invokevirtual 78, 3) := by decide +kernel
theorem dX2_partAt_65 : decode cX2_partAt 65 = .ok (.ireturn, 1) := by decide +kernel
theorem dX2_settle_0 : decode cX2_settle 0 = .ok (.iconst 0, 1) := by decide +kernel
theorem dX2_settle_1 : decode cX2_settle 1 = .ok (.istore_n 3, 1) := by decide +kernel
theorem dX2_settle_2 : decode cX2_settle 2 = .ok (.iconst 0, 1) := by decide +kernel
theorem dX2_settle_3 : decode cX2_settle 3 = .ok (.istore 4, 2) := by decide +kernel
theorem dX2_settle_5 : decode cX2_settle 5 = .ok (.iload 4, 2) := by decide +kernel
theorem dX2_settle_7 : decode cX2_settle 7 = .ok (.aload_n 1, 1) := by decide +kernel
theorem dX2_settle_8 : decode cX2_settle 8 = .ok (.invokevirtual 59, 3) := by decide +kernel
theorem dX2_settle_11 : decode cX2_settle 11 = .ok (.if_icmp .ge 79, 3) := by decide +kernel
theorem dX2_settle_14 : decode cX2_settle 14 = .ok (.aload_n 0, 1) := by decide +kernel
theorem dX2_settle_15 : decode cX2_settle 15 = .ok (.iload 4, 2) := by decide +kernel
theorem dX2_settle_17 : decode cX2_settle 17 = .ok (.invokevirtual 82, 3) := by decide +kernel
theorem dX2_settle_20 : decode cX2_settle 20 = .ok (.istore 5, 2) := by decide +kernel
theorem dX2_settle_22 : decode cX2_settle 22 = .ok (.aload_n 0, 1) := by decide +kernel
theorem dX2_settle_23 : decode cX2_settle 23 = .ok (.iload 5, 2) := by decide +kernel
theorem dX2_settle_25 : decode cX2_settle 25 = .ok (.invokevirtual 37, 3) := by decide +kernel
theorem dX2_settle_28 : decode cX2_settle 28 = .ok (.ifCond .eq 56, 3) := by decide +kernel
theorem dX2_settle_31 : decode cX2_settle 31 = .ok (.aload_n 0, 1) := by decide +kernel
theorem dX2_settle_32 : decode cX2_settle 32 = .ok (.aload_n 1, 1) := by decide +kernel
theorem dX2_settle_33 : decode cX2_settle 33 = .ok (.iload 4, 2) := by decide +kernel
theorem dX2_settle_35 : decode cX2_settle 35 = .ok (.invokevirtual 84, 3) := by decide +kernel
theorem dX2_settle_38 : decode cX2_settle 38 = .ok (.istore 6, 2) := by decide +kernel
theorem dX2_settle_40 : decode cX2_settle 40 = .ok (.aload_n 0, 1) := by decide +kernel
theorem dX2_settle_41 : decode cX2_settle 41 = .ok (.getfield 9, 3) := by decide +kernel
theorem dX2_settle_44 : decode cX2_settle 44 = .ok (.iload 5, 2) := by decide +kernel
theorem dX2_settle_46 : decode cX2_settle 46 = .ok (.dup2, 1) := by decide +kernel
theorem dX2_settle_47 : decode cX2_settle 47 = .ok (.iaload, 1) := by decide +kernel
theorem dX2_settle_48 : decode cX2_settle 48 = .ok (.iload 6, 2) := by decide +kernel
theorem dX2_settle_50 : decode cX2_settle 50 = .ok (.isub, 1) := by decide +kernel
theorem dX2_settle_51 : decode cX2_settle 51 = .ok (.iastore, 1) := by decide +kernel
theorem dX2_settle_52 : decode cX2_settle 52 = .ok (.iload_n 3, 1) := by decide +kernel
theorem dX2_settle_53 : decode cX2_settle 53 = .ok (.iload 6, 2) := by decide +kernel
theorem dX2_settle_55 : decode cX2_settle 55 = .ok (.iadd, 1) := by decide +kernel
theorem dX2_settle_56 : decode cX2_settle 56 = .ok (.istore_n 3, 1) := by decide +kernel
theorem dX2_settle_57 : decode cX2_settle 57 = .ok (.aload_n 0, 1) := by decide +kernel
theorem dX2_settle_58 : decode cX2_settle 58 = .ok (.getfield 21, 3) := by decide +kernel
theorem dX2_settle_61 : decode cX2_settle 61 = .ok (.iload 5, 2) := by decide +kernel
theorem dX2_settle_63 : decode cX2_settle 63 = .ok (.dup2, 1) := by decide +kernel
theorem dX2_settle_64 : decode cX2_settle 64 = .ok (.iaload, 1) := by decide +kernel
theorem dX2_settle_65 : decode cX2_settle 65 = .ok (.iconst 1, 1) := by decide +kernel
theorem dX2_settle_66 : decode cX2_settle 66 = .ok (.iadd, 1) := by decide +kernel
theorem dX2_settle_67 : decode cX2_settle 67 = .ok (.iastore, 1) := by decide +kernel
theorem dX2_settle_68 : decode cX2_settle 68 = .ok (.aload_n 0, 1) := by decide +kernel
theorem dX2_settle_69 : decode cX2_settle 69 = .ok (.getfield 18, 3) := by decide +kernel
theorem dX2_settle_72 : decode cX2_settle 72 = .ok (.iload 5, 2) := by decide +kernel
theorem dX2_settle_74 : decode cX2_settle 74 = .ok (.iload_n 2, 1) := by decide +kernel
theorem dX2_settle_75 : decode cX2_settle 75 = .ok (.iconst 1, 1) := by decide +kernel
theorem dX2_settle_76 : decode cX2_settle 76 = .ok (.iadd, 1) := by decide +kernel
theorem dX2_settle_77 : decode cX2_settle 77 = .ok (.aload_n 1, 1) := by decide +kernel
theorem dX2_settle_78 : decode cX2_settle 78 = .ok (.iconst 0, 1) := by decide +kernel
theorem dX2_settle_79 : decode cX2_settle 79 = .ok (.invokevirtual 54, 3) := by decide +kernel
theorem dX2_settle_82 : decode cX2_settle 82 = .ok (.iadd, 1) := by decide +kernel
theorem dX2_settle_83 : decode cX2_settle 83 = .ok (.iastore, 1) := by decide +kernel
theorem dX2_settle_84 : decode cX2_settle 84 = .ok (.iinc 4 1, 3) := by decide +kernel
theorem dX2_settle_87 : decode cX2_settle 87 = .ok (.goto (-82), 3) := by decide +kernel
theorem dX2_settle_90 : decode cX2_settle 90 = .ok (.aload_n 0, 1) := by decide +kernel
theorem dX2_settle_91 : decode cX2_settle 91 = .ok (.invokevirtual 87, 3) := by decide +kernel
theorem dX2_settle_94 : decode cX2_settle 94 = .ok (.iload_n 3, 1) := by decide +kernel
theorem dX2_settle_95 : decode cX2_settle 95 = .ok (.ireturn, 1) := by decide +kernel
theorem dX2_layDownAll_0 : decode cX2_layDownAll 0 = .ok (.iconst 0, 1) := by decide +kernel
theorem dX2_layDownAll_1 : decode cX2_layDownAll 1 = .ok (.istore_n 1, 1) := by decide +kernel
theorem dX2_layDownAll_2 : decode cX2_layDownAll 2 = .ok (.iload_n 1, 1) := by decide +kernel
theorem dX2_layDownAll_3 : decode cX2_layDownAll 3 = .ok (.aload_n 0, 1) := by decide +kernel
theorem dX2_layDownAll_4 : decode cX2_layDownAll 4 = .ok (.getfield 24, 3) := by decide +kernel
theorem dX2_layDownAll_7 : decode cX2_layDownAll 7 = .ok (.arraylength, 1) := by decide +kernel
theorem dX2_layDownAll_8 : decode cX2_layDownAll 8 = .ok (.if_icmp .ge 16, 3) := by decide +kernel
theorem dX2_layDownAll_11 : decode cX2_layDownAll 11 = .ok (.aload_n 0, 1) := by decide +kernel
theorem dX2_layDownAll_12 : decode cX2_layDownAll 12 = .ok (.getfield 24, 3) := by decide +kernel
theorem dX2_layDownAll_15 : decode cX2_layDownAll 15 = .ok (.iload_n 1, 1) := by decide +kernel
theorem dX2_layDownAll_16 : decode cX2_layDownAll 16 = .ok (.iconst (-1), 1) := by decide +kernel
theorem dX2_layDownAll_17 : decode cX2_layDownAll 17 = .ok (.iastore, 1) := by decide +kernel
theorem dX2_layDownAll_18 : decode cX2_layDownAll 18 = .ok (.iinc 1 1, 3) := by decide +kernel
theorem dX2_layDownAll_21 : decode cX2_layDownAll 21 = .ok (.goto (-19), 3) := by decide +kernel
theorem dX2_layDownAll_24 : decode cX2_layDownAll 24 = .ok (.iconst 0, 1) := by decide +kernel
theorem dX2_layDownAll_25 : decode cX2_layDownAll 25 = .ok (.istore_n 1, 1) := by decide +kernel
theorem dX2_layDownAll_26 : decode cX2_layDownAll 26 = .ok (.iload_n 1, 1) := by decide +kernel
theorem dX2_layDownAll_27 : decode cX2_layDownAll 27 = .ok (.aload_n 0, 1) := by decide +kernel
theorem dX2_layDownAll_28 : decode cX2_layDownAll 28 = .ok (.getfield 27, 3) := by decide +kernel
theorem dX2_layDownAll_31 : decode cX2_layDownAll 31 = .ok (.arraylength, 1) := by decide +kernel
theorem dX2_layDownAll_32 : decode cX2_layDownAll 32 = .ok (.if_icmp .ge 16, 3) := by decide +kernel
theorem dX2_layDownAll_35 : decode cX2_layDownAll 35 = .ok (.aload_n 0, 1) := by decide +kernel
theorem dX2_layDownAll_36 : decode cX2_layDownAll 36 = .ok (.getfield 27, 3) := by decide +kernel
theorem dX2_layDownAll_39 : decode cX2_layDownAll 39 = .ok (.iload_n 1, 1) := by decide +kernel
theorem dX2_layDownAll_40 : decode cX2_layDownAll 40 = .ok (.iconst (-1), 1) := by decide +kernel
theorem dX2_layDownAll_41 : decode cX2_layDownAll 41 = .ok (.iastore, 1) := by decide +kernel
theorem dX2_layDownAll_42 : decode cX2_layDownAll 42 = .ok (.iinc 1 1, 3) := by decide +kernel
theorem dX2_layDownAll_45 : decode cX2_layDownAll 45 = .ok (.goto (-19), 3) := by decide +kernel
theorem dX2_layDownAll_48 : decode cX2_layDownAll 48 = .ok (.return_, 1) := by decide +kernel
theorem dX2_isPlace_0 : decode cX2_isPlace 0 = .ok (.iload_n 0, 1) := by decide +kernel
theorem dX2_isPlace_1 : decode cX2_isPlace 1 = .ok (.ifCond .lt 13, 3) := by decide +kernel
theorem dX2_isPlace_4 : decode cX2_isPlace 4 = .ok (.iload_n 0, 1) := by decide +kernel
theorem dX2_isPlace_5 : decode cX2_isPlace 5 = .ok (.bipush 24, 2) := by decide +kernel
theorem dX2_isPlace_7 : decode cX2_isPlace 7 = .ok (.if_icmp .ge 7, 3) := by decide +kernel
theorem dX2_isPlace_10 : decode cX2_isPlace 10 = .ok (.iconst 1, 1) := by decide +kernel
theorem dX2_isPlace_11 : decode cX2_isPlace 11 = .ok (.goto 4, 3) := by decide +kernel
theorem dX2_isPlace_14 : decode cX2_isPlace 14 = .ok (.iconst 0, 1) := by decide +kernel
theorem dX2_isPlace_15 : decode cX2_isPlace 15 = .ok (.ireturn, 1) := by decide +kernel
theorem dX3_init_0 : decode cX3_init 0 = .ok (.aload_n 0, 1) := by decide +kernel
theorem dX3_init_1 : decode cX3_init 1 = .ok (.invokespecial 3, 3) := by decide +kernel
theorem dX3_init_4 : decode cX3_init 4 = .ok (.aload_n 0, 1) := by decide +kernel
theorem dX3_init_5 : decode cX3_init 5 = .ok (.bipush 6, 2) := by decide +kernel
theorem dX3_init_7 : decode cX3_init 7 = .ok (.newarray .int, 2) := by decide +kernel
theorem dX3_init_9 : decode cX3_init 9 = .ok (.putfield 9, 3) := by decide +kernel
theorem dX3_init_12 : decode cX3_init 12 = .ok (.aload_n 0, 1) := by decide +kernel
theorem dX3_init_13 : decode cX3_init 13 = .ok (.bipush 6, 2) := by decide +kernel
theorem dX3_init_15 : decode cX3_init 15 = .ok (.newarray .int, 2) := by decide +kernel
theorem dX3_init_17 : decode cX3_init 17 = .ok (.putfield 15, 3) := by decide +kernel
theorem dX3_init_20 : decode cX3_init 20 = .ok (.aload_n 0, 1) := by decide +kernel
theorem dX3_init_21 : decode cX3_init 21 = .ok (.iconst 4, 1) := by decide +kernel
theorem dX3_init_22 : decode cX3_init 22 = .ok (.newarray .int, 2) := by decide +kernel
theorem dX3_init_24 : decode cX3_init 24 = .ok (.putfield 18, 3) := by decide +kernel
theorem dX3_init_27 : decode cX3_init 27 = .ok (.aload_n 0, 1) := by decide +kernel
theorem dX3_init_28 : decode cX3_init 28 = .ok (.bipush 24, 2) := by decide +kernel
theorem dX3_init_30 : decode cX3_init 30 = .ok (.newarray .int, 2) := by decide +kernel
theorem dX3_init_32 : decode cX3_init 32 = .ok (.putfield 21, 3) := by decide +kernel
theorem dX3_init_35 : decode cX3_init 35 = .ok (.aload_n 0, 1) := by decide +kernel
theorem dX3_init_36 : decode cX3_init 36 = .ok (.iconst 0, 1) := by decide +kernel
theorem dX3_init_37 : decode cX3_init 37 = .ok (.putfield 24, 3) := by decide +kernel
theorem dX3_init_40 : decode cX3_init 40 = .ok (.return_, 1) := by decide +kernel
theorem dX3_clear_0 : decode cX3_clear 0 = .ok (.iconst 0, 1) := by decide +kernel
theorem dX3_clear_1 : decode cX3_clear 1 = .ok (.istore_n 1, 1) := by decide +kernel
theorem dX3_clear_2 : decode cX3_clear 2 = .ok (.iload_n 1, 1) := by decide +kernel
theorem dX3_clear_3 : decode cX3_clear 3 = .ok (.aload_n 0, 1) := by decide +kernel
theorem dX3_clear_4 : decode cX3_clear 4 = .ok (.getfield 9, 3) := by decide +kernel
theorem dX3_clear_7 : decode cX3_clear 7 = .ok (.arraylength, 1) := by decide +kernel
theorem dX3_clear_8 : decode cX3_clear 8 = .ok (.if_icmp .ge 16, 3) := by decide +kernel
theorem dX3_clear_11 : decode cX3_clear 11 = .ok (.aload_n 0, 1) := by decide +kernel
theorem dX3_clear_12 : decode cX3_clear 12 = .ok (.getfield 9, 3) := by decide +kernel
theorem dX3_clear_15 : decode cX3_clear 15 = .ok (.iload_n 1, 1) := by decide +kernel
theorem dX3_clear_16 : decode cX3_clear 16 = .ok (.iconst 0, 1) := by decide +kernel
theorem dX3_clear_17 : decode cX3_clear 17 = .ok (.iastore, 1) := by decide +kernel
theorem dX3_clear_18 : decode cX3_clear 18 = .ok (.iinc 1 1, 3) := by decide +kernel
theorem dX3_clear_21 : decode cX3_clear 21 = .ok (.goto (-19), 3) := by decide +kernel
theorem dX3_clear_24 : decode cX3_clear 24 = .ok (.iconst 0, 1) := by decide +kernel
theorem dX3_clear_25 : decode cX3_clear 25 = .ok (.istore_n 1, 1) := by decide +kernel
theorem dX3_clear_26 : decode cX3_clear 26 = .ok (.iload_n 1, 1) := by decide +kernel
theorem dX3_clear_27 : decode cX3_clear 27 = .ok (.aload_n 0, 1) := by decide +kernel
theorem dX3_clear_28 : decode cX3_clear 28 = .ok (.getfield 15, 3) := by decide +kernel
theorem dX3_clear_31 : decode cX3_clear 31 = .ok (.arraylength, 1) := by decide +kernel
theorem dX3_clear_32 : decode cX3_clear 32 = .ok (.if_icmp .ge 16, 3) := by decide +kernel
theorem dX3_clear_35 : decode cX3_clear 35 = .ok (.aload_n 0, 1) := by decide +kernel
theorem dX3_clear_36 : decode cX3_clear 36 = .ok (.getfield 15, 3) := by decide +kernel
theorem dX3_clear_39 : decode cX3_clear 39 = .ok (.iload_n 1, 1) := by decide +kernel
theorem dX3_clear_40 : decode cX3_clear 40 = .ok (.iconst 0, 1) := by decide +kernel
theorem dX3_clear_41 : decode cX3_clear 41 = .ok (.iastore, 1) := by decide +kernel
theorem dX3_clear_42 : decode cX3_clear 42 = .ok (.iinc 1 1, 3) := by decide +kernel
theorem dX3_clear_45 : decode cX3_clear 45 = .ok (.goto (-19), 3) := by decide +kernel
theorem dX3_clear_48 : decode cX3_clear 48 = .ok (.iconst 0, 1) := by decide +kernel
theorem dX3_clear_49 : decode cX3_clear 49 = .ok (.istore_n 1, 1) := by decide +kernel
theorem dX3_clear_50 : decode cX3_clear 50 = .ok (.iload_n 1, 1) := by decide +kernel
theorem dX3_clear_51 : decode cX3_clear 51 = .ok (.aload_n 0, 1) := by decide +kernel
theorem dX3_clear_52 : decode cX3_clear 52 = .ok (.getfield 18, 3) := by decide +kernel
theorem dX3_clear_55 : decode cX3_clear 55 = .ok (.arraylength, 1) := by decide +kernel
theorem dX3_clear_56 : decode cX3_clear 56 = .ok (.if_icmp .ge 16, 3) := by decide +kernel
theorem dX3_clear_59 : decode cX3_clear 59 = .ok (.aload_n 0, 1) := by decide +kernel
theorem dX3_clear_60 : decode cX3_clear 60 = .ok (.getfield 18, 3) := by decide +kernel
theorem dX3_clear_63 : decode cX3_clear 63 = .ok (.iload_n 1, 1) := by decide +kernel
theorem dX3_clear_64 : decode cX3_clear 64 = .ok (.iconst 0, 1) := by decide +kernel
theorem dX3_clear_65 : decode cX3_clear 65 = .ok (.iastore, 1) := by decide +kernel
theorem dX3_clear_66 : decode cX3_clear 66 = .ok (.iinc 1 1, 3) := by decide +kernel
theorem dX3_clear_69 : decode cX3_clear 69 = .ok (.goto (-19), 3) := by decide +kernel
theorem dX3_clear_72 : decode cX3_clear 72 = .ok (.aload_n 0, 1) := by decide +kernel
theorem dX3_clear_73 : decode cX3_clear 73 = .ok (.iconst 0, 1) := by decide +kernel
theorem dX3_clear_74 : decode cX3_clear 74 = .ok (.putfield 24, 3) := by decide +kernel
theorem dX3_clear_77 : decode cX3_clear 77 = .ok (.return_, 1) := by decide +kernel
theorem dX3_hasBurden_0 : decode cX3_hasBurden 0 = .ok (.aload_n 0, 1) := by decide +kernel
theorem dX3_hasBurden_1 : decode cX3_hasBurden 1 = .ok (.iload_n 1, 1) := by decide +kernel
theorem dX3_hasBurden_2 : decode cX3_hasBurden 2 = .ok (.invokevirtual 28, 3) := by decide +kernel
theorem dX3_hasBurden_5 : decode cX3_hasBurden 5 = .ok (.ifCond .le 7, 3) := by decide +kernel
theorem dX3_hasBurden_8 : decode cX3_hasBurden 8 = .ok (.iconst 1, 1) := by decide +kernel
theorem dX3_hasBurden_9 : decode cX3_hasBurden 9 = .ok (.goto 4, 3) := by decide +kernel
theorem dX3_hasBurden_12 : decode cX3_hasBurden 12 = .ok (.iconst 0, 1) := by decide +kernel
theorem dX3_hasBurden_13 : decode cX3_hasBurden 13 = .ok (.ireturn, 1) := by decide +kernel
theorem dX3_tellBurden_0 : decode cX3_tellBurden 0 = .ok (.iload_n 1, 1) := by decide +kernel
theorem dX3_tellBurden_1 : decode cX3_tellBurden 1 = .ok (.ifCond .lt 35, 3) := by decide +kernel
theorem dX3_tellBurden_4 : decode cX3_tellBurden 4 = .ok (.iload_n 1, 1) := by decide +kernel
theorem dX3_tellBurden_5 : decode cX3_tellBurden 5 = .ok (.aload_n 0, 1) := by decide +kernel
theorem dX3_tellBurden_6 : decode cX3_tellBurden 6 = .ok (.getfield 9, 3) := by decide +kernel
theorem dX3_tellBurden_9 : decode cX3_tellBurden 9 = .ok (.arraylength, 1) := by decide +kernel
theorem dX3_tellBurden_10 : decode cX3_tellBurden 10 = .ok (.if_icmp .ge 26, 3) := by decide +kernel
theorem dX3_tellBurden_13 : decode cX3_tellBurden 13 = .ok (.iload_n 1, 1) := by decide +kernel
theorem dX3_tellBurden_14 : decode cX3_tellBurden 14 = .ok (.aload_n 0, 1) := by decide +kernel
theorem dX3_tellBurden_15 : decode cX3_tellBurden 15 = .ok (.getfield 15, 3) := by decide +kernel
theorem dX3_tellBurden_18 : decode cX3_tellBurden 18 = .ok (.arraylength, 1) := by decide +kernel
theorem dX3_tellBurden_19 : decode cX3_tellBurden 19 = .ok (.if_icmp .ge 17, 3) := by decide +kernel
theorem dX3_tellBurden_22 : decode cX3_tellBurden 22 = .ok (.aload_n 0, 1) := by decide +kernel
theorem dX3_tellBurden_23 : decode cX3_tellBurden 23 = .ok (.getfield 9, 3) := by decide +kernel
theorem dX3_tellBurden_26 : decode cX3_tellBurden 26 = .ok (.iload_n 1, 1) := by decide +kernel
theorem dX3_tellBurden_27 : decode cX3_tellBurden 27 = .ok (.iload_n 2, 1) := by decide +kernel
theorem dX3_tellBurden_28 : decode cX3_tellBurden 28 = .ok (.iastore, 1) := by decide +kernel
theorem dX3_tellBurden_29 : decode cX3_tellBurden 29 = .ok (.aload_n 0, 1) := by decide +kernel
theorem dX3_tellBurden_30 : decode cX3_tellBurden 30 = .ok (.getfield 15, 3) := by decide +kernel
theorem dX3_tellBurden_33 : decode cX3_tellBurden 33 = .ok (.iload_n 1, 1) := by decide +kernel
theorem dX3_tellBurden_34 : decode cX3_tellBurden 34 = .ok (.iload_n 3, 1) := by decide +kernel
theorem dX3_tellBurden_35 : decode cX3_tellBurden 35 = .ok (.iastore, 1) := by decide +kernel
theorem dX3_tellBurden_36 : decode cX3_tellBurden 36 = .ok (.return_, 1) := by decide +kernel
theorem dX3_tellSetting_0 : decode cX3_tellSetting 0 = .ok (.iload_n 1, 1) := by decide +kernel
theorem dX3_tellSetting_1 : decode cX3_tellSetting 1 = .ok (.ifCond .lt 19, 3) := by decide +kernel
theorem dX3_tellSetting_4 : decode cX3_tellSetting 4 = .ok (.iload_n 1, 1) := by decide +kernel
theorem dX3_tellSetting_5 : decode cX3_tellSetting 5 = .ok (.aload_n 0, 1) := by decide +kernel
theorem dX3_tellSetting_6 : decode cX3_tellSetting 6 = .ok (.getfield 18, 3) := by decide +kernel
theorem dX3_tellSetting_9 : decode cX3_tellSetting 9 = .ok (.arraylength, 1) := by decide +kernel
theorem dX3_tellSetting_10 : decode cX3_tellSetting 10 = .ok (.if_icmp .ge 10, 3) := by decide +kernel
theorem dX3_tellSetting_13 : decode cX3_tellSetting 13 = .ok (.aload_n 0, 1) := by decide +kernel
theorem dX3_tellSetting_14 : decode cX3_tellSetting 14 = .ok (.getfield 18, 3) := by decide +kernel
theorem dX3_tellSetting_17 : decode cX3_tellSetting 17 = .ok (.iload_n 1, 1) := by decide +kernel
theorem dX3_tellSetting_18 : decode cX3_tellSetting 18 = .ok (.iload_n 2, 1) := by decide +kernel
theorem dX3_tellSetting_19 : decode cX3_tellSetting 19 = .ok (.iastore, 1) := by decide +kernel
theorem dX3_tellSetting_20 : decode cX3_tellSetting 20 = .ok (.return_, 1) := by decide +kernel
theorem dX3_numberPlaces_0 : decode cX3_numberPlaces 0 = .ok (.aload_n 0, 1) := by decide +kernel
theorem dX3_numberPlaces_1 : decode cX3_numberPlaces 1 = .ok (.iconst 0, 1) := by decide +kernel
theorem dX3_numberPlaces_2 : decode cX3_numberPlaces 2 = .ok (.putfield 24, 3) := by decide +kernel
theorem dX3_numberPlaces_5 : decode cX3_numberPlaces 5 = .ok (.iconst 0, 1) := by decide +kernel
theorem dX3_numberPlaces_6 : decode cX3_numberPlaces 6 = .ok (.istore_n 1, 1) := by decide +kernel
theorem dX3_numberPlaces_7 : decode cX3_numberPlaces 7 = .ok (.iload_n 1, 1) := by decide +kernel
theorem dX3_numberPlaces_8 : decode cX3_numberPlaces 8 = .ok (.aload_n 0, 1) := by decide +kernel
theorem dX3_numberPlaces_9 : decode cX3_numberPlaces 9 = .ok (.getfield 15, 3) := by decide +kernel
theorem dX3_numberPlaces_12 : decode cX3_numberPlaces 12 = .ok (.arraylength, 1) := by decide +kernel
theorem dX3_numberPlaces_13 : decode cX3_numberPlaces 13 = .ok (.if_icmp .ge 59, 3) := by decide +kernel
theorem dX3_numberPlaces_16 : decode cX3_numberPlaces 16 = .ok (.iconst 0, 1) := by decide +kernel
theorem dX3_numberPlaces_17 : decode cX3_numberPlaces 17 = .ok (.istore_n 2, 1) := by decide +kernel
theorem dX3_numberPlaces_18 : decode cX3_numberPlaces 18 = .ok (.iload_n 2, 1) := by decide +kernel
theorem dX3_numberPlaces_19 : decode cX3_numberPlaces 19 = .ok (.aload_n 0, 1) := by decide +kernel
theorem dX3_numberPlaces_20 : decode cX3_numberPlaces 20 = .ok (.getfield 15, 3) := by decide +kernel
theorem dX3_numberPlaces_23 : decode cX3_numberPlaces 23 = .ok (.iload_n 1, 1) := by decide +kernel
theorem dX3_numberPlaces_24 : decode cX3_numberPlaces 24 = .ok (.iaload, 1) := by decide +kernel
theorem dX3_numberPlaces_25 : decode cX3_numberPlaces 25 = .ok (.if_icmp .ge 41, 3) := by decide +kernel
theorem dX3_numberPlaces_28 : decode cX3_numberPlaces 28 = .ok (.aload_n 0, 1) := by decide +kernel
theorem dX3_numberPlaces_29 : decode cX3_numberPlaces 29 = .ok (.getfield 24, 3) := by decide +kernel
theorem dX3_numberPlaces_32 : decode cX3_numberPlaces 32 = .ok (.aload_n 0, 1) := by decide +kernel
theorem dX3_numberPlaces_33 : decode cX3_numberPlaces 33 = .ok (.getfield 21, 3) := by decide +kernel
theorem dX3_numberPlaces_36 : decode cX3_numberPlaces 36 = .ok (.arraylength, 1) := by decide +kernel
theorem dX3_numberPlaces_37 : decode cX3_numberPlaces 37 = .ok (.if_icmp .ge 29, 3) := by decide +kernel
theorem dX3_numberPlaces_40 : decode cX3_numberPlaces 40 = .ok (.aload_n 0, 1) := by decide +kernel
theorem dX3_numberPlaces_41 : decode cX3_numberPlaces 41 = .ok (.getfield 21, 3) := by decide +kernel
theorem dX3_numberPlaces_44 : decode cX3_numberPlaces 44 = .ok (.aload_n 0, 1) := by decide +kernel
theorem dX3_numberPlaces_45 : decode cX3_numberPlaces 45 = .ok (.getfield 24, 3) := by decide +kernel
theorem dX3_numberPlaces_48 : decode cX3_numberPlaces 48 = .ok (.iload_n 1, 1) := by decide +kernel
theorem dX3_numberPlaces_49 : decode cX3_numberPlaces 49 = .ok (.iastore, 1) := by decide +kernel
theorem dX3_numberPlaces_50 : decode cX3_numberPlaces 50 = .ok (.aload_n 0, 1) := by decide +kernel
theorem dX3_numberPlaces_51 : decode cX3_numberPlaces 51 = .ok (.dup, 1) := by decide +kernel
theorem dX3_numberPlaces_52 : decode cX3_numberPlaces 52 = .ok (.getfield 24, 3) := by decide +kernel
theorem dX3_numberPlaces_55 : decode cX3_numberPlaces 55 = .ok (.iconst 1, 1) := by decide +kernel
theorem dX3_numberPlaces_56 : decode cX3_numberPlaces 56 = .ok (.iadd, 1) := by decide +kernel
theorem dX3_numberPlaces_57 : decode cX3_numberPlaces 57 = .ok (.putfield 24, 3) := by decide +kernel
theorem dX3_numberPlaces_60 : decode cX3_numberPlaces 60 = .ok (.iinc 2 1, 3) := by decide +kernel
theorem dX3_numberPlaces_63 : decode cX3_numberPlaces 63 = .ok (.goto (-45), 3) := by decide +kernel
theorem dX3_numberPlaces_66 : decode cX3_numberPlaces 66 = .ok (.iinc 1 1, 3) := by decide +kernel
theorem dX3_numberPlaces_69 : decode cX3_numberPlaces 69 = .ok (.goto (-62), 3) := by decide +kernel
theorem dX3_numberPlaces_72 : decode cX3_numberPlaces 72 = .ok (.return_, 1) := by decide +kernel
theorem dX3_setting_0 : decode cX3_setting 0 = .ok (.iload_n 1, 1) := by decide +kernel
theorem dX3_setting_1 : decode cX3_setting 1 = .ok (.ifCond .lt 21, 3) := by decide +kernel
theorem dX3_setting_4 : decode cX3_setting 4 = .ok (.iload_n 1, 1) := by decide +kernel
theorem dX3_setting_5 : decode cX3_setting 5 = .ok (.aload_n 0, 1) := by decide +kernel
theorem dX3_setting_6 : decode cX3_setting 6 = .ok (.getfield 18, 3) := by decide +kernel
theorem dX3_setting_9 : decode cX3_setting 9 = .ok (.arraylength, 1) := by decide +kernel
theorem dX3_setting_10 : decode cX3_setting 10 = .ok (.if_icmp .ge 12, 3) := by decide +kernel
theorem dX3_setting_13 : decode cX3_setting 13 = .ok (.aload_n 0, 1) := by decide +kernel
theorem dX3_setting_14 : decode cX3_setting 14 = .ok (.getfield 18, 3) := by decide +kernel
theorem dX3_setting_17 : decode cX3_setting 17 = .ok (.iload_n 1, 1) := by decide +kernel
theorem dX3_setting_18 : decode cX3_setting 18 = .ok (.iaload, 1) := by decide +kernel
theorem dX3_setting_19 : decode cX3_setting 19 = .ok (.goto 4, 3) := by decide +kernel
theorem dX3_setting_22 : decode cX3_setting 22 = .ok (.iconst 0, 1) := by decide +kernel
theorem dX3_setting_23 : decode cX3_setting 23 = .ok (.ireturn, 1) := by decide +kernel
theorem dX3_places_0 : decode cX3_places 0 = .ok (.aload_n 0, 1) := by decide +kernel
theorem dX3_places_1 : decode cX3_places 1 = .ok (.getfield 24, 3) := by decide +kernel
theorem dX3_places_4 : decode cX3_places 4 = .ok (.ireturn, 1) := by decide +kernel
theorem dX3_hasPlace_0 : decode cX3_hasPlace 0 = .ok (.iload_n 1, 1) := by decide +kernel
theorem dX3_hasPlace_1 : decode cX3_hasPlace 1 = .ok (.ifCond .lt 24, 3) := by decide +kernel
theorem dX3_hasPlace_4 : decode cX3_hasPlace 4 = .ok (.iload_n 1, 1) := by decide +kernel
theorem dX3_hasPlace_5 : decode cX3_hasPlace 5 = .ok (.aload_n 0, 1) := by decide +kernel
theorem dX3_hasPlace_6 : decode cX3_hasPlace 6 = .ok (.getfield 24, 3) := by decide +kernel
theorem dX3_hasPlace_9 : decode cX3_hasPlace 9 = .ok (.if_icmp .ge 16, 3) := by decide +kernel
theorem dX3_hasPlace_12 : decode cX3_hasPlace 12 = .ok (.iload_n 1, 1) := by decide +kernel
theorem dX3_hasPlace_13 : decode cX3_hasPlace 13 = .ok (.aload_n 0, 1) := by decide +kernel
theorem dX3_hasPlace_14 : decode cX3_hasPlace 14 = .ok (.getfield 21, 3) := by decide +kernel
theorem dX3_hasPlace_17 : decode cX3_hasPlace 17 = .ok (.arraylength, 1) := by decide +kernel
theorem dX3_hasPlace_18 : decode cX3_hasPlace 18 = .ok (.if_icmp .ge 7, 3) := by decide +kernel
theorem dX3_hasPlace_21 : decode cX3_hasPlace 21 = .ok (.iconst 1, 1) := by decide +kernel
theorem dX3_hasPlace_22 : decode cX3_hasPlace 22 = .ok (.goto 4, 3) := by decide +kernel
theorem dX3_hasPlace_25 : decode cX3_hasPlace 25 = .ok (.iconst 0, 1) := by decide +kernel
theorem dX3_hasPlace_26 : decode cX3_hasPlace 26 = .ok (.ireturn, 1) := by decide +kernel
theorem dX3_burdenAt_0 : decode cX3_burdenAt 0 = .ok (.aload_n 0, 1) := by decide +kernel
theorem dX3_burdenAt_1 : decode cX3_burdenAt 1 = .ok (.iload_n 1, 1) := by decide +kernel
theorem dX3_burdenAt_2 : decode cX3_burdenAt 2 = .ok (.invokevirtual 32, 3) := by decide +kernel
theorem dX3_burdenAt_5 : decode cX3_burdenAt 5 = .ok (.ifCond .eq 12, 3) := by decide +kernel
theorem dX3_burdenAt_8 : decode cX3_burdenAt 8 = .ok (.aload_n 0, 1) := by decide +kernel
theorem dX3_burdenAt_9 : decode cX3_burdenAt 9 = .ok (.getfield 21, 3) := by decide +kernel
theorem dX3_burdenAt_12 : decode cX3_burdenAt 12 = .ok (.iload_n 1, 1) := by decide +kernel
