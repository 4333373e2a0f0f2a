theorem dX6_man_25 : decode cX6_man 25 = .ok (.aload_n 0, 1) := by decide +kernel
theorem dX6_man_26 : decode cX6_man 26 = .ok (.getfield 142, 3) := by decide +kernel
theorem dX6_man_29 : decode cX6_man 29 = .ok (.bipush 12, 2) := by decide +kernel
theorem dX6_man_31 : decode cX6_man 31 = .ok (.if_icmp .ne 5, 3) := by decide +kernel
theorem dX6_man_34 : decode cX6_man 34 = .ok (.iconst (-1), 1) := by decide +kernel
theorem dX6_man_35 : decode cX6_man 35 = .ok (.ireturn, 1) := by decide +kernel
theorem dX6_man_36 : decode cX6_man 36 = .ok (.aload_n 0, 1) := by decide +kernel
theorem dX6_man_37 : decode cX6_man 37 = .ok (.getfield 29, 3) := by decide +kernel
theorem dX6_man_40 : decode cX6_man 40 = .ok (.aload_n 0, 1) := by decide +kernel
theorem dX6_man_41 : decode cX6_man 41 = .ok (.getfield 142, 3) := by decide +kernel
theorem dX6_man_44 : decode cX6_man 44 = .ok (.iload_n 1, 1) := by decide +kernel
theorem dX6_man_45 : decode cX6_man 45 = .ok (.iastore, 1) := by decide +kernel
theorem dX6_man_46 : decode cX6_man 46 = .ok (.aload_n 0, 1) := by decide +kernel
theorem dX6_man_47 : decode cX6_man 47 = .ok (.getfield 32, 3) := by decide +kernel
theorem dX6_man_50 : decode cX6_man 50 = .ok (.aload_n 0, 1) := by decide +kernel
theorem dX6_man_51 : decode cX6_man 51 = .ok (.getfield 142, 3) := by decide +kernel
theorem dX6_man_54 : decode cX6_man 54 = .ok (.iload_n 2, 1) := by decide +kernel
theorem dX6_man_55 : decode cX6_man 55 = .ok (.iastore, 1) := by decide +kernel
theorem dX6_man_56 : decode cX6_man 56 = .ok (.aload_n 0, 1) := by decide +kernel
theorem dX6_man_57 : decode cX6_man 57 = .ok (.dup, 1) := by decide +kernel
theorem dX6_man_58 : decode cX6_man 58 = .ok (.getfield 142, 3) := by decide +kernel
theorem dX6_man_61 : decode cX6_man 61 = .ok (.iconst 1, 1) := by decide +kernel
theorem dX6_man_62 : decode cX6_man 62 = .ok (.iadd, 1) := by decide +kernel
theorem dX6_man_63 : decode cX6_man 63 = .ok (.putfield 142, 3) := by decide +kernel
theorem dX6_man_66 : decode cX6_man 66 = .ok (.aload_n 0, 1) := by decide +kernel
theorem dX6_man_67 : decode cX6_man 67 = .ok (.getfield 142, 3) := by decide +kernel
theorem dX6_man_70 : decode cX6_man 70 = .ok (.iconst 1, 1) := by decide +kernel
theorem dX6_man_71 : decode cX6_man 71 = .ok (.isub, 1) := by decide +kernel
theorem dX6_man_72 : decode cX6_man 72 = .ok (.ireturn, 1) := by decide +kernel
theorem dX6_isMan_0 : decode cX6_isMan 0 = .ok (.iload_n 1, 1) := by decide +kernel
theorem dX6_isMan_1 : decode cX6_isMan 1 = .ok (.ifCond .lt 15, 3) := by decide +kernel
theorem dX6_isMan_4 : decode cX6_isMan 4 = .ok (.iload_n 1, 1) := by decide +kernel
theorem dX6_isMan_5 : decode cX6_isMan 5 = .ok (.aload_n 0, 1) := by decide +kernel
theorem dX6_isMan_6 : decode cX6_isMan 6 = .ok (.getfield 142, 3) := by decide +kernel
theorem dX6_isMan_9 : decode cX6_isMan 9 = .ok (.if_icmp .ge 7, 3) := by decide +kernel
theorem dX6_isMan_12 : decode cX6_isMan 12 = .ok (.iconst 1, 1) := by decide +kernel
theorem dX6_isMan_13 : decode cX6_isMan 13 = .ok (.goto 4, 3) := by decide +kernel
theorem dX6_isMan_16 : decode cX6_isMan 16 = .ok (.iconst 0, 1) := by decide +kernel
theorem dX6_isMan_17 : decode cX6_isMan 17 = .ok (.ireturn, 1) := by decide +kernel
theorem dX6_found_0 : decode cX6_found 0 = .ok (.aload_n 0, 1) := by decide +kernel
theorem dX6_found_1 : decode cX6_found 1 = .ok (.iconst 0, 1) := by decide +kernel
theorem dX6_found_2 : decode cX6_found 2 = .ok (.putfield 75, 3) := by decide +kernel
theorem dX6_found_5 : decode cX6_found 5 = .ok (.aload_n 0, 1) := by decide +kernel
theorem dX6_found_6 : decode cX6_found 6 = .ok (.iload_n 1, 1) := by decide +kernel
theorem dX6_found_7 : decode cX6_found 7 = .ok (.invokevirtual 145, 3) := by decide +kernel
theorem dX6_found_10 : decode cX6_found 10 = .ok (.ifCond .eq 18, 3) := by decide +kernel
theorem dX6_found_13 : decode cX6_found 13 = .ok (.iload_n 2, 1) := by decide +kernel
theorem dX6_found_14 : decode cX6_found 14 = .ok (.iconst 1, 1) := by decide +kernel
theorem dX6_found_15 : decode cX6_found 15 = .ok (.if_icmp .lt 13, 3) := by decide +kernel
theorem dX6_found_18 : decode cX6_found 18 = .ok (.iload_n 2, 1) := by decide +kernel
theorem dX6_found_19 : decode cX6_found 19 = .ok (.aload_n 0, 1) := by decide +kernel
theorem dX6_found_20 : decode cX6_found 20 = .ok (.getfield 32, 3) := by decide +kernel
theorem dX6_found_23 : decode cX6_found 23 = .ok (.iload_n 1, 1) := by decide +kernel
theorem dX6_found_24 : decode cX6_found 24 = .ok (.iaload, 1) := by decide +kernel
theorem dX6_found_25 : decode cX6_found 25 = .ok (.if_icmp .le 5, 3) := by decide +kernel
theorem dX6_found_28 : decode cX6_found 28 = .ok (.iconst 0, 1) := by decide +kernel
theorem dX6_found_29 : decode cX6_found 29 = .ok (.ireturn, 1) := by decide +kernel
theorem dX6_found_30 : decode cX6_found 30 = .ok (.aload_n 0, 1) := by decide +kernel
theorem dX6_found_31 : decode cX6_found 31 = .ok (.getfield 32, 3) := by decide +kernel
theorem dX6_found_34 : decode cX6_found 34 = .ok (.iload_n 1, 1) := by decide +kernel
theorem dX6_found_35 : decode cX6_found 35 = .ok (.dup2, 1) := by decide +kernel
theorem dX6_found_36 : decode cX6_found 36 = .ok (.iaload, 1) := by decide +kernel
theorem dX6_found_37 : decode cX6_found 37 = .ok (.iload_n 2, 1) := by decide +kernel
theorem dX6_found_38 : decode cX6_found 38 = .ok (.isub, 1) := by decide +kernel
theorem dX6_found_39 : decode cX6_found 39 = .ok (.iastore, 1) := by decide +kernel
theorem dX6_found_40 : decode cX6_found 40 = .ok (.aload_n 0, 1) := by decide +kernel
theorem dX6_found_41 : decode cX6_found 41 = .ok (.getfield 29, 3) := by decide +kernel
theorem dX6_found_44 : decode cX6_found 44 = .ok (.iload_n 1, 1) := by decide +kernel
theorem dX6_found_45 : decode cX6_found 45 = .ok (.dup2, 1) := by decide +kernel
theorem dX6_found_46 : decode cX6_found 46 = .ok (.iaload, 1) := by decide +kernel
theorem dX6_found_47 : decode cX6_found 47 = .ok (.iload_n 2, 1) := by decide +kernel
theorem dX6_found_48 : decode cX6_found 48 = .ok (.iadd, 1) := by decide +kernel
theorem dX6_found_49 : decode cX6_found 49 = .ok (.iastore, 1) := by decide +kernel
theorem dX6_found_50 : decode cX6_found 50 = .ok (.iconst 1, 1) := by decide +kernel
theorem dX6_found_51 : decode cX6_found 51 = .ok (.ireturn, 1) := by decide +kernel
theorem dX6_bears_0 : decode cX6_bears 0 = .ok (.iconst 0, 1) := by decide +kernel
theorem dX6_bears_1 : decode cX6_bears 1 = .ok (.istore_n 3, 1) := by decide +kernel
theorem dX6_bears_2 : decode cX6_bears 2 = .ok (.iload_n 3, 1) := by decide +kernel
theorem dX6_bears_3 : decode cX6_bears 3 = .ok (.aload_n 0, 1) := by decide +kernel
theorem dX6_bears_4 : decode cX6_bears 4 = .ok (.getfield 139, 3) := by decide +kernel
theorem dX6_bears_7 : decode cX6_bears 7 = .ok (.if_icmp .ge 23, 3) := by decide +kernel
theorem dX6_bears_10 : decode cX6_bears 10 = .ok (.aload_n 0, 1) := by decide +kernel
theorem dX6_bears_11 : decode cX6_bears 11 = .ok (.getfield 41, 3) := by decide +kernel
theorem dX6_bears_14 : decode cX6_bears 14 = .ok (.iload_n 2, 1) := by decide +kernel
theorem dX6_bears_15 : decode cX6_bears 15 = .ok (.iload_n 3, 1) := by decide +kernel
theorem dX6_bears_16 : decode cX6_bears 16 = .ok (.iadd, 1) := by decide +kernel
theorem dX6_bears_17 : decode cX6_bears 17 = .ok (.iaload, 1) := by decide +kernel
theorem dX6_bears_18 : decode cX6_bears 18 = .ok (.iload_n 1, 1) := by decide +kernel
theorem dX6_bears_19 : decode cX6_bears 19 = .ok (.if_icmp .ne 5, 3) := by decide +kernel
theorem dX6_bears_22 : decode cX6_bears 22 = .ok (.iload_n 3, 1) := by decide +kernel
theorem dX6_bears_23 : decode cX6_bears 23 = .ok (.ireturn, 1) := by decide +kernel
theorem dX6_bears_24 : decode cX6_bears 24 = .ok (.iinc 3 1, 3) := by decide +kernel
theorem dX6_bears_27 : decode cX6_bears 27 = .ok (.goto (-25), 3) := by decide +kernel
theorem dX6_bears_30 : decode cX6_bears 30 = .ok (.iconst (-1), 1) := by decide +kernel
theorem dX6_bears_31 : decode cX6_bears 31 = .ok (.ireturn, 1) := by decide +kernel
theorem dX6_isFit_0 : decode cX6_isFit 0 = .ok (.aload_n 0, 1) := by decide +kernel
theorem dX6_isFit_1 : decode cX6_isFit 1 = .ok (.getfield 29, 3) := by decide +kernel
theorem dX6_isFit_4 : decode cX6_isFit 4 = .ok (.iload_n 2, 1) := by decide +kernel
theorem dX6_isFit_5 : decode cX6_isFit 5 = .ok (.iload_n 1, 1) := by decide +kernel
theorem dX6_isFit_6 : decode cX6_isFit 6 = .ok (.iadd, 1) := by decide +kernel
theorem dX6_isFit_7 : decode cX6_isFit 7 = .ok (.iaload, 1) := by decide +kernel
theorem dX6_isFit_8 : decode cX6_isFit 8 = .ok (.aload_n 0, 1) := by decide +kernel
theorem dX6_isFit_9 : decode cX6_isFit 9 = .ok (.getfield 19, 3) := by decide +kernel
theorem dX6_isFit_12 : decode cX6_isFit 12 = .ok (.iconst 1, 1) := by decide +kernel
theorem dX6_isFit_13 : decode cX6_isFit 13 = .ok (.iaload, 1) := by decide +kernel
theorem dX6_isFit_14 : decode cX6_isFit 14 = .ok (.if_icmp .lt 29, 3) := by decide +kernel
theorem dX6_isFit_17 : decode cX6_isFit 17 = .ok (.aload_n 0, 1) := by decide +kernel
theorem dX6_isFit_18 : decode cX6_isFit 18 = .ok (.getfield 35, 3) := by decide +kernel
theorem dX6_isFit_21 : decode cX6_isFit 21 = .ok (.iload_n 2, 1) := by decide +kernel
theorem dX6_isFit_22 : decode cX6_isFit 22 = .ok (.iload_n 1, 1) := by decide +kernel
theorem dX6_isFit_23 : decode cX6_isFit 23 = .ok (.iadd, 1) := by decide +kernel
theorem dX6_isFit_24 : decode cX6_isFit 24 = .ok (.iaload, 1) := by decide +kernel
theorem dX6_isFit_25 : decode cX6_isFit 25 = .ok (.iload 4, 2) := by decide +kernel
theorem dX6_isFit_27 : decode cX6_isFit 27 = .ok (.if_icmp .gt 16, 3) := by decide +kernel
theorem dX6_isFit_30 : decode cX6_isFit 30 = .ok (.aload_n 0, 1) := by decide +kernel
theorem dX6_isFit_31 : decode cX6_isFit 31 = .ok (.iload_n 1, 1) := by decide +kernel
theorem dX6_isFit_32 : decode cX6_isFit 32 = .ok (.iload_n 3, 1) := by decide +kernel
theorem dX6_isFit_33 : decode cX6_isFit 33 = .ok (.invokevirtual 148, 3) := by decide +kernel
theorem dX6_isFit_36 : decode cX6_isFit 36 = .ok (.ifCond .ge 7, 3) := by decide +kernel
theorem dX6_isFit_39 : decode cX6_isFit 39 = .ok (.iconst 1, 1) := by decide +kernel
theorem dX6_isFit_40 : decode cX6_isFit 40 = .ok (.goto 4, 3) := by decide +kernel
theorem dX6_isFit_43 : decode cX6_isFit 43 = .ok (.iconst 0, 1) := by decide +kernel
theorem dX6_isFit_44 : decode cX6_isFit 44 = .ok (.ireturn, 1) := by decide +kernel
theorem dX6_fails_0 : decode cX6_fails 0 = .ok (.aload_n 0, 1) := by decide +kernel
theorem dX6_fails_1 : decode cX6_fails 1 = .ok (.iload_n 1, 1) := by decide +kernel
theorem dX6_fails_2 : decode cX6_fails 2 = .ok (.putfield 75, 3) := by decide +kernel
theorem dX6_fails_5 : decode cX6_fails 5 = .ok (.iconst 0, 1) := by decide +kernel
theorem dX6_fails_6 : decode cX6_fails 6 = .ok (.ireturn, 1) := by decide +kernel
theorem dX6_look_0 : decode cX6_look 0 = .ok (.aload_n 0, 1) := by decide +kernel
theorem dX6_look_1 : decode cX6_look 1 = .ok (.iconst 0, 1) := by decide +kernel
theorem dX6_look_2 : decode cX6_look 2 = .ok (.putfield 75, 3) := by decide +kernel
theorem dX6_look_5 : decode cX6_look 5 = .ok (.aload_n 0, 1) := by decide +kernel
theorem dX6_look_6 : decode cX6_look 6 = .ok (.iload_n 1, 1) := by decide +kernel
theorem dX6_look_7 : decode cX6_look 7 = .ok (.invokevirtual 145, 3) := by decide +kernel
theorem dX6_look_10 : decode cX6_look 10 = .ok (.ifCond .ne 9, 3) := by decide +kernel
theorem dX6_look_13 : decode cX6_look 13 = .ok (.aload_n 0, 1) := by decide +kernel
theorem dX6_look_14 : decode cX6_look 14 = .ok (.iconst 1, 1) := by decide +kernel
theorem dX6_look_15 : decode cX6_look 15 = .ok (.invokevirtual 151, 3) := by decide +kernel
theorem dX6_look_18 : decode cX6_look 18 = .ok (.ireturn, 1) := by decide +kernel
theorem dX6_look_19 : decode cX6_look 19 = .ok (.iload_n 2, 1) := by decide +kernel
theorem dX6_look_20 : decode cX6_look 20 = .ok (.tableswitch 115 0 5 #[40, 47, 54, 72, 79, 86], 40) := by decide +kernel
theorem dX6_look_60 : decode cX6_look 60 = .ok (.aload_n 0, 1) := by decide +kernel
theorem dX6_look_61 : decode cX6_look 61 = .ok (.getfield 29, 3) := by decide +kernel
theorem dX6_look_64 : decode cX6_look 64 = .ok (.iload_n 1, 1) := by decide +kernel
theorem dX6_look_65 : decode cX6_look 65 = .ok (.iaload, 1) := by decide +kernel
theorem dX6_look_66 : decode cX6_look 66 = .ok (.ireturn, 1) := by decide +kernel
theorem dX6_look_67 : decode cX6_look 67 = .ok (.aload_n 0, 1) := by decide +kernel
theorem dX6_look_68 : decode cX6_look 68 = .ok (.getfield 32, 3) := by decide +kernel
theorem dX6_look_71 : decode cX6_look 71 = .ok (.iload_n 1, 1) := by decide +kernel
theorem dX6_look_72 : decode cX6_look 72 = .ok (.iaload, 1) := by decide +kernel
theorem dX6_look_73 : decode cX6_look 73 = .ok (.ireturn, 1) := by decide +kernel
theorem dX6_look_74 : decode cX6_look 74 = .ok (.aload_n 0, 1) := by decide +kernel
theorem dX6_look_75 : decode cX6_look 75 = .ok (.getfield 132, 3) := by decide +kernel
theorem dX6_look_78 : decode cX6_look 78 = .ok (.ifCond .eq 12, 3) := by decide +kernel
theorem dX6_look_81 : decode cX6_look 81 = .ok (.aload_n 0, 1) := by decide +kernel
theorem dX6_look_82 : decode cX6_look 82 = .ok (.iload_n 1, 1) := by decide +kernel
theorem dX6_look_83 : decode cX6_look 83 = .ok (.iconst 0, 1) := by decide +kernel
theorem dX6_look_84 : decode cX6_look 84 = .ok (.invokevirtual 148, 3) := by decide +kernel
theorem dX6_look_87 : decode cX6_look 87 = .ok (.goto 4, 3) := by decide +kernel
theorem dX6_look_90 : decode cX6_look 90 = .ok (.iconst (-1), 1) := by decide +kernel
theorem dX6_look_91 : decode cX6_look 91 = .ok (.ireturn, 1) := by decide +kernel
theorem dX6_look_92 : decode cX6_look 92 = .ok (.aload_n 0, 1) := by decide +kernel
theorem dX6_look_93 : decode cX6_look 93 = .ok (.getfield 35, 3) := by decide +kernel
theorem dX6_look_96 : decode cX6_look 96 = .ok (.iload_n 1, 1) := by decide +kernel
theorem dX6_look_97 : decode cX6_look 97 = .ok (.iaload, 1) := by decide +kernel
theorem dX6_look_98 : decode cX6_look 98 = .ok (.ireturn, 1) := by decide +kernel
theorem dX6_look_99 : decode cX6_look 99 = .ok (.aload_n 0, 1) := by decide +kernel
theorem dX6_look_100 : decode cX6_look 100 = .ok (.getfield 38, 3) := by decide +kernel
theorem dX6_look_103 : decode cX6_look 103 = .ok (.iload_n 1, 1) := by decide +kernel
theorem dX6_look_104 : decode cX6_look 104 = .ok (.iaload, 1) := by decide +kernel
theorem dX6_look_105 : decode cX6_look 105 = .ok (.ireturn, 1) := by decide +kernel
theorem dX6_look_106 : decode cX6_look 106 = .ok (.aload_n 0, 1) := by decide +kernel
theorem dX6_look_107 : decode cX6_look 107 = .ok (.getfield 132, 3) := by decide +kernel
theorem dX6_look_110 : decode cX6_look 110 = .ok (.ifCond .eq 23, 3) := by decide +kernel
theorem dX6_look_113 : decode cX6_look 113 = .ok (.aload_n 0, 1) := by decide +kernel
theorem dX6_look_114 : decode cX6_look 114 = .ok (.iload_n 1, 1) := by decide +kernel
theorem dX6_look_115 : decode cX6_look 115 = .ok (.iconst 0, 1) := by decide +kernel
theorem dX6_look_116 : decode cX6_look 116 = .ok (.iconst 0, 1) := by decide +kernel
theorem dX6_look_117 : decode cX6_look 117 = .ok (.aload_n 0, 1) := by decide +kernel
theorem dX6_look_118 : decode cX6_look 118 = .ok (.getfield 155, 3) := by decide +kernel
theorem dX6_look_121 : decode cX6_look 121 = .ok (.iconst 1, 1) := by decide +kernel
theorem dX6_look_122 : decode cX6_look 122 = .ok (.isub, 1) := by decide +kernel
theorem dX6_look_123 : decode cX6_look 123 = .ok (.invokevirtual 158, 3) := by decide +kernel
theorem dX6_look_126 : decode cX6_look 126 = .ok (.ifCond .eq 7, 3) := by decide +kernel
theorem dX6_look_129 : decode cX6_look 129 = .ok (.iconst 1, 1) := by decide +kernel
theorem dX6_look_130 : decode cX6_look 130 = .ok (.goto 4, 3) := by decide +kernel
theorem dX6_look_133 : decode cX6_look 133 = .ok (.iconst 0, 1) := by decide +kernel
theorem dX6_look_134 : decode cX6_look 134 = .ok (.ireturn, 1) := by decide +kernel
theorem dX6_look_135 : decode cX6_look 135 = .ok (.aload_n 0, 1) := by decide +kernel
theorem dX6_look_136 : decode cX6_look 136 = .ok (.iconst 2, 1) := by decide +kernel
theorem dX6_look_137 : decode cX6_look 137 = .ok (.invokevirtual 151, 3) := by decide +kernel
theorem dX6_look_140 : decode cX6_look 140 = .ok (.ireturn, 1) := by decide +kernel
theorem dX6_richest_0 : decode cX6_richest 0 = .ok (.aload_n 0, 1) := by decide +kernel
theorem dX6_richest_1 : decode cX6_richest 1 = .ok (.iconst 0, 1) := by decide +kernel
theorem dX6_richest_2 : decode cX6_richest 2 = .ok (.putfield 75, 3) := by decide +kernel
theorem dX6_richest_5 : decode cX6_richest 5 = .ok (.iload_n 1, 1) := by decide +kernel
theorem dX6_richest_6 : decode cX6_richest 6 = .ok (.ifCond .lt 11, 3) := by decide +kernel
theorem dX6_richest_9 : decode cX6_richest 9 = .ok (.iload_n 1, 1) := by decide +kernel
theorem dX6_richest_10 : decode cX6_richest 10 = .ok (.aload_n 0, 1) := by decide +kernel
theorem dX6_richest_11 : decode cX6_richest 11 = .ok (.getfield 142, 3) := by decide +kernel
theorem dX6_richest_14 : decode cX6_richest 14 = .ok (.if_icmp .lt 5, 3) := by decide +kernel
theorem dX6_richest_17 : decode cX6_richest 17 = .ok (.iconst (-1), 1) := by decide +kernel
theorem dX6_richest_18 : decode cX6_richest 18 = .ok (.ireturn, 1) := by decide +kernel
theorem dX6_richest_19 : decode cX6_richest 19 = .ok (.iconst 0, 1) := by decide +kernel
theorem dX6_richest_20 : decode cX6_richest 20 = .ok (.istore_n 2, 1) := by decide +kernel
theorem dX6_richest_21 : decode cX6_richest 21 = .ok (.iload_n 2, 1) := by decide +kernel
theorem dX6_richest_22 : decode cX6_richest 22 = .ok (.aload_n 0, 1) := by decide +kernel
theorem dX6_richest_23 : decode cX6_richest 23 = .ok (.getfield 142, 3) := by decide +kernel
theorem dX6_richest_26 : decode cX6_richest 26 = .ok (.if_icmp .ge 82, 3) := by decide +kernel
theorem dX6_richest_29 : decode cX6_richest 29 = .ok (.iconst 0, 1) := by decide +kernel
theorem dX6_richest_30 : decode cX6_richest 30 = .ok (.istore_n 3, 1) := by decide +kernel
theorem dX6_richest_31 : decode cX6_richest 31 = .ok (.iconst 0, 1) := by decide +kernel
theorem dX6_richest_32 : decode cX6_richest 32 = .ok (.istore 4, 2) := by decide +kernel
theorem dX6_richest_34 : decode cX6_richest 34 = .ok (.iload 4, 2) := by decide +kernel
theorem dX6_richest_36 : decode cX6_richest 36 = .ok (.aload_n 0, 1) := by decide +kernel
theorem dX6_richest_37 : decode cX6_richest 37 = .ok (.getfield 142, 3) := by decide +kernel
theorem dX6_richest_40 : decode cX6_richest 40 = .ok (.if_icmp .ge 55, 3) := by decide +kernel
theorem dX6_richest_43 : decode cX6_richest 43 = .ok (.iload_n 3, 1) := by decide +kernel
theorem dX6_richest_44 : decode cX6_richest 44 = .ok (.aload_n 0, 1) := by decide +kernel
theorem dX6_richest_45 : decode cX6_richest 45 = .ok (.getfield 29, 3) := by decide +kernel
theorem dX6_richest_48 : decode cX6_richest 48 = .ok (.iload 4, 2) := by decide +kernel
theorem dX6_richest_50 : decode cX6_richest 50 = .ok (.iaload, 1) := by decide +kernel
theorem dX6_richest_51 : decode cX6_richest 51 = .ok (.aload_n 0, 1) := by decide +kernel
theorem dX6_richest_52 : decode cX6_richest 52 = .ok (.getfield 29, 3) := by decide +kernel
theorem dX6_richest_55 : decode cX6_richest 55 = .ok (.iload_n 2, 1) := by decide +kernel
theorem dX6_richest_56 : decode cX6_richest 56 = .ok (.iaload, 1) := by decide +kernel
theorem dX6_richest_57 : decode cX6_richest 57 = .ok (.if_icmp .gt 25, 3) := by decide +kernel
theorem dX6_richest_60 : decode cX6_richest 60 = .ok (.aload_n 0, 1) := by decide +kernel
theorem dX6_richest_61 : decode cX6_richest 61 = .ok (.getfield 29, 3) := by decide +kernel
theorem dX6_richest_64 : decode cX6_richest 64 = .ok (.iload 4, 2) := by decide +kernel
theorem dX6_richest_66 : decode cX6_richest 66 = .ok (.iaload, 1) := by decide +kernel
theorem dX6_richest_67 : decode cX6_richest 67 = .ok (.aload_n 0, 1) := by decide +kernel
theorem dX6_richest_68 : decode cX6_richest 68 = .ok (.getfield 29, 3) := by decide +kernel
theorem dX6_richest_71 : decode cX6_richest 71 = .ok (.iload_n 2, 1) := by decide +kernel
theorem dX6_richest_72 : decode cX6_richest 72 = .ok (.iaload, 1) := by decide +kernel
theorem dX6_richest_73 : decode cX6_richest 73 = .ok (.if_icmp .ne 13, 3) := by decide +kernel
theorem dX6_richest_76 : decode cX6_richest 76 = .ok (.iload 4, 2) := by decide +kernel
theorem dX6_richest_78 : decode cX6_richest 78 = .ok (.iload_n 2, 1) := by decide +kernel
theorem dX6_richest_79 : decode cX6_richest 79 = .ok (.if_icmp .ge 7, 3) := by decide +kernel
theorem dX6_richest_82 : decode cX6_richest 82 = .ok (.iconst 1, 1) := by decide +kernel
theorem dX6_richest_83 : decode cX6_richest 83 = .ok (.goto 4, 3) := by decide +kernel
theorem dX6_richest_86 : decode cX6_richest 86 = .ok (.iconst 0, 1) := by decide +kernel
theorem dX6_richest_87 : decode cX6_richest 87 = .ok (.iadd, 1) := by decide +kernel
theorem dX6_richest_88 : decode cX6_richest 88 = .ok (.istore_n 3, 1) := by decide +kernel
theorem dX6_richest_89 : decode cX6_richest 89 = .ok (.iinc 4 1, 3) := by decide +kernel
theorem dX6_richest_92 : decode cX6_richest 92 = .ok (.goto (-58), 3) := by decide +kernel
theorem dX6_richest_95 : decode cX6_richest 95 = .ok (.iload_n 3, 1) := by decide +kernel
theorem dX6_richest_96 : decode cX6_richest 96 = .ok (.iload_n 1, 1) := by decide +kernel
theorem dX6_richest_97 : decode cX6_richest 97 = .ok (.if_icmp .ne 5, 3) := by decide +kernel
theorem dX6_richest_100 : decode cX6_richest 100 = .ok (.iload_n 2, 1) := by decide +kernel
theorem dX6_richest_101 : decode cX6_richest 101 = .ok (.ireturn, 1) := by decide +kernel
theorem dX6_richest_102 : decode cX6_richest 102 = .ok (.iinc 2 1, 3) := by decide +kernel
theorem dX6_richest_105 : decode cX6_richest 105 = .ok (.goto (-84), 3) := by decide +kernel
theorem dX6_richest_108 : decode cX6_richest 108 = .ok (.iconst (-1), 1) := by decide +kernel
theorem dX6_richest_109 : decode cX6_richest 109 = .ok (.ireturn, 1) := by decide +kernel
theorem dX6_place_0 : decode cX6_place 0 = .ok (.aload_n 0, 1) := by decide +kernel
theorem dX6_place_1 : decode cX6_place 1 = .ok (.iconst 0, 1) := by decide +kernel
theorem dX6_place_2 : decode cX6_place 2 = .ok (.putfield 75, 3) := by decide +kernel
theorem dX6_place_5 : decode cX6_place 5 = .ok (.iload_n 1, 1) := by decide +kernel
theorem dX6_place_6 : decode cX6_place 6 = .ok (.ifCond .lt 20, 3) := by decide +kernel
theorem dX6_place_9 : decode cX6_place 9 = .ok (.iload_n 1, 1) := by decide +kernel
theorem dX6_place_10 : decode cX6_place 10 = .ok (.aload_n 0, 1) := by decide +kernel
theorem dX6_place_11 : decode cX6_place 11 = .ok (.getfield 139, 3) := by decide +kernel
theorem dX6_place_14 : decode cX6_place 14 = .ok (.if_icmp .ge 12, 3) := by decide +kernel
theorem dX6_place_17 : decode cX6_place 17 = .ok (.iload_n 2, 1) := by decide +kernel
theorem dX6_place_18 : decode cX6_place 18 = .ok (.ifCond .lt 8, 3) := by decide +kernel
theorem dX6_place_21 : decode cX6_place 21 = .ok (.iload_n 2, 1) := by decide +kernel
theorem dX6_place_22 : decode cX6_place 22 = .ok (.iconst 1, 1) := by decide +kernel
theorem dX6_place_23 : decode cX6_place 23 = .ok (.if_icmp .le 6, 3) := by decide +kernel
theorem dX6_place_26 : decode cX6_place 26 = .ok (.bipush (-2), 2) := by decide +kernel
theorem dX6_place_28 : decode cX6_place 28 = .ok (.ireturn, 1) := by decide +kernel
theorem dX6_place_29 : decode cX6_place 29 = .ok (.iload_n 2, 1) := by decide +kernel
theorem dX6_place_30 : decode cX6_place 30 = .ok (.ifCond .ne 12, 3) := by decide +kernel
theorem dX6_place_33 : decode cX6_place 33 = .ok (.aload_n 0, 1) := by decide +kernel
theorem dX6_place_34 : decode cX6_place 34 = .ok (.getfield 22, 3) := by decide +kernel
theorem dX6_place_37 : decode cX6_place 37 = .ok (.iload_n 1, 1) := by decide +kernel
theorem dX6_place_38 : decode cX6_place 38 = .ok (.iaload, 1) := by decide +kernel
theorem dX6_place_39 : decode cX6_place 39 = .ok (.goto 20, 3) := by decide +kernel
theorem dX6_place_42 : decode cX6_place 42 = .ok (.aload_n 0, 1) := by decide +kernel
theorem dX6_place_43 : decode cX6_place 43 = .ok (.getfield 132, 3) := by decide +kernel
theorem dX6_place_46 : decode cX6_place 46 = .ok (.ifCond .eq 12, 3) := by decide +kernel
theorem dX6_place_49 : decode cX6_place 49 = .ok (.aload_n 0, 1) := by decide +kernel
theorem dX6_place_50 : decode cX6_place 50 = .ok (.getfield 41, 3) := by decide +kernel
theorem dX6_place_53 : decode cX6_place 53 = .ok (.iload_n 1, 1) := by decide +kernel
theorem dX6_place_54 : decode cX6_place 54 = .ok (.iaload, 1) := by decide +kernel
theorem dX6_place_55 : decode cX6_place 55 = .ok (.goto 4, 3) := by decide +kernel
theorem dX6_place_58 : decode cX6_place 58 = .ok (.iconst (-1), 1) := by decide +kernel
theorem dX6_place_59 : decode cX6_place 59 = .ok (.ireturn, 1) := by decide +kernel
theorem dX6_fill_0 : decode cX6_fill 0 = .ok (.iconst 0, 1) := by decide +kernel
theorem dX6_fill_1 : decode cX6_fill 1 = .ok (.istore 4, 2) := by decide +kernel
theorem dX6_fill_3 : decode cX6_fill 3 = .ok (.iconst 0, 1) := by decide +kernel
theorem dX6_fill_4 : decode cX6_fill 4 = .ok (.istore 5, 2) := by decide +kernel
theorem dX6_fill_6 : decode cX6_fill 6 = .ok (.iload 5, 2) := by decide +kernel
theorem dX6_fill_8 : decode cX6_fill 8 = .ok (.aload_n 0, 1) := by decide +kernel
theorem dX6_fill_9 : decode cX6_fill 9 = .ok (.getfield 139, 3) := by decide +kernel
theorem dX6_fill_12 : decode cX6_fill 12 = .ok (.if_icmp .ge 19, 3) := by decide +kernel
theorem dX6_fill_15 : decode cX6_fill 15 = .ok (.aload_n 0, 1) := by decide +kernel
theorem dX6_fill_16 : decode cX6_fill 16 = .ok (.getfield 41, 3) := by decide +kernel
theorem dX6_fill_19 : decode cX6_fill 19 = .ok (.iload_n 2, 1) := by decide +kernel
theorem dX6_fill_20 : decode cX6_fill 20 = .ok (.iload 5, 2) := by decide +kernel
theorem dX6_fill_22 : decode cX6_fill 22 = .ok (.iadd, 1) := by decide +kernel
theorem dX6_fill_23 : decode cX6_fill 23 = .ok (.iconst (-1), 1) := by decide +kernel
theorem dX6_fill_24 : decode cX6_fill 24 = .ok (.iastore, 1) := by decide +kernel
theorem dX6_fill_25 : decode cX6_fill 25 = .ok (.iinc 5 1, 3) := by decide +kernel
theorem dX6_fill_28 : decode cX6_fill 28 = .ok (.goto (-22), 3) := by decide +kernel
theorem dX6_fill_31 : decode cX6_fill 31 = .ok (.iconst 0, 1) := by decide +kernel
theorem dX6_fill_32 : decode cX6_fill 32 = .ok (.istore 5, 2) := by decide +kernel
theorem dX6_fill_34 : decode cX6_fill 34 = .ok (.iload 5, 2) := by decide +kernel
theorem dX6_fill_36 : decode cX6_fill 36 = .ok (.aload_n 0, 1) := by decide +kernel
theorem dX6_fill_37 : decode cX6_fill 37 = .ok (.getfield 139, 3) := by decide +kernel
theorem dX6_fill_40 : decode cX6_fill 40 = .ok (.if_icmp .ge 98, 3) := by decide +kernel
theorem dX6_fill_43 : decode cX6_fill 43 = .ok (.iconst (-1), 1) := by decide +kernel
theorem dX6_fill_44 : decode cX6_fill 44 = .ok (.istore 6, 2) := by decide +kernel
theorem dX6_fill_46 : decode cX6_fill 46 = .ok (.iconst 0, 1) := by decide +kernel
theorem dX6_fill_47 : decode cX6_fill 47 = .ok (.istore 7, 2) := by decide +kernel
theorem dX6_fill_49 : decode cX6_fill 49 = .ok (.iload 7, 2) := by decide +kernel
theorem dX6_fill_51 : decode cX6_fill 51 = .ok (.aload_n 0, 1) := by decide +kernel
theorem dX6_fill_52 : decode cX6_fill 52 = .ok (.getfield 142, 3) := by decide +kernel
theorem dX6_fill_55 : decode cX6_fill 55 = .ok (.if_icmp .ge 51, 3) := by decide +kernel
theorem dX6_fill_58 : decode cX6_fill 58 = .ok (.aload_n 0, 1) := by decide +kernel
theorem dX6_fill_59 : decode cX6_fill 59 = .ok (.iload 7, 2) := by decide +kernel
theorem dX6_fill_61 : decode cX6_fill 61 = .ok (.iload_n 1, 1) := by decide +kernel
theorem dX6_fill_62 : decode cX6_fill 62 = .ok (.iload_n 2, 1) := by decide +kernel
theorem dX6_fill_63 : decode cX6_fill 63 = .ok (.iload_n 3, 1) := by decide +kernel
theorem dX6_fill_64 : decode cX6_fill 64 = .ok (.invokevirtual 158, 3) := by decide +kernel
theorem dX6_fill_67 : decode cX6_fill 67 = .ok (.ifCond .eq 33, 3) := by decide +kernel
theorem dX6_fill_70 : decode cX6_fill 70 = .ok (.iload 6, 2) := by decide +kernel
theorem dX6_fill_72 : decode cX6_fill 72 = .ok (.ifCond .lt 24, 3) := by decide +kernel
theorem dX6_fill_75 : decode cX6_fill 75 = .ok (.aload_n 0, 1) := by decide +kernel
theorem dX6_fill_76 : decode cX6_fill 76 = .ok (.getfield 29, 3) := by decide +kernel
theorem dX6_fill_79 : decode cX6_fill 79 = .ok (.iload_n 1, 1) := by decide +kernel
theorem dX6_fill_80 : decode cX6_fill 80 = .ok (.iload 7, 2) := by decide +kernel
theorem dX6_fill_82 : decode cX6_fill 82 = .ok (.iadd, 1) := by decide +kernel
theorem dX6_fill_83 : decode cX6_fill 83 = .ok (.iaload, 1) := by decide +kernel
theorem dX6_fill_84 : decode cX6_fill 84 = .ok (.aload_n 0, 1) := by decide +kernel
theorem dX6_fill_85 : decode cX6_fill 85 = .ok (.getfield 29, 3) := by decide +kernel
theorem dX6_fill_88 : decode cX6_fill 88 = .ok (.iload_n 1, 1) := by decide +kernel
theorem dX6_fill_89 : decode cX6_fill 89 = .ok (.iload 6, 2) := by decide +kernel
theorem dX6_fill_91 : decode cX6_fill 91 = .ok (.iadd, 1) := by decide +kernel
theorem dX6_fill_92 : decode cX6_fill 92 = .ok (.iaload, 1) := by decide +kernel
theorem dX6_fill_93 : decode cX6_fill 93 = .ok (.if_icmp .le 7, 3) := by decide +kernel
theorem dX6_fill_96 : decode cX6_fill 96 = .ok (.iload 7, 2) := by decide +kernel
theorem dX6_fill_98 : decode cX6_fill 98 = .ok (.istore 6, 2) := by decide +kernel
theorem dX6_fill_100 : decode cX6_fill 100 = .ok (.iinc 7 1, 3) := by decide +kernel
theorem dX6_fill_103 : decode cX6_fill 103 = .ok (.goto (-54), 3) := by decide +kernel
theorem dX6_fill_106 : decode cX6_fill 106 = .ok (.aload_n 0, 1) := by decide +kernel
theorem dX6_fill_107 : decode cX6_fill 107 = .ok (.getfield 41, 3) := by decide +kernel
theorem dX6_fill_110 : decode cX6_fill 110 = .ok (.iload_n 2, 1) := by decide +kernel
theorem dX6_fill_111 : decode cX6_fill 111 = .ok (.iload 5, 2) := by decide +kernel
theorem dX6_fill_113 : decode cX6_fill 113 = .ok (.iadd, 1) := by decide +kernel
theorem dX6_fill_114 : decode cX6_fill 114 = .ok (.iload 6, 2) := by decide +kernel
theorem dX6_fill_116 : decode cX6_fill 116 = .ok (.iastore, 1) := by decide +kernel
theorem dX6_fill_117 : decode cX6_fill 117 = .ok (.iload 4, 2) := by decide +kernel
theorem dX6_fill_119 : decode cX6_fill 119 = .ok (.iload 6, 2) := by decide +kernel
theorem dX6_fill_121 : decode cX6_fill 121 = .ok (.ifCond .ge 7, 3) := by decide +kernel
theorem dX6_fill_124 : decode cX6_fill 124 = .ok (.iconst 1, 1) := by decide +kernel
theorem dX6_fill_125 : decode cX6_fill 125 = .ok (.goto 4, 3) := by decide +kernel
theorem dX6_fill_128 : decode cX6_fill 128 = .ok (.iconst 0, 1) := by decide +kernel
theorem dX6_fill_129 : decode cX6_fill 129 = .ok (.iadd, 1) := by decide +kernel
theorem dX6_fill_130 : decode cX6_fill 130 = .ok (.istore 4, 2) := by decide +kernel
theorem dX6_fill_132 : decode cX6_fill 132 = .ok (.iinc 5 1, 3) := by decide +kernel
theorem dX6_fill_135 : decode cX6_fill 135 = .ok (.goto (-101), 3) := by decide +kernel
theorem dX6_fill_138 : decode cX6_fill 138 = .ok (.iload 4, 2) := by decide +kernel
theorem dX6_fill_140 : decode cX6_fill 140 = .ok (.ireturn, 1) := by decide +kernel
theorem dX6_begin_0 : decode cX6_begin 0 = .ok (.aload_n 0, 1) := by decide +kernel
theorem dX6_begin_1 : decode cX6_begin 1 = .ok (.iconst 0, 1) := by decide +kernel
theorem dX6_begin_2 : decode cX6_begin 2 = .ok (.putfield 75, 3) := by decide +kernel
theorem dX6_begin_5 : decode cX6_begin 5 = .ok (.aload_n 0, 1) := by decide +kernel
theorem dX6_begin_6 : decode cX6_begin 6 = .ok (.getfield 132, 3) := by decide +kernel
theorem dX6_begin_9 : decode cX6_begin 9 = .ok (.ifCond .ne 12, 3) := by decide +kernel
theorem dX6_begin_12 : decode cX6_begin 12 = .ok (.aload_n 0, 1) := by decide +kernel
theorem dX6_begin_13 : decode cX6_begin 13 = .ok (.getfield 155, 3) := by decide +kernel
theorem dX6_begin_16 : decode cX6_begin 16 = .ok (.bipush 40, 2) := by decide +kernel
theorem dX6_begin_18 : decode cX6_begin 18 = .ok (.if_icmp .ne 5, 3) := by decide +kernel
theorem dX6_begin_21 : decode cX6_begin 21 = .ok (.iconst (-1), 1) := by decide +kernel
theorem dX6_begin_22 : decode cX6_begin 22 = .ok (.ireturn, 1) := by decide +kernel
theorem dX6_begin_23 : decode cX6_begin 23 = .ok (.aload_n 0, 1) := by decide +kernel
theorem dX6_begin_24 : decode cX6_begin 24 = .ok (.iconst 1, 1) := by decide +kernel
theorem dX6_begin_25 : decode cX6_begin 25 = .ok (.putfield 132, 3) := by decide +kernel
theorem dX6_begin_28 : decode cX6_begin 28 = .ok (.aload_n 0, 1) := by decide +kernel
theorem dX6_begin_29 : decode cX6_begin 29 = .ok (.dup, 1) := by decide +kernel
theorem dX6_begin_30 : decode cX6_begin 30 = .ok (.getfield 155, 3) := by decide +kernel
theorem dX6_begin_33 : decode cX6_begin 33 = .ok (.iconst 1, 1) := by decide +kernel
theorem dX6_begin_34 : decode cX6_begin 34 = .ok (.iadd, 1) := by decide +kernel
theorem dX6_begin_35 : decode cX6_begin 35 = .ok (.putfield 155, 3) := by decide +kernel
theorem dX6_begin_38 : decode cX6_begin 38 = .ok (.aload_n 0, 1) := by decide +kernel
theorem dX6_begin_39 : decode cX6_begin 39 = .ok (.iconst 0, 1) := by decide +kernel
theorem dX6_begin_40 : decode cX6_begin 40 = .ok (.putfield 162, 3) := by decide +kernel
theorem dX6_begin_43 : decode cX6_begin 43 = .ok (.aload_n 0, 1) := by decide +kernel
theorem dX6_begin_44 : decode cX6_begin 44 = .ok (.iconst 0, 1) := by decide +kernel
theorem dX6_begin_45 : decode cX6_begin 45 = .ok (.putfield 165, 3) := by decide +kernel
theorem dX6_begin_48 : decode cX6_begin 48 = .ok (.aload_n 0, 1) := by decide +kernel
theorem dX6_begin_49 : decode cX6_begin 49 = .ok (.iconst 0, 1) := by decide +kernel
theorem dX6_begin_50 : decode cX6_begin 50 = .ok (.iconst 0, 1) := by decide +kernel
theorem dX6_begin_51 : decode cX6_begin 51 = .ok (.aload_n 0, 1) := by decide +kernel
theorem dX6_begin_52 : decode cX6_begin 52 = .ok (.getfield 155, 3) := by decide +kernel
theorem dX6_begin_55 : decode cX6_begin 55 = .ok (.iconst 1, 1) := by decide +kernel
theorem dX6_begin_56 : decode cX6_begin 56 = .ok (.isub, 1) := by decide +kernel
theorem dX6_begin_57 : decode cX6_begin 57 = .ok (.invokevirtual 168, 3) := by decide +kernel
theorem dX6_begin_60 : decode cX6_begin 60 = .ok (.istore_n 1, 1) := by decide +kernel
theorem dX6_begin_61 : decode cX6_begin 61 = .ok (.iconst 0, 1) := by decide +kernel
theorem dX6_begin_62 : decode cX6_begin 62 = .ok (.istore_n 2, 1) := by decide +kernel
theorem dX6_begin_63 : decode cX6_begin 63 = .ok (.iload_n 2, 1) := by decide +kernel
theorem dX6_begin_64 : decode cX6_begin 64 = .ok (.sipush 288, 3) := by decide +kernel
theorem dX6_begin_67 : decode cX6_begin 67 = .ok (.if_icmp .ge 16, 3) := by decide +kernel
theorem dX6_begin_70 : decode cX6_begin 70 = .ok (.aload_n 0, 1) := by decide +kernel
theorem dX6_begin_71 : decode cX6_begin 71 = .ok (.getfield 44, 3) := by decide +kernel
theorem dX6_begin_74 : decode cX6_begin 74 = .ok (.iload_n 2, 1) := by decide +kernel
theorem dX6_begin_75 : decode cX6_begin 75 = .ok (.iconst 0, 1) := by decide +kernel
theorem dX6_begin_76 : decode cX6_begin 76 = .ok (.bastore, 1) := by decide +kernel
theorem dX6_begin_77 : decode cX6_begin 77 = .ok (.iinc 2 1, 3) := by decide +kernel
theorem dX6_begin_80 : decode cX6_begin 80 = .ok (.goto (-17), 3) := by decide +kernel
theorem dX6_begin_83 : decode cX6_begin 83 = .ok (.iconst 0, 1) := by decide +kernel
theorem dX6_begin_84 : decode cX6_begin 84 = .ok (.istore_n 2, 1) := by decide +kernel
theorem dX6_begin_85 : decode cX6_begin 85 = .ok (.iload_n 2, 1) := by decide +kernel
theorem dX6_begin_86 : decode cX6_begin 86 = .ok (.aload_n 0, 1) := by decide +kernel
theorem dX6_begin_87 : decode cX6_begin 87 = .ok (.getfield 139, 3) := by decide +kernel
theorem dX6_begin_90 : decode cX6_begin 90 = .ok (.if_icmp .ge 35, 3) := by decide +kernel
theorem dX6_begin_93 : decode cX6_begin 93 = .ok (.aload_n 0, 1) := by decide +kernel
theorem dX6_begin_94 : decode cX6_begin 94 = .ok (.getfield 41, 3) := by decide +kernel
theorem dX6_begin_97 : decode cX6_begin 97 = .ok (.iload_n 2, 1) := by decide +kernel
theorem dX6_begin_98 : decode cX6_begin 98 = .ok (.iaload, 1) := by decide +kernel
theorem dX6_begin_99 : decode cX6_begin 99 = .ok (.ifCond .lt 20, 3) := by decide +kernel
theorem dX6_begin_102 : decode cX6_begin 102 = .ok (.aload_n 0, 1) := by decide +kernel
theorem dX6_begin_103 : decode cX6_begin 103 = .ok (.getfield 44, 3) := by decide +kernel
theorem dX6_begin_106 : decode cX6_begin 106 = .ok (.bipush 24, 2) := by decide +kernel
theorem dX6_begin_108 : decode cX6_begin 108 = .ok (.aload_n 0, 1) := by decide +kernel
theorem dX6_begin_109 : decode cX6_begin 109 = .ok (.getfield 41, 3) := by decide +kernel
theorem dX6_begin_112 : decode cX6_begin 112 = .ok (.iload_n 2, 1) := by decide +kernel
theorem dX6_begin_113 : decode cX6_begin 113 = .ok (.iaload, 1) := by decide +kernel
theorem dX6_begin_114 : decode cX6_begin 114 = .ok (.imul, 1) := by decide +kernel
theorem dX6_begin_115 : decode cX6_begin 115 = .ok (.iload_n 2, 1) := by decide +kernel
theorem dX6_begin_116 : decode cX6_begin 116 = .ok (.iadd, 1) := by decide +kernel
theorem dX6_begin_117 : decode cX6_begin 117 = .ok (.iconst 1, 1) := by decide +kernel
theorem dX6_begin_118 : decode cX6_begin 118 = .ok (.bastore, 1) := by decide +kernel
theorem dX6_begin_119 : decode cX6_begin 119 = .ok (.iinc 2 1, 3) := by decide +kernel
theorem dX6_begin_122 : decode cX6_begin 122 = .ok (.goto (-37), 3) := by decide +kernel
theorem dX6_begin_125 : decode cX6_begin 125 = .ok (.iload_n 1, 1) := by decide +kernel
theorem dX6_begin_126 : decode cX6_begin 126 = .ok (.ireturn, 1) := by decide +kernel
theorem dX6_pays_0 : decode cX6_pays 0 = .ok (.aload_n 0, 1) := by decide +kernel
theorem dX6_pays_1 : decode cX6_pays 1 = .ok (.getfield 22, 3) := by decide +kernel
theorem dX6_pays_4 : decode cX6_pays 4 = .ok (.iload_n 1, 1) := by decide +kernel
theorem dX6_pays_5 : decode cX6_pays 5 = .ok (.iaload, 1) := by decide +kernel
theorem dX6_pays_6 : decode cX6_pays 6 = .ok (.istore_n 3, 1) := by decide +kernel
theorem dX6_pays_7 : decode cX6_pays 7 = .ok (.iconst 0, 1) := by decide +kernel
theorem dX6_pays_8 : decode cX6_pays 8 = .ok (.istore 4, 2) := by decide +kernel
theorem dX6_pays_10 : decode cX6_pays 10 = .ok (.iconst 0, 1) := by decide +kernel
theorem dX6_pays_11 : decode cX6_pays 11 = .ok (.istore 5, 2) := by decide +kernel
theorem dX6_pays_13 : decode cX6_pays 13 = .ok (.iload 5, 2) := by decide +kernel
theorem dX6_pays_15 : decode cX6_pays 15 = .ok (.iload_n 1, 1) := by decide +kernel
theorem dX6_pays_16 : decode cX6_pays 16 = .ok (.if_icmp .ge 42, 3) := by decide +kernel
theorem dX6_pays_19 : decode cX6_pays 19 = .ok (.iload 4, 2) := by decide +kernel
theorem dX6_pays_21 : decode cX6_pays 21 = .ok (.aload_n 0, 1) := by decide +kernel
theorem dX6_pays_22 : decode cX6_pays 22 = .ok (.getfield 22, 3) := by decide +kernel
theorem dX6_pays_25 : decode cX6_pays 25 = .ok (.iload 5, 2) := by decide +kernel
theorem dX6_pays_27 : decode cX6_pays 27 = .ok (.iaload, 1) := by decide +kernel
theorem dX6_pays_28 : decode cX6_pays 28 = .ok (.iload_n 3, 1) := by decide +kernel
theorem dX6_pays_29 : decode cX6_pays 29 = .ok (.if_icmp .ne 19, 3) := by decide +kernel
theorem dX6_pays_32 : decode cX6_pays 32 = .ok (.aload_n 0, 1) := by decide +kernel
theorem dX6_pays_33 : decode cX6_pays 33 = .ok (.getfield 41, 3) := by decide +kernel
theorem dX6_pays_36 : decode cX6_pays 36 = .ok (.iload_n 2, 1) := by decide +kernel
theorem dX6_pays_37 : decode cX6_pays 37 = .ok (.iload 5, 2) := by decide +kernel
theorem dX6_pays_39 : decode cX6_pays 39 = .ok (.iadd, 1) := by decide +kernel
theorem dX6_pays_40 : decode cX6_pays 40 = .ok (.iaload, 1) := by decide +kernel
theorem dX6_pays_41 : decode cX6_pays 41 = .ok (.ifCond .lt 7, 3) := by decide +kernel
theorem dX6_pays_44 : decode cX6_pays 44 = .ok (.iconst 1, 1) := by decide +kernel
theorem dX6_pays_45 : decode cX6_pays 45 = .ok (.goto 4, 3) := by decide +kernel
theorem dX6_pays_48 : decode cX6_pays 48 = .ok (.iconst 0, 1) := by decide +kernel
theorem dX6_pays_49 : decode cX6_pays 49 = .ok (.iadd, 1) := by decide +kernel
theorem dX6_pays_50 : decode cX6_pays 50 = .ok (.istore 4, 2) := by decide +kernel
theorem dX6_pays_52 : decode cX6_pays 52 = .ok (.iinc 5 1, 3) := by decide +kernel
theorem dX6_pays_55 : decode cX6_pays 55 = .ok (.goto (-42), 3) := by decide +kernel
theorem dX6_pays_58 : decode cX6_pays 58 = .ok (.aload_n 0, 1) := by decide +kernel
theorem dX6_pays_59 : decode cX6_pays 59 = .ok (.getfield 13, 3) := by decide +kernel
theorem dX6_pays_62 : decode cX6_pays 62 = .ok (.iload_n 3, 1) := by decide +kernel
theorem dX6_pays_63 : decode cX6_pays 63 = .ok (.iaload, 1) := by decide +kernel
theorem dX6_pays_64 : decode cX6_pays 64 = .ok (.aload_n 0, 1) := by decide +kernel
theorem dX6_pays_65 : decode cX6_pays 65 = .ok (.getfield 16, 3) := by decide +kernel
theorem dX6_pays_68 : decode cX6_pays 68 = .ok (.iload_n 3, 1) := by decide +kernel
theorem dX6_pays_69 : decode cX6_pays 69 = .ok (.iaload, 1) := by decide +kernel
theorem dX6_pays_70 : decode cX6_pays 70 = .ok (.idiv, 1) := by decide +kernel
theorem dX6_pays_71 : decode cX6_pays 71 = .ok (.iload 4, 2) := by decide +kernel
theorem dX6_pays_73 : decode cX6_pays 73 = .ok (.aload_n 0, 1) := by decide +kernel
theorem dX6_pays_74 : decode cX6_pays 74 = .ok (.getfield 13, 3) := by decide +kernel
theorem dX6_pays_77 : decode cX6_pays 77 = .ok (.iload_n 3, 1) := by decide +kernel
theorem dX6_pays_78 : decode cX6_pays 78 = .ok (.iaload, 1) := by decide +kernel
theorem dX6_pays_79 : decode cX6_pays 79 = .ok (.aload_n 0, 1) := by decide +kernel
theorem dX6_pays_80 : decode cX6_pays 80 = .ok (.getfield 16, 3) := by decide +kernel
theorem dX6_pays_83 : decode cX6_pays 83 = .ok (.iload_n 3, 1) := by decide +kernel
theorem dX6_pays_84 : decode cX6_pays 84 = .ok (.iaload, 1) := by decide +kernel
theorem dX6_pays_85 : decode cX6_pays 85 = .ok (.irem, 1) := by decide +kernel
theorem dX6_pays_86 : decode cX6_pays 86 = .ok (.if_icmp .ge 7, 3) := by decide +kernel
theorem dX6_pays_89 : decode cX6_pays 89 = .ok (.iconst 1, 1) := by decide +kernel
theorem dX6_pays_90 : decode cX6_pays 90 = .ok (.goto 4, 3) := by decide +kernel
theorem dX6_pays_93 : decode cX6_pays 93 = .ok (.iconst 0, 1) := by decide +kernel
theorem dX6_pays_94 : decode cX6_pays 94 = .ok (.iadd, 1) := by decide +kernel
theorem dX6_pays_95 : decode cX6_pays 95 = .ok (.ireturn, 1) := by decide +kernel
theorem dX6_ends_0 : decode cX6_ends 0 = .ok (.iconst 0, 1) := by decide +kernel
theorem dX6_ends_1 : decode cX6_ends 1 = .ok (.istore 4, 2) := by decide +kernel
theorem dX6_ends_3 : decode cX6_ends 3 = .ok (.iconst 0, 1) := by decide +kernel
theorem dX6_ends_4 : decode cX6_ends 4 = .ok (.istore 5, 2) := by decide +kernel
theorem dX6_ends_6 : decode cX6_ends 6 = .ok (.iload 5, 2) := by decide +kernel
theorem dX6_ends_8 : decode cX6_ends 8 = .ok (.aload_n 0, 1) := by decide +kernel
theorem dX6_ends_9 : decode cX6_ends 9 = .ok (.getfield 139, 3) := by decide +kernel
theorem dX6_ends_12 : decode cX6_ends 12 = .ok (.if_icmp .ge 77, 3) := by decide +kernel
theorem dX6_ends_15 : decode cX6_ends 15 = .ok (.aload_n 0, 1) := by decide +kernel
theorem dX6_ends_16 : decode cX6_ends 16 = .ok (.getfield 41, 3) := by decide +kernel
theorem dX6_ends_19 : decode cX6_ends 19 = .ok (.iload_n 2, 1) := by decide +kernel
theorem dX6_ends_20 : decode cX6_ends 20 = .ok (.iload 5, 2) := by decide +kernel
theorem dX6_ends_22 : decode cX6_ends 22 = .ok (.iadd, 1) := by decide +kernel
theorem dX6_ends_23 : decode cX6_ends 23 = .ok (.iaload, 1) := by decide +kernel
theorem dX6_ends_24 : decode cX6_ends 24 = .ok (.istore 6, 2) := by decide +kernel
theorem dX6_ends_26 : decode cX6_ends 26 = .ok (.iload 6, 2) := by decide +kernel
theorem dX6_ends_28 : decode cX6_ends 28 = .ok (.ifCond .ge 6, 3) := by decide +kernel
theorem dX6_ends_31 : decode cX6_ends 31 = .ok (.goto 52, 3) := by decide +kernel
theorem dX6_ends_34 : decode cX6_ends 34 = .ok (.aload_n 0, 1) := by decide +kernel
theorem dX6_ends_35 : decode cX6_ends 35 = .ok (.iload 5, 2) := by decide +kernel
theorem dX6_ends_37 : decode cX6_ends 37 = .ok (.iload_n 2, 1) := by decide +kernel
theorem dX6_ends_38 : decode cX6_ends 38 = .ok (.invokevirtual 172, 3) := by decide +kernel
theorem dX6_ends_41 : decode cX6_ends 41 = .ok (.istore 7, 2) := by decide +kernel
theorem dX6_ends_43 : decode cX6_ends 43 = .ok (.iload 4, 2) := by decide +kernel
theorem dX6_ends_45 : decode cX6_ends 45 = .ok (.iload 7, 2) := by decide +kernel
theorem dX6_ends_47 : decode cX6_ends 47 = .ok (.iadd, 1) := by decide +kernel
theorem dX6_ends_48 : decode cX6_ends 48 = .ok (.istore 4, 2) := by decide +kernel
theorem dX6_ends_50 : decode cX6_ends 50 = .ok (.aload_n 0, 1) := by decide +kernel
theorem dX6_ends_51 : decode cX6_ends 51 = .ok (.getfield 29, 3) := by decide +kernel
theorem dX6_ends_54 : decode cX6_ends 54 = .ok (.iload_n 1, 1) := by decide +kernel
theorem dX6_ends_55 : decode cX6_ends 55 = .ok (.iload 6, 2) := by decide +kernel
theorem dX6_ends_57 : decode cX6_ends 57 = .ok (.iadd, 1) := by decide +kernel
theorem dX6_ends_58 : decode cX6_ends 58 = .ok (.dup2, 1) := by decide +kernel
theorem dX6_ends_59 : decode cX6_ends 59 = .ok (.iaload, 1) := by decide +kernel
theorem dX6_ends_60 : decode cX6_ends 60 = .ok (.iload 7, 2) := by decide +kernel
theorem dX6_ends_62 : decode cX6_ends 62 = .ok (.isub, 1) := by decide +kernel
theorem dX6_ends_63 : decode cX6_ends 63 = .ok (.iastore, 1) := by decide +kernel
theorem dX6_ends_64 : decode cX6_ends 64 = .ok (.aload_n 0, 1) := by decide +kernel
theorem dX6_ends_65 : decode cX6_ends 65 = .ok (.getfield 35, 3) := by decide +kernel
theorem dX6_ends_68 : decode cX6_ends 68 = .ok (.iload_n 1, 1) := by decide +kernel
theorem dX6_ends_69 : decode cX6_ends 69 = .ok (.iload 6, 2) := by decide +kernel
theorem dX6_ends_71 : decode cX6_ends 71 = .ok (.iadd, 1) := by decide +kernel
theorem dX6_ends_72 : decode cX6_ends 72 = .ok (.iload_n 3, 1) := by decide +kernel
theorem dX6_ends_73 : decode cX6_ends 73 = .ok (.aload_n 0, 1) := by decide +kernel
theorem dX6_ends_74 : decode cX6_ends 74 = .ok (.getfield 19, 3) := by decide +kernel
theorem dX6_ends_77 : decode cX6_ends 77 = .ok (.iconst 0, 1) := by decide +kernel
theorem dX6_ends_78 : decode cX6_ends 78 = .ok (.iaload, 1) := by decide +kernel
theorem dX6_ends_79 : decode cX6_ends 79 = .ok (.iadd, 1) := by decide +kernel
theorem dX6_ends_80 : decode cX6_ends 80 = .ok (.iconst 1, 1) := by decide +kernel
theorem dX6_ends_81 : decode cX6_ends 81 = .ok (.iadd, 1) := by decide +kernel
theorem dX6_ends_82 : decode cX6_ends 82 = .ok (.iastore, 1) := by decide +kernel
theorem dX6_ends_83 : decode cX6_ends 83 = .ok (.iinc 5 1, 3) := by decide +kernel
theorem dX6_ends_86 : decode cX6_ends 86 = .ok (.goto (-80), 3) := by decide +kernel
theorem dX6_ends_89 : decode cX6_ends 89 = .ok (.iload 4, 2) := by decide +kernel
theorem dX6_ends_91 : decode cX6_ends 91 = .ok (.ireturn, 1) := by decide +kernel
theorem dX6_isOpen_0 : decode cX6_isOpen 0 = .ok (.aload_n 0, 1) := by decide +kernel
theorem dX6_isOpen_1 : decode cX6_isOpen 1 = .ok (.getfield 60, 3) := by decide +kernel
theorem dX6_isOpen_4 : decode cX6_isOpen 4 = .ok (.iload_n 1, 1) := by decide +kernel
theorem dX6_isOpen_5 : decode cX6_isOpen 5 = .ok (.iaload, 1) := by decide +kernel
theorem dX6_isOpen_6 : decode cX6_isOpen 6 = .ok (.iconst 2, 1) := by decide +kernel
theorem dX6_isOpen_7 : decode cX6_isOpen 7 = .ok (.if_icmp .ge 7, 3) := by decide +kernel
theorem dX6_isOpen_10 : decode cX6_isOpen 10 = .ok (.iconst 1, 1) := by decide +kernel
theorem dX6_isOpen_11 : decode cX6_isOpen 11 = .ok (.goto 4, 3) := by decide +kernel
theorem dX6_isOpen_14 : decode cX6_isOpen 14 = .ok (.iconst 0, 1) := by decide +kernel
theorem dX6_isOpen_15 : decode cX6_isOpen 15 = .ok (.ireturn, 1) := by decide +kernel
theorem dX6_goesOver_0 : decode cX6_goesOver 0 = .ok (.aload_n 0, 1) := by decide +kernel
theorem dX6_goesOver_1 : decode cX6_goesOver 1 = .ok (.getfield 60, 3) := by decide +kernel
theorem dX6_goesOver_4 : decode cX6_goesOver 4 = .ok (.iload_n 1, 1) := by decide +kernel
theorem dX6_goesOver_5 : decode cX6_goesOver 5 = .ok (.iaload, 1) := by decide +kernel
theorem dX6_goesOver_6 : decode cX6_goesOver 6 = .ok (.ifCond .ne 36, 3) := by decide +kernel
theorem dX6_goesOver_9 : decode cX6_goesOver 9 = .ok (.aload_n 0, 1) := by decide +kernel
theorem dX6_goesOver_10 : decode cX6_goesOver 10 = .ok (.getfield 29, 3) := by decide +kernel
theorem dX6_goesOver_13 : decode cX6_goesOver 13 = .ok (.aload_n 0, 1) := by decide +kernel
theorem dX6_goesOver_14 : decode cX6_goesOver 14 = .ok (.getfield 51, 3) := by decide +kernel
theorem dX6_goesOver_17 : decode cX6_goesOver 17 = .ok (.iload_n 1, 1) := by decide +kernel
theorem dX6_goesOver_18 : decode cX6_goesOver 18 = .ok (.iaload, 1) := by decide +kernel
theorem dX6_goesOver_19 : decode cX6_goesOver 19 = .ok (.iaload, 1) := by decide +kernel
theorem dX6_goesOver_20 : decode cX6_goesOver 20 = .ok (.aload_n 0, 1) := by decide +kernel
theorem dX6_goesOver_21 : decode cX6_goesOver 21 = .ok (.getfield 29, 3) := by decide +kernel
theorem dX6_goesOver_24 : decode cX6_goesOver 24 = .ok (.aload_n 0, 1) := by decide +kernel
theorem dX6_goesOver_25 : decode cX6_goesOver 25 = .ok (.getfield 48, 3) := by decide +kernel
theorem dX6_goesOver_28 : decode cX6_goesOver 28 = .ok (.iload_n 1, 1) := by decide +kernel
theorem dX6_goesOver_29 : decode cX6_goesOver 29 = .ok (.iaload, 1) := by decide +kernel
theorem dX6_goesOver_30 : decode cX6_goesOver 30 = .ok (.iaload, 1) := by decide +kernel
theorem dX6_goesOver_31 : decode cX6_goesOver 31 = .ok (.if_icmp .le 7, 3) := by decide +kernel
theorem dX6_goesOver_34 : decode cX6_goesOver 34 = .ok (.iconst 1, 1) := by decide +kernel
theorem dX6_goesOver_35 : decode cX6_goesOver 35 = .ok (.goto 30, 3) := by decide +kernel
theorem dX6_goesOver_38 : decode cX6_goesOver 38 = .ok (.iconst 0, 1) := by decide +kernel
theorem dX6_goesOver_39 : decode cX6_goesOver 39 = .ok (.goto 26, 3) := by decide +kernel
theorem dX6_goesOver_42 : decode cX6_goesOver 42 = .ok (.aload_n 0, 1) := by decide +kernel
theorem dX6_goesOver_43 : decode cX6_goesOver 43 = .ok (.getfield 66, 3) := by decide +kernel
theorem dX6_goesOver_46 : decode cX6_goesOver 46 = .ok (.iload_n 1, 1) := by decide +kernel
theorem dX6_goesOver_47 : decode cX6_goesOver 47 = .ok (.baload, 1) := by decide +kernel
theorem dX6_goesOver_48 : decode cX6_goesOver 48 = .ok (.ifCond .eq 16, 3) := by decide +kernel
theorem dX6_goesOver_51 : decode cX6_goesOver 51 = .ok (.aload_n 0, 1) := by decide +kernel
theorem dX6_goesOver_52 : decode cX6_goesOver 52 = .ok (.getfield 69, 3) := by decide +kernel
theorem dX6_goesOver_55 : decode cX6_goesOver 55 = .ok (.iload_n 1, 1) := by decide +kernel
theorem dX6_goesOver_56 : decode cX6_goesOver 56 = .ok (.baload, 1) := by decide +kernel
theorem dX6_goesOver_57 : decode cX6_goesOver 57 = .ok (.ifCond .ne 7, 3) := by decide +kernel
theorem dX6_goesOver_60 : decode cX6_goesOver 60 = .ok (.iconst 1, 1) := by decide +kernel
theorem dX6_goesOver_61 : decode cX6_goesOver 61 = .ok (.goto 4, 3) := by decide +kernel
theorem dX6_goesOver_64 : decode cX6_goesOver 64 = .ok (.iconst 0, 1) := by decide +kernel
theorem dX6_goesOver_65 : decode cX6_goesOver 65 = .ok (.ireturn, 1) := by decide +kernel
theorem dX6_over_0 : decode cX6_over 0 = .ok (.aload_n 0, 1) := by decide +kernel
theorem dX6_over_1 : decode cX6_over 1 = .ok (.getfield 41, 3) := by decide +kernel
theorem dX6_over_4 : decode cX6_over 4 = .ok (.aload_n 0, 1) := by decide +kernel
theorem dX6_over_5 : decode cX6_over 5 = .ok (.getfield 54, 3) := by decide +kernel
theorem dX6_over_8 : decode cX6_over 8 = .ok (.iload_n 1, 1) := by decide +kernel
theorem dX6_over_9 : decode cX6_over 9 = .ok (.iaload, 1) := by decide +kernel
theorem dX6_over_10 : decode cX6_over 10 = .ok (.aload_n 0, 1) := by decide +kernel
theorem dX6_over_11 : decode cX6_over 11 = .ok (.getfield 51, 3) := by decide +kernel
theorem dX6_over_14 : decode cX6_over 14 = .ok (.iload_n 1, 1) := by decide +kernel
theorem dX6_over_15 : decode cX6_over 15 = .ok (.iaload, 1) := by decide +kernel
theorem dX6_over_16 : decode cX6_over 16 = .ok (.iastore, 1) := by decide +kernel
theorem dX6_over_17 : decode cX6_over 17 = .ok (.aload_n 0, 1) := by decide +kernel
theorem dX6_over_18 : decode cX6_over 18 = .ok (.getfield 44, 3) := by decide +kernel
theorem dX6_over_21 : decode cX6_over 21 = .ok (.bipush 24, 2) := by decide +kernel
theorem dX6_over_23 : decode cX6_over 23 = .ok (.aload_n 0, 1) := by decide +kernel
theorem dX6_over_24 : decode cX6_over 24 = .ok (.getfield 51, 3) := by decide +kernel
theorem dX6_over_27 : decode cX6_over 27 = .ok (.iload_n 1, 1) := by decide +kernel
theorem dX6_over_28 : decode cX6_over 28 = .ok (.iaload, 1) := by decide +kernel
theorem dX6_over_29 : decode cX6_over 29 = .ok (.imul, 1) := by decide +kernel
theorem dX6_over_30 : decode cX6_over 30 = .ok (.aload_n 0, 1) := by decide +kernel
theorem dX6_over_31 : decode cX6_over 31 = .ok (.getfield 54, 3) := by decide +kernel
theorem dX6_over_34 : decode cX6_over 34 = .ok (.iload_n 1, 1) := by decide +kernel
theorem dX6_over_35 : decode cX6_over 35 = .ok (.iaload, 1) := by decide +kernel
theorem dX6_over_36 : decode cX6_over 36 = .ok (.iadd, 1) := by decide +kernel
theorem dX6_over_37 : decode cX6_over 37 = .ok (.iconst 1, 1) := by decide +kernel
theorem dX6_over_38 : decode cX6_over 38 = .ok (.bastore, 1) := by decide +kernel
theorem dX6_over_39 : decode cX6_over 39 = .ok (.return_, 1) := by decide +kernel
theorem dX6_judge_0 : decode cX6_judge 0 = .ok (.aload_n 0, 1) := by decide +kernel
theorem dX6_judge_1 : decode cX6_judge 1 = .ok (.iload_n 1, 1) := by decide +kernel
theorem dX6_judge_2 : decode cX6_judge 2 = .ok (.invokevirtual 175, 3) := by decide +kernel
theorem dX6_judge_5 : decode cX6_judge 5 = .ok (.istore_n 2, 1) := by decide +kernel
theorem dX6_judge_6 : decode cX6_judge 6 = .ok (.aload_n 0, 1) := by decide +kernel
theorem dX6_judge_7 : decode cX6_judge 7 = .ok (.getfield 60, 3) := by decide +kernel
theorem dX6_judge_10 : decode cX6_judge 10 = .ok (.iload_n 1, 1) := by decide +kernel
theorem dX6_judge_11 : decode cX6_judge 11 = .ok (.iload_n 2, 1) := by decide +kernel
theorem dX6_judge_12 : decode cX6_judge 12 = .ok (.ifCond .eq 7, 3) := by decide +kernel
theorem dX6_judge_15 : decode cX6_judge 15 = .ok (.iconst 4, 1) := by decide +kernel
theorem dX6_judge_16 : decode cX6_judge 16 = .ok (.goto 4, 3) := by decide +kernel
theorem dX6_judge_19 : decode cX6_judge 19 = .ok (.iconst 5, 1) := by decide +kernel
theorem dX6_judge_20 : decode cX6_judge 20 = .ok (.iastore, 1) := by decide +kernel
theorem dX6_judge_21 : decode cX6_judge 21 = .ok (.iload_n 2, 1) := by decide +kernel
theorem dX6_judge_22 : decode cX6_judge 22 = .ok (.ifCond .eq 8, 3) := by decide +kernel
theorem dX6_judge_25 : decode cX6_judge 25 = .ok (.aload_n 0, 1) := by decide +kernel
theorem dX6_judge_26 : decode cX6_judge 26 = .ok (.iload_n 1, 1) := by decide +kernel
theorem dX6_judge_27 : decode cX6_judge 27 = .ok (.invokevirtual 178, 3) := by decide +kernel
theorem dX6_judge_30 : decode cX6_judge 30 = .ok (.return_, 1) := by decide +kernel
theorem dX6_pass_0 : decode cX6_pass 0 = .ok (.aload_n 0, 1) := by decide +kernel
theorem dX6_pass_1 : decode cX6_pass 1 = .ok (.iconst 0, 1) := by decide +kernel
theorem dX6_pass_2 : decode cX6_pass 2 = .ok (.putfield 75, 3) := by decide +kernel
theorem dX6_pass_5 : decode cX6_pass 5 = .ok (.aload_n 0, 1) := by decide +kernel
theorem dX6_pass_6 : decode cX6_pass 6 = .ok (.getfield 132, 3) := by decide +kernel
theorem dX6_pass_9 : decode cX6_pass 9 = .ok (.ifCond .eq 26, 3) := by decide +kernel
theorem dX6_pass_12 : decode cX6_pass 12 = .ok (.iload_n 1, 1) := by decide +kernel
theorem dX6_pass_13 : decode cX6_pass 13 = .ok (.ifCond .lt 22, 3) := by decide +kernel
theorem dX6_pass_16 : decode cX6_pass 16 = .ok (.iload_n 1, 1) := by decide +kernel
theorem dX6_pass_17 : decode cX6_pass 17 = .ok (.sipush 400, 3) := by decide +kernel
theorem dX6_pass_20 : decode cX6_pass 20 = .ok (.if_icmp .gt 15, 3) := by decide +kernel
theorem dX6_pass_23 : decode cX6_pass 23 = .ok (.aload_n 0, 1) := by decide +kernel
theorem dX6_pass_24 : decode cX6_pass 24 = .ok (.getfield 162, 3) := by decide +kernel
theorem dX6_pass_27 : decode cX6_pass 27 = .ok (.iload_n 1, 1) := by decide +kernel
theorem dX6_pass_28 : decode cX6_pass 28 = .ok (.iadd, 1) := by decide +kernel
theorem dX6_pass_29 : decode cX6_pass 29 = .ok (.sipush 400, 3) := by decide +kernel
theorem dX6_pass_32 : decode cX6_pass 32 = .ok (.if_icmp .le 5, 3) := by decide +kernel
theorem dX6_pass_35 : decode cX6_pass 35 = .ok (.iconst (-1), 1) := by decide +kernel
theorem dX6_pass_36 : decode cX6_pass 36 = .ok (.ireturn, 1) := by decide +kernel
theorem dX6_pass_37 : decode cX6_pass 37 = .ok (.aload_n 0, 1) := by decide +kernel
theorem dX6_pass_38 : decode cX6_pass 38 = .ok (.dup, 1) := by decide +kernel
theorem dX6_pass_39 : decode cX6_pass 39 = .ok (.getfield 162, 3) := by decide +kernel
theorem dX6_pass_42 : decode cX6_pass 42 = .ok (.iload_n 1, 1) := by decide +kernel
theorem dX6_pass_43 : decode cX6_pass 43 = .ok (.iadd, 1) := by decide +kernel
theorem dX6_pass_44 : decode cX6_pass 44 = .ok (.putfield 162, 3) := by decide +kernel
theorem dX6_pass_47 : decode cX6_pass 47 = .ok (.iconst 0, 1) := by decide +kernel
theorem dX6_pass_48 : decode cX6_pass 48 = .ok (.istore_n 2, 1) := by decide +kernel
theorem dX6_pass_49 : decode cX6_pass 49 = .ok (.iload_n 2, 1) := by decide +kernel
theorem dX6_pass_50 : decode cX6_pass 50 = .ok (.aload_n 0, 1) := by decide +kernel
theorem dX6_pass_51 : decode cX6_pass 51 = .ok (.getfield 165, 3) := by decide +kernel
theorem dX6_pass_54 : decode cX6_pass 54 = .ok (.if_icmp .ge 35, 3) := by decide +kernel
theorem dX6_pass_57 : decode cX6_pass 57 = .ok (.aload_n 0, 1) := by decide +kernel
theorem dX6_pass_58 : decode cX6_pass 58 = .ok (.iload_n 2, 1) := by decide +kernel
theorem dX6_pass_59 : decode cX6_pass 59 = .ok (.invokevirtual 182, 3) := by decide +kernel
theorem dX6_pass_62 : decode cX6_pass 62 = .ok (.ifCond .eq 21, 3) := by decide +kernel
theorem dX6_pass_65 : decode cX6_pass 65 = .ok (.aload_n 0, 1) := by decide +kernel
theorem dX6_pass_66 : decode cX6_pass 66 = .ok (.getfield 63, 3) := by decide +kernel
theorem dX6_pass_69 : decode cX6_pass 69 = .ok (.iload_n 2, 1) := by decide +kernel
theorem dX6_pass_70 : decode cX6_pass 70 = .ok (.iaload, 1) := by decide +kernel
theorem dX6_pass_71 : decode cX6_pass 71 = .ok (.aload_n 0, 1) := by decide +kernel
theorem dX6_pass_72 : decode cX6_pass 72 = .ok (.getfield 162, 3) := by decide +kernel
theorem dX6_pass_75 : decode cX6_pass 75 = .ok (.if_icmp .ge 8, 3) := by decide +kernel
theorem dX6_pass_78 : decode cX6_pass 78 = .ok (.aload_n 0, 1) := by decide +kernel
theorem dX6_pass_79 : decode cX6_pass 79 = .ok (.iload_n 2, 1) := by decide +kernel
theorem dX6_pass_80 : decode cX6_pass 80 = .ok (.invokevirtual 185, 3) := by decide +kernel
theorem dX6_pass_83 : decode cX6_pass 83 = .ok (.iinc 2 1, 3) := by decide +kernel
theorem dX6_pass_86 : decode cX6_pass 86 = .ok (.goto (-37), 3) := by decide +kernel
theorem dX6_pass_89 : decode cX6_pass 89 = .ok (.aload_n 0, 1) := by decide +kernel
theorem dX6_pass_90 : decode cX6_pass 90 = .ok (.getfield 162, 3) := by decide +kernel
theorem dX6_pass_93 : decode cX6_pass 93 = .ok (.ireturn, 1) := by decide +kernel
theorem dX6_challenge_0 : decode cX6_challenge 0 = .ok (.aload_n 0, 1) := by decide +kernel
theorem dX6_challenge_1 : decode cX6_challenge 1 = .ok (.iconst 0, 1) := by decide +kernel
theorem dX6_challenge_2 : decode cX6_challenge 2 = .ok (.putfield 75, 3) := by decide +kernel
theorem dX6_challenge_5 : decode cX6_challenge 5 = .ok (.aload_n 0, 1) := by decide +kernel
theorem dX6_challenge_6 : decode cX6_challenge 6 = .ok (.getfield 132, 3) := by decide +kernel
theorem dX6_challenge_9 : decode cX6_challenge 9 = .ok (.ifCond .eq 28, 3) := by decide +kernel
theorem dX6_challenge_12 : decode cX6_challenge 12 = .ok (.aload_n 0, 1) := by decide +kernel
theorem dX6_challenge_13 : decode cX6_challenge 13 = .ok (.iload_n 1, 1) := by decide +kernel
theorem dX6_challenge_14 : decode cX6_challenge 14 = .ok (.invokevirtual 145, 3) := by decide +kernel
theorem dX6_challenge_17 : decode cX6_challenge 17 = .ok (.ifCond .eq 20, 3) := by decide +kernel
theorem dX6_challenge_20 : decode cX6_challenge 20 = .ok (.aload_n 0, 1) := by decide +kernel
theorem dX6_challenge_21 : decode cX6_challenge 21 = .ok (.iload_n 2, 1) := by decide +kernel
theorem dX6_challenge_22 : decode cX6_challenge 22 = .ok (.invokevirtual 145, 3) := by decide +kernel
theorem dX6_challenge_25 : decode cX6_challenge 25 = .ok (.ifCond .eq 12, 3) := by decide +kernel
theorem dX6_challenge_28 : decode cX6_challenge 28 = .ok (.aload_n 0, 1) := by decide +kernel
theorem dX6_challenge_29 : decode cX6_challenge 29 = .ok (.getfield 165, 3) := by decide +kernel
theorem dX6_challenge_32 : decode cX6_challenge 32 = .ok (.bipush 40, 2) := by decide +kernel
theorem dX6_challenge_34 : decode cX6_challenge 34 = .ok (.if_icmp .ne 5, 3) := by decide +kernel
theorem dX6_challenge_37 : decode cX6_challenge 37 = .ok (.iconst (-1), 1) := by decide +kernel
theorem dX6_challenge_38 : decode cX6_challenge 38 = .ok (.ireturn, 1) := by decide +kernel
theorem dX6_challenge_39 : decode cX6_challenge 39 = .ok (.aload_n 0, 1) := by decide +kernel
theorem dX6_challenge_40 : decode cX6_challenge 40 = .ok (.iload_n 1, 1) := by decide +kernel
theorem dX6_challenge_41 : decode cX6_challenge 41 = .ok (.iconst 0, 1) := by decide +kernel
theorem dX6_challenge_42 : decode cX6_challenge 42 = .ok (.invokevirtual 148, 3) := by decide +kernel
theorem dX6_challenge_45 : decode cX6_challenge 45 = .ok (.istore_n 3, 1) := by decide +kernel
theorem dX6_challenge_46 : decode cX6_challenge 46 = .ok (.iload_n 3, 1) := by decide +kernel
theorem dX6_challenge_47 : decode cX6_challenge 47 = .ok (.ifCond .lt 19, 3) := by decide +kernel
theorem dX6_challenge_50 : decode cX6_challenge 50 = .ok (.aload_n 0, 1) := by decide +kernel
theorem dX6_challenge_51 : decode cX6_challenge 51 = .ok (.iload_n 2, 1) := by decide +kernel
theorem dX6_challenge_52 : decode cX6_challenge 52 = .ok (.iconst 0, 1) := by decide +kernel
theorem dX6_challenge_53 : decode cX6_challenge 53 = .ok (.iconst 0, 1) := by decide +kernel
theorem dX6_challenge_54 : decode cX6_challenge 54 = .ok (.aload_n 0, 1) := by decide +kernel
theorem dX6_challenge_55 : decode cX6_challenge 55 = .ok (.getfield 155, 3) := by decide +kernel
theorem dX6_challenge_58 : decode cX6_challenge 58 = .ok (.iconst 1, 1) := by decide +kernel
theorem dX6_challenge_59 : decode cX6_challenge 59 = .ok (.isub, 1) := by decide +kernel
theorem dX6_challenge_60 : decode cX6_challenge 60 = .ok (.invokevirtual 158, 3) := by decide +kernel
theorem dX6_challenge_63 : decode cX6_challenge 63 = .ok (.ifCond .ne 5, 3) := by decide +kernel
theorem dX6_challenge_66 : decode cX6_challenge 66 = .ok (.iconst (-1), 1) := by decide +kernel
theorem dX6_challenge_67 : decode cX6_challenge 67 = .ok (.ireturn, 1) := by decide +kernel
theorem dX6_challenge_68 : decode cX6_challenge 68 = .ok (.iconst 0, 1) := by decide +kernel
theorem dX6_challenge_69 : decode cX6_challenge 69 = .ok (.istore 4, 2) := by decide +kernel
theorem dX6_challenge_71 : decode cX6_challenge 71 = .ok (.iload 4, 2) := by decide +kernel
theorem dX6_challenge_73 : decode cX6_challenge 73 = .ok (.aload_n 0, 1) := by decide +kernel
theorem dX6_challenge_74 : decode cX6_challenge 74 = .ok (.getfield 165, 3) := by decide +kernel
theorem dX6_challenge_77 : decode cX6_challenge 77 = .ok (.if_icmp .ge 64, 3) := by decide +kernel
theorem dX6_challenge_80 : decode cX6_challenge 80 = .ok (.aload_n 0, 1) := by decide +kernel
theorem dX6_challenge_81 : decode cX6_challenge 81 = .ok (.iload 4, 2) := by decide +kernel
theorem dX6_challenge_83 : decode cX6_challenge 83 = .ok (.invokevirtual 182, 3) := by decide +kernel
theorem dX6_challenge_86 : decode cX6_challenge 86 = .ok (.ifCond .eq 49, 3) := by decide +kernel
theorem dX6_challenge_89 : decode cX6_challenge 89 = .ok (.aload_n 0, 1) := by decide +kernel
theorem dX6_challenge_90 : decode cX6_challenge 90 = .ok (.getfield 48, 3) := by decide +kernel
theorem dX6_challenge_93 : decode cX6_challenge 93 = .ok (.iload 4, 2) := by decide +kernel
theorem dX6_challenge_95 : decode cX6_challenge 95 = .ok (.iaload, 1) := by decide +kernel
theorem dX6_challenge_96 : decode cX6_challenge 96 = .ok (.iload_n 1, 1) := by decide +kernel
theorem dX6_challenge_97 : decode cX6_challenge 97 = .ok (.if_icmp .eq 36, 3) := by decide +kernel
theorem dX6_challenge_100 : decode cX6_challenge 100 = .ok (.aload_n 0, 1) := by decide +kernel
theorem dX6_challenge_101 : decode cX6_challenge 101 = .ok (.getfield 51, 3) := by decide +kernel
theorem dX6_challenge_104 : decode cX6_challenge 104 = .ok (.iload 4, 2) := by decide +kernel
theorem dX6_challenge_106 : decode cX6_challenge 106 = .ok (.iaload, 1) := by decide +kernel
theorem dX6_challenge_107 : decode cX6_challenge 107 = .ok (.iload_n 1, 1) := by decide +kernel
theorem dX6_challenge_108 : decode cX6_challenge 108 = .ok (.if_icmp .eq 25, 3) := by decide +kernel
theorem dX6_challenge_111 : decode cX6_challenge 111 = .ok (.aload_n 0, 1) := by decide +kernel
theorem dX6_challenge_112 : decode cX6_challenge 112 = .ok (.getfield 48, 3) := by decide +kernel
theorem dX6_challenge_115 : decode cX6_challenge 115 = .ok (.iload 4, 2) := by decide +kernel
theorem dX6_challenge_117 : decode cX6_challenge 117 = .ok (.iaload, 1) := by decide +kernel
theorem dX6_challenge_118 : decode cX6_challenge 118 = .ok (.iload_n 2, 1) := by decide +kernel
theorem dX6_challenge_119 : decode cX6_challenge 119 = .ok (.if_icmp .eq 14, 3) := by decide +kernel
theorem dX6_challenge_122 : decode cX6_challenge 122 = .ok (.aload_n 0, 1) := by decide +kernel
theorem dX6_challenge_123 : decode cX6_challenge 123 = .ok (.getfield 51, 3) := by decide +kernel
theorem dX6_challenge_126 : decode cX6_challenge 126 = .ok (.iload 4, 2) := by decide +kernel
theorem dX6_challenge_128 : decode cX6_challenge 128 = .ok (.iaload, 1) := by decide +kernel
theorem dX6_challenge_129 : decode cX6_challenge 129 = .ok (.iload_n 2, 1) := by decide +kernel
theorem dX6_challenge_130 : decode cX6_challenge 130 = .ok (.if_icmp .ne 5, 3) := by decide +kernel
theorem dX6_challenge_133 : decode cX6_challenge 133 = .ok (.iconst (-1), 1) := by decide +kernel
theorem dX6_challenge_134 : decode cX6_challenge 134 = .ok (.ireturn, 1) := by decide +kernel
theorem dX6_challenge_135 : decode cX6_challenge 135 = .ok (.iinc 4 1, 3) := by decide +kernel
theorem dX6_challenge_138 : decode cX6_challenge 138 = .ok (.goto (-67), 3) := by decide +kernel
theorem dX6_challenge_141 : decode cX6_challenge 141 = .ok (.aload_n 0, 1) := by decide +kernel
theorem dX6_challenge_142 : decode cX6_challenge 142 = .ok (.getfield 44, 3) := by decide +kernel
theorem dX6_challenge_145 : decode cX6_challenge 145 = .ok (.bipush 24, 2) := by decide +kernel
theorem dX6_challenge_147 : decode cX6_challenge 147 = .ok (.iload_n 2, 1) := by decide +kernel
theorem dX6_challenge_148 : decode cX6_challenge 148 = .ok (.imul, 1) := by decide +kernel
theorem dX6_challenge_149 : decode cX6_challenge 149 = .ok (.iload_n 3, 1) := by decide +kernel
theorem dX6_challenge_150 : decode cX6_challenge 150 = .ok (.iadd, 1) := by decide +kernel
theorem dX6_challenge_151 : decode cX6_challenge 151 = .ok (.baload, 1) := by decide +kernel
theorem dX6_challenge_152 : decode cX6_challenge 152 = .ok (.ifCond .eq 6, 3) := by decide +kernel
theorem dX6_challenge_155 : decode cX6_challenge 155 = .ok (.bipush (-3), 2) := by decide +kernel
theorem dX6_challenge_157 : decode cX6_challenge 157 = .ok (.ireturn, 1) := by decide +kernel
theorem dX6_challenge_158 : decode cX6_challenge 158 = .ok (.aload_n 0, 1) := by decide +kernel
theorem dX6_challenge_159 : decode cX6_challenge 159 = .ok (.getfield 48, 3) := by decide +kernel
theorem dX6_challenge_162 : decode cX6_challenge 162 = .ok (.aload_n 0, 1) := by decide +kernel
theorem dX6_challenge_163 : decode cX6_challenge 163 = .ok (.getfield 165, 3) := by decide +kernel
theorem dX6_challenge_166 : decode cX6_challenge 166 = .ok (.iload_n 1, 1) := by decide +kernel
theorem dX6_challenge_167 : decode cX6_challenge 167 = .ok (.iastore, 1) := by decide +kernel
theorem dX6_challenge_168 : decode cX6_challenge 168 = .ok (.aload_n 0, 1) := by decide +kernel
theorem dX6_challenge_169 : decode cX6_challenge 169 = .ok (.getfield 51, 3) := by decide +kernel
theorem dX6_challenge_172 : decode cX6_challenge 172 = .ok (.aload_n 0, 1) := by decide +kernel
theorem dX6_challenge_173 : decode cX6_challenge 173 = .ok (.getfield 165, 3) := by decide +kernel
theorem dX6_challenge_176 : decode cX6_challenge 176 = .ok (.iload_n 2, 1) := by decide +kernel
theorem dX6_challenge_177 : decode cX6_challenge 177 = .ok (.iastore, 1) := by decide +kernel
theorem dX6_challenge_178 : decode cX6_challenge 178 = .ok (.aload_n 0, 1) := by decide +kernel
theorem dX6_challenge_179 : decode cX6_challenge 179 = .ok (.getfield 54, 3) := by decide +kernel
theorem dX6_challenge_182 : decode cX6_challenge 182 = .ok (.aload_n 0, 1) := by decide +kernel
theorem dX6_challenge_183 : decode cX6_challenge 183 = .ok (.getfield 165, 3) := by decide +kernel
theorem dX6_challenge_186 : decode cX6_challenge 186 = .ok (.iload_n 3, 1) := by decide +kernel
theorem dX6_challenge_187 : decode cX6_challenge 187 = .ok (.iastore, 1) := by decide +kernel
theorem dX6_challenge_188 : decode cX6_challenge 188 = .ok (.aload_n 0, 1) := by decide +kernel
theorem dX6_challenge_189 : decode cX6_challenge 189 = .ok (.getfield 57, 3) := by decide +kernel
theorem dX6_challenge_192 : decode cX6_challenge 192 = .ok (.aload_n 0, 1) := by decide +kernel
theorem dX6_challenge_193 : decode cX6_challenge 193 = .ok (.getfield 165, 3) := by decide +kernel
theorem dX6_challenge_196 : decode cX6_challenge 196 = .ok (.aload_n 0, 1) := by decide +kernel
theorem dX6_challenge_197 : decode cX6_challenge 197 = .ok (.getfield 162, 3) := by decide +kernel
theorem dX6_challenge_200 : decode cX6_challenge 200 = .ok (.iastore, 1) := by decide +kernel
theorem dX6_challenge_201 : decode cX6_challenge 201 = .ok (.aload_n 0, 1) := by decide +kernel
theorem dX6_challenge_202 : decode cX6_challenge 202 = .ok (.getfield 60, 3) := by decide +kernel
theorem dX6_challenge_205 : decode cX6_challenge 205 = .ok (.aload_n 0, 1) := by decide +kernel
theorem dX6_challenge_206 : decode cX6_challenge 206 = .ok (.getfield 165, 3) := by decide +kernel
theorem dX6_challenge_209 : decode cX6_challenge 209 = .ok (.iconst 0, 1) := by decide +kernel
theorem dX6_challenge_210 : decode cX6_challenge 210 = .ok (.iastore, 1) := by decide +kernel
theorem dX6_challenge_211 : decode cX6_challenge 211 = .ok (.aload_n 0, 1) := by decide +kernel
theorem dX6_challenge_212 : decode cX6_challenge 212 = .ok (.getfield 63, 3) := by decide +kernel
theorem dX6_challenge_215 : decode cX6_challenge 215 = .ok (.aload_n 0, 1) := by decide +kernel
theorem dX6_challenge_216 : decode cX6_challenge 216 = .ok (.getfield 165, 3) := by decide +kernel
theorem dX6_challenge_219 : decode cX6_challenge 219 = .ok (.aload_n 0, 1) := by decide +kernel
theorem dX6_challenge_220 : decode cX6_challenge 220 = .ok (.getfield 162, 3) := by decide +kernel
theorem dX6_challenge_223 : decode cX6_challenge 223 = .ok (.aload_n 0, 1) := by decide +kernel
theorem dX6_challenge_224 : decode cX6_challenge 224 = .ok (.getfield 19, 3) := by decide +kernel
theorem dX6_challenge_227 : decode cX6_challenge 227 = .ok (.iconst 2, 1) := by decide +kernel
theorem dX6_challenge_228 : decode cX6_challenge 228 = .ok (.iaload, 1) := by decide +kernel
theorem dX6_challenge_229 : decode cX6_challenge 229 = .ok (.iadd, 1) := by decide +kernel
theorem dX6_challenge_230 : decode cX6_challenge 230 = .ok (.iastore, 1) := by decide +kernel
theorem dX6_challenge_231 : decode cX6_challenge 231 = .ok (.aload_n 0, 1) := by decide +kernel
theorem dX6_challenge_232 : decode cX6_challenge 232 = .ok (.getfield 66, 3) := by decide +kernel
theorem dX6_challenge_235 : decode cX6_challenge 235 = .ok (.aload_n 0, 1) := by decide +kernel
theorem dX6_challenge_236 : decode cX6_challenge 236 = .ok (.getfield 165, 3) := by decide +kernel
theorem dX6_challenge_239 : decode cX6_challenge 239 = .ok (.iconst 0, 1) := by decide +kernel
theorem dX6_challenge_240 : decode cX6_challenge 240 = .ok (.bastore, 1) := by decide +kernel
theorem dX6_challenge_241 : decode cX6_challenge 241 = .ok (.aload_n 0, 1) := by decide +kernel
theorem dX6_challenge_242 : decode cX6_challenge 242 = .ok (.getfield 69, 3) := by decide +kernel
theorem dX6_challenge_245 : decode cX6_challenge 245 = .ok (.aload_n 0, 1) := by decide +kernel
theorem dX6_challenge_246 : decode cX6_challenge 246 = .ok (.getfield 165, 3) := by decide +kernel
theorem dX6_challenge_249 : decode cX6_challenge 249 = .ok (.iconst 0, 1) := by decide +kernel
theorem dX6_challenge_250 : decode cX6_challenge 250 = .ok (.bastore, 1) := by decide +kernel
theorem dX6_challenge_251 : decode cX6_challenge 251 = .ok (.aload_n 0, 1) := by decide +kernel
theorem dX6_challenge_252 : decode cX6_challenge 252 = .ok (.dup, 1) := by decide +kernel
theorem dX6_challenge_253 : decode cX6_challenge 253 = .ok (.getfield 165, 3) := by decide +kernel
theorem dX6_challenge_256 : decode cX6_challenge 256 = .ok (.iconst 1, 1) := by decide +kernel
theorem dX6_challenge_257 : decode cX6_challenge 257 = .ok (.iadd, 1) := by decide +kernel
theorem dX6_challenge_258 : decode cX6_challenge 258 = .ok (.putfield 165, 3) := by decide +kernel
theorem dX6_challenge_261 : decode cX6_challenge 261 = .ok (.aload_n 0, 1) := by decide +kernel
theorem dX6_challenge_262 : decode cX6_challenge 262 = .ok (.getfield 165, 3) := by decide +kernel
theorem dX6_challenge_265 : decode cX6_challenge 265 = .ok (.iconst 1, 1) := by decide +kernel
theorem dX6_challenge_266 : decode cX6_challenge 266 = .ok (.isub, 1) := by decide +kernel
theorem dX6_challenge_267 : decode cX6_challenge 267 = .ok (.ireturn, 1) := by decide +kernel
theorem dX6_answer_0 : decode cX6_answer 0 = .ok (.aload_n 0, 1) := by decide +kernel
theorem dX6_answer_1 : decode cX6_answer 1 = .ok (.iconst 0, 1) := by decide +kernel
theorem dX6_answer_2 : decode cX6_answer 2 = .ok (.putfield 75, 3) := by decide +kernel
theorem dX6_answer_5 : decode cX6_answer 5 = .ok (.aload_n 0, 1) := by decide +kernel
theorem dX6_answer_6 : decode cX6_answer 6 = .ok (.getfield 132, 3) := by decide +kernel
theorem dX6_answer_9 : decode cX6_answer 9 = .ok (.ifCond .eq 24, 3) := by decide +kernel
theorem dX6_answer_12 : decode cX6_answer 12 = .ok (.iload_n 1, 1) := by decide +kernel
theorem dX6_answer_13 : decode cX6_answer 13 = .ok (.ifCond .lt 20, 3) := by decide +kernel
theorem dX6_answer_16 : decode cX6_answer 16 = .ok (.iload_n 1, 1) := by decide +kernel
theorem dX6_answer_17 : decode cX6_answer 17 = .ok (.aload_n 0, 1) := by decide +kernel
theorem dX6_answer_18 : decode cX6_answer 18 = .ok (.getfield 165, 3) := by decide +kernel
theorem dX6_answer_21 : decode cX6_answer 21 = .ok (.if_icmp .ge 12, 3) := by decide +kernel
theorem dX6_answer_24 : decode cX6_answer 24 = .ok (.aload_n 0, 1) := by decide +kernel
theorem dX6_answer_25 : decode cX6_answer 25 = .ok (.getfield 60, 3) := by decide +kernel
theorem dX6_answer_28 : decode cX6_answer 28 = .ok (.iload_n 1, 1) := by decide +kernel
theorem dX6_answer_29 : decode cX6_answer 29 = .ok (.iaload, 1) := by decide +kernel
theorem dX6_answer_30 : decode cX6_answer 30 = .ok (.ifCond .eq 5, 3) := by decide +kernel
theorem dX6_answer_33 : decode cX6_answer 33 = .ok (.iconst 0, 1) := by decide +kernel
theorem dX6_answer_34 : decode cX6_answer 34 = .ok (.ireturn, 1) := by decide +kernel
theorem dX6_answer_35 : decode cX6_answer 35 = .ok (.iload_n 2, 1) := by decide +kernel
theorem dX6_answer_36 : decode cX6_answer 36 = .ok (.ifCond .eq 18, 3) := by decide +kernel
theorem dX6_answer_39 : decode cX6_answer 39 = .ok (.aload_n 0, 1) := by decide +kernel
theorem dX6_answer_40 : decode cX6_answer 40 = .ok (.getfield 60, 3) := by decide +kernel
theorem dX6_answer_43 : decode cX6_answer 43 = .ok (.iload_n 1, 1) := by decide +kernel
theorem dX6_answer_44 : decode cX6_answer 44 = .ok (.iconst 2, 1) := by decide +kernel
theorem dX6_answer_45 : decode cX6_answer 45 = .ok (.iastore, 1) := by decide +kernel
theorem dX6_answer_46 : decode cX6_answer 46 = .ok (.aload_n 0, 1) := by decide +kernel
theorem dX6_answer_47 : decode cX6_answer 47 = .ok (.iload_n 1, 1) := by decide +kernel
theorem dX6_answer_48 : decode cX6_answer 48 = .ok (.invokevirtual 178, 3) := by decide +kernel
theorem dX6_answer_51 : decode cX6_answer 51 = .ok (.goto 27, 3) := by decide +kernel
theorem dX6_answer_54 : decode cX6_answer 54 = .ok (.aload_n 0, 1) := by decide +kernel
theorem dX6_answer_55 : decode cX6_answer 55 = .ok (.getfield 60, 3) := by decide +kernel
theorem dX6_answer_58 : decode cX6_answer 58 = .ok (.iload_n 1, 1) := by decide +kernel
theorem dX6_answer_59 : decode cX6_answer 59 = .ok (.iconst 1, 1) := by decide +kernel
theorem dX6_answer_60 : decode cX6_answer 60 = .ok (.iastore, 1) := by decide +kernel
theorem dX6_answer_61 : decode cX6_answer 61 = .ok (.aload_n 0, 1) := by decide +kernel
theorem dX6_answer_62 : decode cX6_answer 62 = .ok (.getfield 63, 3) := by decide +kernel
theorem dX6_answer_65 : decode cX6_answer 65 = .ok (.iload_n 1, 1) := by decide +kernel
theorem dX6_answer_66 : decode cX6_answer 66 = .ok (.aload_n 0, 1) := by decide +kernel
theorem dX6_answer_67 : decode cX6_answer 67 = .ok (.getfield 162, 3) := by decide +kernel
theorem dX6_answer_70 : decode cX6_answer 70 = .ok (.aload_n 0, 1) := by decide +kernel
theorem dX6_answer_71 : decode cX6_answer 71 = .ok (.getfield 19, 3) := by decide +kernel
theorem dX6_answer_74 : decode cX6_answer 74 = .ok (.iconst 3, 1) := by decide +kernel
theorem dX6_answer_75 : decode cX6_answer 75 = .ok (.iaload, 1) := by decide +kernel
theorem dX6_answer_76 : decode cX6_answer 76 = .ok (.iadd, 1) := by decide +kernel
theorem dX6_answer_77 : decode cX6_answer 77 = .ok (.iastore, 1) := by decide +kernel
theorem dX6_answer_78 : decode cX6_answer 78 = .ok (.iconst 1, 1) := by decide +kernel
theorem dX6_answer_79 : decode cX6_answer 79 = .ok (.ireturn, 1) := by decide +kernel
theorem dX6_swear_0 : decode cX6_swear 0 = .ok (.aload_n 0, 1) := by decide +kernel
theorem dX6_swear_1 : decode cX6_swear 1 = .ok (.iconst 0, 1) := by decide +kernel
