theorem dX6_swear_2 : decode cX6_swear 2 = .ok (.putfield 75, 3) := by decide +kernel
theorem dX6_swear_5 : decode cX6_swear 5 = .ok (.aload_n 0, 1) := by decide +kernel
theorem dX6_swear_6 : decode cX6_swear 6 = .ok (.getfield 132, 3) := by decide +kernel
theorem dX6_swear_9 : decode cX6_swear 9 = .ok (.ifCond .eq 50, 3) := by decide +kernel
theorem dX6_swear_12 : decode cX6_swear 12 = .ok (.iload_n 1, 1) := by decide +kernel
theorem dX6_swear_13 : decode cX6_swear 13 = .ok (.ifCond .lt 46, 3) := by decide +kernel
theorem dX6_swear_16 : decode cX6_swear 16 = .ok (.iload_n 1, 1) := by decide +kernel
theorem dX6_swear_17 : decode cX6_swear 17 = .ok (.aload_n 0, 1) := by decide +kernel
theorem dX6_swear_18 : decode cX6_swear 18 = .ok (.getfield 165, 3) := by decide +kernel
theorem dX6_swear_21 : decode cX6_swear 21 = .ok (.if_icmp .ge 38, 3) := by decide +kernel
theorem dX6_swear_24 : decode cX6_swear 24 = .ok (.aload_n 0, 1) := by decide +kernel
theorem dX6_swear_25 : decode cX6_swear 25 = .ok (.getfield 60, 3) := by decide +kernel
theorem dX6_swear_28 : decode cX6_swear 28 = .ok (.iload_n 1, 1) := by decide +kernel
theorem dX6_swear_29 : decode cX6_swear 29 = .ok (.iaload, 1) := by decide +kernel
theorem dX6_swear_30 : decode cX6_swear 30 = .ok (.iconst 1, 1) := by decide +kernel
theorem dX6_swear_31 : decode cX6_swear 31 = .ok (.if_icmp .ne 28, 3) := by decide +kernel
theorem dX6_swear_34 : decode cX6_swear 34 = .ok (.iload_n 2, 1) := by decide +kernel
theorem dX6_swear_35 : decode cX6_swear 35 = .ok (.ifCond .eq 15, 3) := by decide +kernel
theorem dX6_swear_38 : decode cX6_swear 38 = .ok (.aload_n 0, 1) := by decide +kernel
theorem dX6_swear_39 : decode cX6_swear 39 = .ok (.getfield 66, 3) := by decide +kernel
theorem dX6_swear_42 : decode cX6_swear 42 = .ok (.iload_n 1, 1) := by decide +kernel
theorem dX6_swear_43 : decode cX6_swear 43 = .ok (.baload, 1) := by decide +kernel
theorem dX6_swear_44 : decode cX6_swear 44 = .ok (.ifCond .eq 17, 3) := by decide +kernel
theorem dX6_swear_47 : decode cX6_swear 47 = .ok (.goto 12, 3) := by decide +kernel
theorem dX6_swear_50 : decode cX6_swear 50 = .ok (.aload_n 0, 1) := by decide +kernel
theorem dX6_swear_51 : decode cX6_swear 51 = .ok (.getfield 69, 3) := by decide +kernel
theorem dX6_swear_54 : decode cX6_swear 54 = .ok (.iload_n 1, 1) := by decide +kernel
theorem dX6_swear_55 : decode cX6_swear 55 = .ok (.baload, 1) := by decide +kernel
theorem dX6_swear_56 : decode cX6_swear 56 = .ok (.ifCond .eq 5, 3) := by decide +kernel
theorem dX6_swear_59 : decode cX6_swear 59 = .ok (.iconst 0, 1) := by decide +kernel
theorem dX6_swear_60 : decode cX6_swear 60 = .ok (.ireturn, 1) := by decide +kernel
theorem dX6_swear_61 : decode cX6_swear 61 = .ok (.iload_n 2, 1) := by decide +kernel
theorem dX6_swear_62 : decode cX6_swear 62 = .ok (.ifCond .eq 13, 3) := by decide +kernel
theorem dX6_swear_65 : decode cX6_swear 65 = .ok (.aload_n 0, 1) := by decide +kernel
theorem dX6_swear_66 : decode cX6_swear 66 = .ok (.getfield 66, 3) := by decide +kernel
theorem dX6_swear_69 : decode cX6_swear 69 = .ok (.iload_n 1, 1) := by decide +kernel
theorem dX6_swear_70 : decode cX6_swear 70 = .ok (.iconst 1, 1) := by decide +kernel
theorem dX6_swear_71 : decode cX6_swear 71 = .ok (.bastore, 1) := by decide +kernel
theorem dX6_swear_72 : decode cX6_swear 72 = .ok (.goto 10, 3) := by decide +kernel
theorem dX6_swear_75 : decode cX6_swear 75 = .ok (.aload_n 0, 1) := by decide +kernel
theorem dX6_swear_76 : decode cX6_swear 76 = .ok (.getfield 69, 3) := by decide +kernel
theorem dX6_swear_79 : decode cX6_swear 79 = .ok (.iload_n 1, 1) := by decide +kernel
theorem dX6_swear_80 : decode cX6_swear 80 = .ok (.iconst 1, 1) := by decide +kernel
theorem dX6_swear_81 : decode cX6_swear 81 = .ok (.bastore, 1) := by decide +kernel
theorem dX6_swear_82 : decode cX6_swear 82 = .ok (.aload_n 0, 1) := by decide +kernel
theorem dX6_swear_83 : decode cX6_swear 83 = .ok (.getfield 66, 3) := by decide +kernel
theorem dX6_swear_86 : decode cX6_swear 86 = .ok (.iload_n 1, 1) := by decide +kernel
theorem dX6_swear_87 : decode cX6_swear 87 = .ok (.baload, 1) := by decide +kernel
theorem dX6_swear_88 : decode cX6_swear 88 = .ok (.ifCond .eq 12, 3) := by decide +kernel
theorem dX6_swear_91 : decode cX6_swear 91 = .ok (.aload_n 0, 1) := by decide +kernel
theorem dX6_swear_92 : decode cX6_swear 92 = .ok (.getfield 69, 3) := by decide +kernel
theorem dX6_swear_95 : decode cX6_swear 95 = .ok (.iload_n 1, 1) := by decide +kernel
theorem dX6_swear_96 : decode cX6_swear 96 = .ok (.baload, 1) := by decide +kernel
theorem dX6_swear_97 : decode cX6_swear 97 = .ok (.ifCond .ne 5, 3) := by decide +kernel
theorem dX6_swear_100 : decode cX6_swear 100 = .ok (.iconst 1, 1) := by decide +kernel
theorem dX6_swear_101 : decode cX6_swear 101 = .ok (.ireturn, 1) := by decide +kernel
theorem dX6_swear_102 : decode cX6_swear 102 = .ok (.aload_n 0, 1) := by decide +kernel
theorem dX6_swear_103 : decode cX6_swear 103 = .ok (.getfield 60, 3) := by decide +kernel
theorem dX6_swear_106 : decode cX6_swear 106 = .ok (.iload_n 1, 1) := by decide +kernel
theorem dX6_swear_107 : decode cX6_swear 107 = .ok (.iconst 3, 1) := by decide +kernel
theorem dX6_swear_108 : decode cX6_swear 108 = .ok (.iastore, 1) := by decide +kernel
theorem dX6_swear_109 : decode cX6_swear 109 = .ok (.aload_n 0, 1) := by decide +kernel
theorem dX6_swear_110 : decode cX6_swear 110 = .ok (.getfield 48, 3) := by decide +kernel
theorem dX6_swear_113 : decode cX6_swear 113 = .ok (.iload_n 1, 1) := by decide +kernel
theorem dX6_swear_114 : decode cX6_swear 114 = .ok (.iaload, 1) := by decide +kernel
theorem dX6_swear_115 : decode cX6_swear 115 = .ok (.istore_n 3, 1) := by decide +kernel
theorem dX6_swear_116 : decode cX6_swear 116 = .ok (.aload_n 0, 1) := by decide +kernel
theorem dX6_swear_117 : decode cX6_swear 117 = .ok (.getfield 51, 3) := by decide +kernel
theorem dX6_swear_120 : decode cX6_swear 120 = .ok (.iload_n 1, 1) := by decide +kernel
theorem dX6_swear_121 : decode cX6_swear 121 = .ok (.iaload, 1) := by decide +kernel
theorem dX6_swear_122 : decode cX6_swear 122 = .ok (.istore 4, 2) := by decide +kernel
theorem dX6_swear_124 : decode cX6_swear 124 = .ok (.aload_n 0, 1) := by decide +kernel
theorem dX6_swear_125 : decode cX6_swear 125 = .ok (.getfield 29, 3) := by decide +kernel
theorem dX6_swear_128 : decode cX6_swear 128 = .ok (.iload_n 3, 1) := by decide +kernel
theorem dX6_swear_129 : decode cX6_swear 129 = .ok (.iaload, 1) := by decide +kernel
theorem dX6_swear_130 : decode cX6_swear 130 = .ok (.istore 5, 2) := by decide +kernel
theorem dX6_swear_132 : decode cX6_swear 132 = .ok (.aload_n 0, 1) := by decide +kernel
theorem dX6_swear_133 : decode cX6_swear 133 = .ok (.getfield 29, 3) := by decide +kernel
theorem dX6_swear_136 : decode cX6_swear 136 = .ok (.iload_n 3, 1) := by decide +kernel
theorem dX6_swear_137 : decode cX6_swear 137 = .ok (.aload_n 0, 1) := by decide +kernel
theorem dX6_swear_138 : decode cX6_swear 138 = .ok (.getfield 29, 3) := by decide +kernel
theorem dX6_swear_141 : decode cX6_swear 141 = .ok (.iload 4, 2) := by decide +kernel
theorem dX6_swear_143 : decode cX6_swear 143 = .ok (.iaload, 1) := by decide +kernel
theorem dX6_swear_144 : decode cX6_swear 144 = .ok (.iastore, 1) := by decide +kernel
theorem dX6_swear_145 : decode cX6_swear 145 = .ok (.aload_n 0, 1) := by decide +kernel
theorem dX6_swear_146 : decode cX6_swear 146 = .ok (.getfield 29, 3) := by decide +kernel
theorem dX6_swear_149 : decode cX6_swear 149 = .ok (.iload 4, 2) := by decide +kernel
theorem dX6_swear_151 : decode cX6_swear 151 = .ok (.iload 5, 2) := by decide +kernel
theorem dX6_swear_153 : decode cX6_swear 153 = .ok (.iastore, 1) := by decide +kernel
theorem dX6_swear_154 : decode cX6_swear 154 = .ok (.aload_n 0, 1) := by decide +kernel
theorem dX6_swear_155 : decode cX6_swear 155 = .ok (.getfield 32, 3) := by decide +kernel
theorem dX6_swear_158 : decode cX6_swear 158 = .ok (.iload_n 3, 1) := by decide +kernel
theorem dX6_swear_159 : decode cX6_swear 159 = .ok (.iaload, 1) := by decide +kernel
theorem dX6_swear_160 : decode cX6_swear 160 = .ok (.istore 6, 2) := by decide +kernel
theorem dX6_swear_162 : decode cX6_swear 162 = .ok (.aload_n 0, 1) := by decide +kernel
theorem dX6_swear_163 : decode cX6_swear 163 = .ok (.getfield 32, 3) := by decide +kernel
theorem dX6_swear_166 : decode cX6_swear 166 = .ok (.iload_n 3, 1) := by decide +kernel
theorem dX6_swear_167 : decode cX6_swear 167 = .ok (.aload_n 0, 1) := by decide +kernel
theorem dX6_swear_168 : decode cX6_swear 168 = .ok (.getfield 32, 3) := by decide +kernel
theorem dX6_swear_171 : decode cX6_swear 171 = .ok (.iload 4, 2) := by decide +kernel
theorem dX6_swear_173 : decode cX6_swear 173 = .ok (.iaload, 1) := by decide +kernel
theorem dX6_swear_174 : decode cX6_swear 174 = .ok (.iastore, 1) := by decide +kernel
theorem dX6_swear_175 : decode cX6_swear 175 = .ok (.aload_n 0, 1) := by decide +kernel
theorem dX6_swear_176 : decode cX6_swear 176 = .ok (.getfield 32, 3) := by decide +kernel
theorem dX6_swear_179 : decode cX6_swear 179 = .ok (.iload 4, 2) := by decide +kernel
theorem dX6_swear_181 : decode cX6_swear 181 = .ok (.iload 6, 2) := by decide +kernel
theorem dX6_swear_183 : decode cX6_swear 183 = .ok (.iastore, 1) := by decide +kernel
theorem dX6_swear_184 : decode cX6_swear 184 = .ok (.iconst 1, 1) := by decide +kernel
theorem dX6_swear_185 : decode cX6_swear 185 = .ok (.ireturn, 1) := by decide +kernel
theorem dX6_told_0 : decode cX6_told 0 = .ok (.aload_n 0, 1) := by decide +kernel
theorem dX6_told_1 : decode cX6_told 1 = .ok (.iconst 0, 1) := by decide +kernel
theorem dX6_told_2 : decode cX6_told 2 = .ok (.putfield 75, 3) := by decide +kernel
theorem dX6_told_5 : decode cX6_told 5 = .ok (.iload_n 1, 1) := by decide +kernel
theorem dX6_told_6 : decode cX6_told 6 = .ok (.ifCond .lt 11, 3) := by decide +kernel
theorem dX6_told_9 : decode cX6_told 9 = .ok (.iload_n 1, 1) := by decide +kernel
theorem dX6_told_10 : decode cX6_told 10 = .ok (.aload_n 0, 1) := by decide +kernel
theorem dX6_told_11 : decode cX6_told 11 = .ok (.getfield 165, 3) := by decide +kernel
theorem dX6_told_14 : decode cX6_told 14 = .ok (.if_icmp .lt 5, 3) := by decide +kernel
theorem dX6_told_17 : decode cX6_told 17 = .ok (.iconst (-1), 1) := by decide +kernel
theorem dX6_told_18 : decode cX6_told 18 = .ok (.ireturn, 1) := by decide +kernel
theorem dX6_told_19 : decode cX6_told 19 = .ok (.iload_n 2, 1) := by decide +kernel
theorem dX6_told_20 : decode cX6_told 20 = .ok (.tableswitch 94 0 5 #[40, 47, 54, 61, 68, 75], 40) := by decide +kernel
theorem dX6_told_60 : decode cX6_told 60 = .ok (.aload_n 0, 1) := by decide +kernel
theorem dX6_told_61 : decode cX6_told 61 = .ok (.getfield 48, 3) := by decide +kernel
theorem dX6_told_64 : decode cX6_told 64 = .ok (.iload_n 1, 1) := by decide +kernel
theorem dX6_told_65 : decode cX6_told 65 = .ok (.iaload, 1) := by decide +kernel
theorem dX6_told_66 : decode cX6_told 66 = .ok (.ireturn, 1) := by decide +kernel
theorem dX6_told_67 : decode cX6_told 67 = .ok (.aload_n 0, 1) := by decide +kernel
theorem dX6_told_68 : decode cX6_told 68 = .ok (.getfield 51, 3) := by decide +kernel
theorem dX6_told_71 : decode cX6_told 71 = .ok (.iload_n 1, 1) := by decide +kernel
theorem dX6_told_72 : decode cX6_told 72 = .ok (.iaload, 1) := by decide +kernel
theorem dX6_told_73 : decode cX6_told 73 = .ok (.ireturn, 1) := by decide +kernel
theorem dX6_told_74 : decode cX6_told 74 = .ok (.aload_n 0, 1) := by decide +kernel
theorem dX6_told_75 : decode cX6_told 75 = .ok (.getfield 54, 3) := by decide +kernel
theorem dX6_told_78 : decode cX6_told 78 = .ok (.iload_n 1, 1) := by decide +kernel
theorem dX6_told_79 : decode cX6_told 79 = .ok (.iaload, 1) := by decide +kernel
theorem dX6_told_80 : decode cX6_told 80 = .ok (.ireturn, 1) := by decide +kernel
theorem dX6_told_81 : decode cX6_told 81 = .ok (.aload_n 0, 1) := by decide +kernel
theorem dX6_told_82 : decode cX6_told 82 = .ok (.getfield 57, 3) := by decide +kernel
theorem dX6_told_85 : decode cX6_told 85 = .ok (.iload_n 1, 1) := by decide +kernel
theorem dX6_told_86 : decode cX6_told 86 = .ok (.iaload, 1) := by decide +kernel
theorem dX6_told_87 : decode cX6_told 87 = .ok (.ireturn, 1) := by decide +kernel
theorem dX6_told_88 : decode cX6_told 88 = .ok (.aload_n 0, 1) := by decide +kernel
theorem dX6_told_89 : decode cX6_told 89 = .ok (.getfield 60, 3) := by decide +kernel
theorem dX6_told_92 : decode cX6_told 92 = .ok (.iload_n 1, 1) := by decide +kernel
theorem dX6_told_93 : decode cX6_told 93 = .ok (.iaload, 1) := by decide +kernel
theorem dX6_told_94 : decode cX6_told 94 = .ok (.ireturn, 1) := by decide +kernel
theorem dX6_told_95 : decode cX6_told 95 = .ok (.aload_n 0, 1) := by decide +kernel
theorem dX6_told_96 : decode cX6_told 96 = .ok (.iload_n 1, 1) := by decide +kernel
theorem dX6_told_97 : decode cX6_told 97 = .ok (.invokevirtual 182, 3) := by decide +kernel
theorem dX6_told_100 : decode cX6_told 100 = .ok (.ifCond .eq 12, 3) := by decide +kernel
theorem dX6_told_103 : decode cX6_told 103 = .ok (.aload_n 0, 1) := by decide +kernel
theorem dX6_told_104 : decode cX6_told 104 = .ok (.getfield 63, 3) := by decide +kernel
theorem dX6_told_107 : decode cX6_told 107 = .ok (.iload_n 1, 1) := by decide +kernel
theorem dX6_told_108 : decode cX6_told 108 = .ok (.iaload, 1) := by decide +kernel
theorem dX6_told_109 : decode cX6_told 109 = .ok (.goto 4, 3) := by decide +kernel
theorem dX6_told_112 : decode cX6_told 112 = .ok (.iconst (-1), 1) := by decide +kernel
theorem dX6_told_113 : decode cX6_told 113 = .ok (.ireturn, 1) := by decide +kernel
theorem dX6_told_114 : decode cX6_told 114 = .ok (.iconst (-1), 1) := by decide +kernel
theorem dX6_told_115 : decode cX6_told 115 = .ok (.ireturn, 1) := by decide +kernel
theorem dX6_end_0 : decode cX6_end 0 = .ok (.aload_n 0, 1) := by decide +kernel
theorem dX6_end_1 : decode cX6_end 1 = .ok (.iconst 0, 1) := by decide +kernel
theorem dX6_end_2 : decode cX6_end 2 = .ok (.putfield 75, 3) := by decide +kernel
theorem dX6_end_5 : decode cX6_end 5 = .ok (.aload_n 0, 1) := by decide +kernel
theorem dX6_end_6 : decode cX6_end 6 = .ok (.getfield 132, 3) := by decide +kernel
theorem dX6_end_9 : decode cX6_end 9 = .ok (.ifCond .ne 5, 3) := by decide +kernel
theorem dX6_end_12 : decode cX6_end 12 = .ok (.iconst (-1), 1) := by decide +kernel
theorem dX6_end_13 : decode cX6_end 13 = .ok (.ireturn, 1) := by decide +kernel
theorem dX6_end_14 : decode cX6_end 14 = .ok (.iconst 0, 1) := by decide +kernel
theorem dX6_end_15 : decode cX6_end 15 = .ok (.istore_n 1, 1) := by decide +kernel
theorem dX6_end_16 : decode cX6_end 16 = .ok (.iload_n 1, 1) := by decide +kernel
theorem dX6_end_17 : decode cX6_end 17 = .ok (.aload_n 0, 1) := by decide +kernel
theorem dX6_end_18 : decode cX6_end 18 = .ok (.getfield 165, 3) := by decide +kernel
theorem dX6_end_21 : decode cX6_end 21 = .ok (.if_icmp .ge 22, 3) := by decide +kernel
theorem dX6_end_24 : decode cX6_end 24 = .ok (.aload_n 0, 1) := by decide +kernel
theorem dX6_end_25 : decode cX6_end 25 = .ok (.iload_n 1, 1) := by decide +kernel
theorem dX6_end_26 : decode cX6_end 26 = .ok (.invokevirtual 182, 3) := by decide +kernel
theorem dX6_end_29 : decode cX6_end 29 = .ok (.ifCond .eq 8, 3) := by decide +kernel
theorem dX6_end_32 : decode cX6_end 32 = .ok (.aload_n 0, 1) := by decide +kernel
theorem dX6_end_33 : decode cX6_end 33 = .ok (.iload_n 1, 1) := by decide +kernel
theorem dX6_end_34 : decode cX6_end 34 = .ok (.invokevirtual 185, 3) := by decide +kernel
theorem dX6_end_37 : decode cX6_end 37 = .ok (.iinc 1 1, 3) := by decide +kernel
theorem dX6_end_40 : decode cX6_end 40 = .ok (.goto (-24), 3) := by decide +kernel
theorem dX6_end_43 : decode cX6_end 43 = .ok (.iconst 0, 1) := by decide +kernel
theorem dX6_end_44 : decode cX6_end 44 = .ok (.istore_n 1, 1) := by decide +kernel
theorem dX6_end_45 : decode cX6_end 45 = .ok (.iload_n 1, 1) := by decide +kernel
theorem dX6_end_46 : decode cX6_end 46 = .ok (.aload_n 0, 1) := by decide +kernel
theorem dX6_end_47 : decode cX6_end 47 = .ok (.getfield 139, 3) := by decide +kernel
theorem dX6_end_50 : decode cX6_end 50 = .ok (.if_icmp .ge 33, 3) := by decide +kernel
theorem dX6_end_53 : decode cX6_end 53 = .ok (.aload_n 0, 1) := by decide +kernel
theorem dX6_end_54 : decode cX6_end 54 = .ok (.getfield 41, 3) := by decide +kernel
theorem dX6_end_57 : decode cX6_end 57 = .ok (.iload_n 1, 1) := by decide +kernel
theorem dX6_end_58 : decode cX6_end 58 = .ok (.iaload, 1) := by decide +kernel
theorem dX6_end_59 : decode cX6_end 59 = .ok (.ifCond .lt 18, 3) := by decide +kernel
theorem dX6_end_62 : decode cX6_end 62 = .ok (.aload_n 0, 1) := by decide +kernel
theorem dX6_end_63 : decode cX6_end 63 = .ok (.getfield 38, 3) := by decide +kernel
theorem dX6_end_66 : decode cX6_end 66 = .ok (.aload_n 0, 1) := by decide +kernel
theorem dX6_end_67 : decode cX6_end 67 = .ok (.getfield 41, 3) := by decide +kernel
theorem dX6_end_70 : decode cX6_end 70 = .ok (.iload_n 1, 1) := by decide +kernel
theorem dX6_end_71 : decode cX6_end 71 = .ok (.iaload, 1) := by decide +kernel
theorem dX6_end_72 : decode cX6_end 72 = .ok (.dup2, 1) := by decide +kernel
theorem dX6_end_73 : decode cX6_end 73 = .ok (.iaload, 1) := by decide +kernel
theorem dX6_end_74 : decode cX6_end 74 = .ok (.iconst 1, 1) := by decide +kernel
theorem dX6_end_75 : decode cX6_end 75 = .ok (.iadd, 1) := by decide +kernel
theorem dX6_end_76 : decode cX6_end 76 = .ok (.iastore, 1) := by decide +kernel
theorem dX6_end_77 : decode cX6_end 77 = .ok (.iinc 1 1, 3) := by decide +kernel
theorem dX6_end_80 : decode cX6_end 80 = .ok (.goto (-35), 3) := by decide +kernel
theorem dX6_end_83 : decode cX6_end 83 = .ok (.aload_n 0, 1) := by decide +kernel
theorem dX6_end_84 : decode cX6_end 84 = .ok (.iconst 0, 1) := by decide +kernel
theorem dX6_end_85 : decode cX6_end 85 = .ok (.iconst 0, 1) := by decide +kernel
theorem dX6_end_86 : decode cX6_end 86 = .ok (.aload_n 0, 1) := by decide +kernel
theorem dX6_end_87 : decode cX6_end 87 = .ok (.getfield 155, 3) := by decide +kernel
theorem dX6_end_90 : decode cX6_end 90 = .ok (.iconst 1, 1) := by decide +kernel
theorem dX6_end_91 : decode cX6_end 91 = .ok (.isub, 1) := by decide +kernel
theorem dX6_end_92 : decode cX6_end 92 = .ok (.invokevirtual 188, 3) := by decide +kernel
theorem dX6_end_95 : decode cX6_end 95 = .ok (.istore_n 1, 1) := by decide +kernel
theorem dX6_end_96 : decode cX6_end 96 = .ok (.aload_n 0, 1) := by decide +kernel
theorem dX6_end_97 : decode cX6_end 97 = .ok (.dup, 1) := by decide +kernel
theorem dX6_end_98 : decode cX6_end 98 = .ok (.getfield 191, 3) := by decide +kernel
theorem dX6_end_101 : decode cX6_end 101 = .ok (.iload_n 1, 1) := by decide +kernel
theorem dX6_end_102 : decode cX6_end 102 = .ok (.iadd, 1) := by decide +kernel
theorem dX6_end_103 : decode cX6_end 103 = .ok (.putfield 191, 3) := by decide +kernel
theorem dX6_end_106 : decode cX6_end 106 = .ok (.aload_n 0, 1) := by decide +kernel
theorem dX6_end_107 : decode cX6_end 107 = .ok (.iconst 0, 1) := by decide +kernel
theorem dX6_end_108 : decode cX6_end 108 = .ok (.putfield 132, 3) := by decide +kernel
theorem dX6_end_111 : decode cX6_end 111 = .ok (.iload_n 1, 1) := by decide +kernel
theorem dX6_end_112 : decode cX6_end 112 = .ok (.ireturn, 1) := by decide +kernel
theorem dX6_part_0 : decode cX6_part 0 = .ok (.aload_n 0, 1) := by decide +kernel
theorem dX6_part_1 : decode cX6_part 1 = .ok (.iconst 0, 1) := by decide +kernel
theorem dX6_part_2 : decode cX6_part 2 = .ok (.putfield 75, 3) := by decide +kernel
theorem dX6_part_5 : decode cX6_part 5 = .ok (.aload_n 0, 1) := by decide +kernel
theorem dX6_part_6 : decode cX6_part 6 = .ok (.getfield 132, 3) := by decide +kernel
theorem dX6_part_9 : decode cX6_part 9 = .ok (.ifCond .eq 24, 3) := by decide +kernel
theorem dX6_part_12 : decode cX6_part 12 = .ok (.iload_n 1, 1) := by decide +kernel
theorem dX6_part_13 : decode cX6_part 13 = .ok (.ifCond .lt 20, 3) := by decide +kernel
theorem dX6_part_16 : decode cX6_part 16 = .ok (.iload_n 1, 1) := by decide +kernel
theorem dX6_part_17 : decode cX6_part 17 = .ok (.aload_n 0, 1) := by decide +kernel
theorem dX6_part_18 : decode cX6_part 18 = .ok (.getfield 139, 3) := by decide +kernel
theorem dX6_part_21 : decode cX6_part 21 = .ok (.if_icmp .ge 12, 3) := by decide +kernel
theorem dX6_part_24 : decode cX6_part 24 = .ok (.aload_n 0, 1) := by decide +kernel
theorem dX6_part_25 : decode cX6_part 25 = .ok (.getfield 41, 3) := by decide +kernel
theorem dX6_part_28 : decode cX6_part 28 = .ok (.iload_n 1, 1) := by decide +kernel
theorem dX6_part_29 : decode cX6_part 29 = .ok (.iaload, 1) := by decide +kernel
theorem dX6_part_30 : decode cX6_part 30 = .ok (.ifCond .ge 7, 3) := by decide +kernel
theorem dX6_part_33 : decode cX6_part 33 = .ok (.iconst (-1), 1) := by decide +kernel
theorem dX6_part_34 : decode cX6_part 34 = .ok (.goto 9, 3) := by decide +kernel
theorem dX6_part_37 : decode cX6_part 37 = .ok (.aload_n 0, 1) := by decide +kernel
theorem dX6_part_38 : decode cX6_part 38 = .ok (.iload_n 1, 1) := by decide +kernel
theorem dX6_part_39 : decode cX6_part 39 = .ok (.iconst 0, 1) := by decide +kernel
theorem dX6_part_40 : decode cX6_part 40 = .ok (.invokevirtual 172, 3) := by decide +kernel
theorem dX6_part_43 : decode cX6_part 43 = .ok (.ireturn, 1) := by decide +kernel
theorem dX6_gain_0 : decode cX6_gain 0 = .ok (.aload_n 0, 1) := by decide +kernel
theorem dX6_gain_1 : decode cX6_gain 1 = .ok (.iconst 0, 1) := by decide +kernel
theorem dX6_gain_2 : decode cX6_gain 2 = .ok (.putfield 75, 3) := by decide +kernel
theorem dX6_gain_5 : decode cX6_gain 5 = .ok (.aload_n 0, 1) := by decide +kernel
theorem dX6_gain_6 : decode cX6_gain 6 = .ok (.getfield 132, 3) := by decide +kernel
theorem dX6_gain_9 : decode cX6_gain 9 = .ok (.ifCond .eq 33, 3) := by decide +kernel
theorem dX6_gain_12 : decode cX6_gain 12 = .ok (.aload_n 0, 1) := by decide +kernel
theorem dX6_gain_13 : decode cX6_gain 13 = .ok (.iload_n 1, 1) := by decide +kernel
theorem dX6_gain_14 : decode cX6_gain 14 = .ok (.invokevirtual 145, 3) := by decide +kernel
theorem dX6_gain_17 : decode cX6_gain 17 = .ok (.ifCond .eq 25, 3) := by decide +kernel
theorem dX6_gain_20 : decode cX6_gain 20 = .ok (.aload_n 0, 1) := by decide +kernel
theorem dX6_gain_21 : decode cX6_gain 21 = .ok (.iload_n 2, 1) := by decide +kernel
theorem dX6_gain_22 : decode cX6_gain 22 = .ok (.invokevirtual 145, 3) := by decide +kernel
theorem dX6_gain_25 : decode cX6_gain 25 = .ok (.ifCond .eq 17, 3) := by decide +kernel
theorem dX6_gain_28 : decode cX6_gain 28 = .ok (.iload_n 1, 1) := by decide +kernel
theorem dX6_gain_29 : decode cX6_gain 29 = .ok (.iload_n 2, 1) := by decide +kernel
theorem dX6_gain_30 : decode cX6_gain 30 = .ok (.if_icmp .eq 12, 3) := by decide +kernel
theorem dX6_gain_33 : decode cX6_gain 33 = .ok (.aload_n 0, 1) := by decide +kernel
theorem dX6_gain_34 : decode cX6_gain 34 = .ok (.iload_n 1, 1) := by decide +kernel
theorem dX6_gain_35 : decode cX6_gain 35 = .ok (.iconst 0, 1) := by decide +kernel
theorem dX6_gain_36 : decode cX6_gain 36 = .ok (.invokevirtual 148, 3) := by decide +kernel
theorem dX6_gain_39 : decode cX6_gain 39 = .ok (.goto 4, 3) := by decide +kernel
theorem dX6_gain_42 : decode cX6_gain 42 = .ok (.iconst (-1), 1) := by decide +kernel
theorem dX6_gain_43 : decode cX6_gain 43 = .ok (.istore_n 3, 1) := by decide +kernel
theorem dX6_gain_44 : decode cX6_gain 44 = .ok (.iload_n 3, 1) := by decide +kernel
theorem dX6_gain_45 : decode cX6_gain 45 = .ok (.ifCond .ge 6, 3) := by decide +kernel
theorem dX6_gain_48 : decode cX6_gain 48 = .ok (.ldc 194, 2) := by decide +kernel
theorem dX6_gain_50 : decode cX6_gain 50 = .ok (.ireturn, 1) := by decide +kernel
theorem dX6_gain_51 : decode cX6_gain 51 = .ok (.aload_n 0, 1) := by decide +kernel
theorem dX6_gain_52 : decode cX6_gain 52 = .ok (.iload_n 3, 1) := by decide +kernel
theorem dX6_gain_53 : decode cX6_gain 53 = .ok (.iconst 0, 1) := by decide +kernel
theorem dX6_gain_54 : decode cX6_gain 54 = .ok (.invokevirtual 172, 3) := by decide +kernel
theorem dX6_gain_57 : decode cX6_gain 57 = .ok (.istore 4, 2) := by decide +kernel
theorem dX6_gain_59 : decode cX6_gain 59 = .ok (.aload_n 0, 1) := by decide +kernel
theorem dX6_gain_60 : decode cX6_gain 60 = .ok (.getfield 29, 3) := by decide +kernel
theorem dX6_gain_63 : decode cX6_gain 63 = .ok (.iload_n 1, 1) := by decide +kernel
theorem dX6_gain_64 : decode cX6_gain 64 = .ok (.iaload, 1) := by decide +kernel
theorem dX6_gain_65 : decode cX6_gain 65 = .ok (.aload_n 0, 1) := by decide +kernel
theorem dX6_gain_66 : decode cX6_gain 66 = .ok (.getfield 32, 3) := by decide +kernel
theorem dX6_gain_69 : decode cX6_gain 69 = .ok (.iload_n 1, 1) := by decide +kernel
theorem dX6_gain_70 : decode cX6_gain 70 = .ok (.iaload, 1) := by decide +kernel
theorem dX6_gain_71 : decode cX6_gain 71 = .ok (.iadd, 1) := by decide +kernel
theorem dX6_gain_72 : decode cX6_gain 72 = .ok (.istore 5, 2) := by decide +kernel
theorem dX6_gain_74 : decode cX6_gain 74 = .ok (.aload_n 0, 1) := by decide +kernel
theorem dX6_gain_75 : decode cX6_gain 75 = .ok (.getfield 29, 3) := by decide +kernel
theorem dX6_gain_78 : decode cX6_gain 78 = .ok (.iload_n 2, 1) := by decide +kernel
theorem dX6_gain_79 : decode cX6_gain 79 = .ok (.iaload, 1) := by decide +kernel
theorem dX6_gain_80 : decode cX6_gain 80 = .ok (.aload_n 0, 1) := by decide +kernel
theorem dX6_gain_81 : decode cX6_gain 81 = .ok (.getfield 32, 3) := by decide +kernel
theorem dX6_gain_84 : decode cX6_gain 84 = .ok (.iload_n 2, 1) := by decide +kernel
theorem dX6_gain_85 : decode cX6_gain 85 = .ok (.iaload, 1) := by decide +kernel
theorem dX6_gain_86 : decode cX6_gain 86 = .ok (.iadd, 1) := by decide +kernel
theorem dX6_gain_87 : decode cX6_gain 87 = .ok (.istore 6, 2) := by decide +kernel
theorem dX6_gain_89 : decode cX6_gain 89 = .ok (.iload 6, 2) := by decide +kernel
theorem dX6_gain_91 : decode cX6_gain 91 = .ok (.iload 4, 2) := by decide +kernel
theorem dX6_gain_93 : decode cX6_gain 93 = .ok (.isub, 1) := by decide +kernel
theorem dX6_gain_94 : decode cX6_gain 94 = .ok (.iload 5, 2) := by decide +kernel
theorem dX6_gain_96 : decode cX6_gain 96 = .ok (.if_icmp .lt 8, 3) := by decide +kernel
theorem dX6_gain_99 : decode cX6_gain 99 = .ok (.iload 4, 2) := by decide +kernel
theorem dX6_gain_101 : decode cX6_gain 101 = .ok (.goto 8, 3) := by decide +kernel
theorem dX6_gain_104 : decode cX6_gain 104 = .ok (.iload 6, 2) := by decide +kernel
theorem dX6_gain_106 : decode cX6_gain 106 = .ok (.iload 5, 2) := by decide +kernel
theorem dX6_gain_108 : decode cX6_gain 108 = .ok (.isub, 1) := by decide +kernel
theorem dX6_gain_109 : decode cX6_gain 109 = .ok (.ireturn, 1) := by decide +kernel
theorem dX6_ahead_0 : decode cX6_ahead 0 = .ok (.aload_n 0, 1) := by decide +kernel
theorem dX6_ahead_1 : decode cX6_ahead 1 = .ok (.iconst 0, 1) := by decide +kernel
theorem dX6_ahead_2 : decode cX6_ahead 2 = .ok (.putfield 75, 3) := by decide +kernel
theorem dX6_ahead_5 : decode cX6_ahead 5 = .ok (.iload_n 1, 1) := by decide +kernel
theorem dX6_ahead_6 : decode cX6_ahead 6 = .ok (.ifCond .lt 9, 3) := by decide +kernel
theorem dX6_ahead_9 : decode cX6_ahead 9 = .ok (.iload_n 1, 1) := by decide +kernel
theorem dX6_ahead_10 : decode cX6_ahead 10 = .ok (.bipush 20, 2) := by decide +kernel
theorem dX6_ahead_12 : decode cX6_ahead 12 = .ok (.if_icmp .le 5, 3) := by decide +kernel
theorem dX6_ahead_15 : decode cX6_ahead 15 = .ok (.iconst (-1), 1) := by decide +kernel
theorem dX6_ahead_16 : decode cX6_ahead 16 = .ok (.ireturn, 1) := by decide +kernel
theorem dX6_ahead_17 : decode cX6_ahead 17 = .ok (.iconst 0, 1) := by decide +kernel
theorem dX6_ahead_18 : decode cX6_ahead 18 = .ok (.istore_n 2, 1) := by decide +kernel
theorem dX6_ahead_19 : decode cX6_ahead 19 = .ok (.iload_n 2, 1) := by decide +kernel
theorem dX6_ahead_20 : decode cX6_ahead 20 = .ok (.bipush 12, 2) := by decide +kernel
theorem dX6_ahead_22 : decode cX6_ahead 22 = .ok (.if_icmp .ge 39, 3) := by decide +kernel
theorem dX6_ahead_25 : decode cX6_ahead 25 = .ok (.aload_n 0, 1) := by decide +kernel
theorem dX6_ahead_26 : decode cX6_ahead 26 = .ok (.getfield 29, 3) := by decide +kernel
theorem dX6_ahead_29 : decode cX6_ahead 29 = .ok (.bipush 12, 2) := by decide +kernel
theorem dX6_ahead_31 : decode cX6_ahead 31 = .ok (.iload_n 2, 1) := by decide +kernel
theorem dX6_ahead_32 : decode cX6_ahead 32 = .ok (.iadd, 1) := by decide +kernel
theorem dX6_ahead_33 : decode cX6_ahead 33 = .ok (.aload_n 0, 1) := by decide +kernel
theorem dX6_ahead_34 : decode cX6_ahead 34 = .ok (.getfield 29, 3) := by decide +kernel
theorem dX6_ahead_37 : decode cX6_ahead 37 = .ok (.iload_n 2, 1) := by decide +kernel
theorem dX6_ahead_38 : decode cX6_ahead 38 = .ok (.iaload, 1) := by decide +kernel
theorem dX6_ahead_39 : decode cX6_ahead 39 = .ok (.iastore, 1) := by decide +kernel
theorem dX6_ahead_40 : decode cX6_ahead 40 = .ok (.aload_n 0, 1) := by decide +kernel
theorem dX6_ahead_41 : decode cX6_ahead 41 = .ok (.getfield 35, 3) := by decide +kernel
theorem dX6_ahead_44 : decode cX6_ahead 44 = .ok (.bipush 12, 2) := by decide +kernel
theorem dX6_ahead_46 : decode cX6_ahead 46 = .ok (.iload_n 2, 1) := by decide +kernel
theorem dX6_ahead_47 : decode cX6_ahead 47 = .ok (.iadd, 1) := by decide +kernel
theorem dX6_ahead_48 : decode cX6_ahead 48 = .ok (.aload_n 0, 1) := by decide +kernel
theorem dX6_ahead_49 : decode cX6_ahead 49 = .ok (.getfield 35, 3) := by decide +kernel
theorem dX6_ahead_52 : decode cX6_ahead 52 = .ok (.iload_n 2, 1) := by decide +kernel
theorem dX6_ahead_53 : decode cX6_ahead 53 = .ok (.iaload, 1) := by decide +kernel
theorem dX6_ahead_54 : decode cX6_ahead 54 = .ok (.iastore, 1) := by decide +kernel
theorem dX6_ahead_55 : decode cX6_ahead 55 = .ok (.iinc 2 1, 3) := by decide +kernel
theorem dX6_ahead_58 : decode cX6_ahead 58 = .ok (.goto (-39), 3) := by decide +kernel
theorem dX6_ahead_61 : decode cX6_ahead 61 = .ok (.aload_n 0, 1) := by decide +kernel
theorem dX6_ahead_62 : decode cX6_ahead 62 = .ok (.getfield 132, 3) := by decide +kernel
theorem dX6_ahead_65 : decode cX6_ahead 65 = .ok (.ifCond .eq 101, 3) := by decide +kernel
theorem dX6_ahead_68 : decode cX6_ahead 68 = .ok (.iconst 0, 1) := by decide +kernel
theorem dX6_ahead_69 : decode cX6_ahead 69 = .ok (.istore_n 2, 1) := by decide +kernel
theorem dX6_ahead_70 : decode cX6_ahead 70 = .ok (.iload_n 2, 1) := by decide +kernel
theorem dX6_ahead_71 : decode cX6_ahead 71 = .ok (.aload_n 0, 1) := by decide +kernel
theorem dX6_ahead_72 : decode cX6_ahead 72 = .ok (.getfield 139, 3) := by decide +kernel
theorem dX6_ahead_75 : decode cX6_ahead 75 = .ok (.if_icmp .ge 24, 3) := by decide +kernel
theorem dX6_ahead_78 : decode cX6_ahead 78 = .ok (.aload_n 0, 1) := by decide +kernel
theorem dX6_ahead_79 : decode cX6_ahead 79 = .ok (.getfield 41, 3) := by decide +kernel
theorem dX6_ahead_82 : decode cX6_ahead 82 = .ok (.bipush 24, 2) := by decide +kernel
theorem dX6_ahead_84 : decode cX6_ahead 84 = .ok (.iload_n 2, 1) := by decide +kernel
theorem dX6_ahead_85 : decode cX6_ahead 85 = .ok (.iadd, 1) := by decide +kernel
theorem dX6_ahead_86 : decode cX6_ahead 86 = .ok (.aload_n 0, 1) := by decide +kernel
theorem dX6_ahead_87 : decode cX6_ahead 87 = .ok (.getfield 41, 3) := by decide +kernel
theorem dX6_ahead_90 : decode cX6_ahead 90 = .ok (.iload_n 2, 1) := by decide +kernel
theorem dX6_ahead_91 : decode cX6_ahead 91 = .ok (.iaload, 1) := by decide +kernel
theorem dX6_ahead_92 : decode cX6_ahead 92 = .ok (.iastore, 1) := by decide +kernel
theorem dX6_ahead_93 : decode cX6_ahead 93 = .ok (.iinc 2 1, 3) := by decide +kernel
theorem dX6_ahead_96 : decode cX6_ahead 96 = .ok (.goto (-26), 3) := by decide +kernel
theorem dX6_ahead_99 : decode cX6_ahead 99 = .ok (.iconst 0, 1) := by decide +kernel
theorem dX6_ahead_100 : decode cX6_ahead 100 = .ok (.istore_n 2, 1) := by decide +kernel
theorem dX6_ahead_101 : decode cX6_ahead 101 = .ok (.iload_n 2, 1) := by decide +kernel
theorem dX6_ahead_102 : decode cX6_ahead 102 = .ok (.aload_n 0, 1) := by decide +kernel
theorem dX6_ahead_103 : decode cX6_ahead 103 = .ok (.getfield 165, 3) := by decide +kernel
theorem dX6_ahead_106 : decode cX6_ahead 106 = .ok (.if_icmp .ge 45, 3) := by decide +kernel
theorem dX6_ahead_109 : decode cX6_ahead 109 = .ok (.aload_n 0, 1) := by decide +kernel
theorem dX6_ahead_110 : decode cX6_ahead 110 = .ok (.iload_n 2, 1) := by decide +kernel
theorem dX6_ahead_111 : decode cX6_ahead 111 = .ok (.invokevirtual 182, 3) := by decide +kernel
theorem dX6_ahead_114 : decode cX6_ahead 114 = .ok (.ifCond .eq 31, 3) := by decide +kernel
theorem dX6_ahead_117 : decode cX6_ahead 117 = .ok (.aload_n 0, 1) := by decide +kernel
theorem dX6_ahead_118 : decode cX6_ahead 118 = .ok (.iload_n 2, 1) := by decide +kernel
theorem dX6_ahead_119 : decode cX6_ahead 119 = .ok (.invokevirtual 175, 3) := by decide +kernel
theorem dX6_ahead_122 : decode cX6_ahead 122 = .ok (.ifCond .eq 23, 3) := by decide +kernel
theorem dX6_ahead_125 : decode cX6_ahead 125 = .ok (.aload_n 0, 1) := by decide +kernel
theorem dX6_ahead_126 : decode cX6_ahead 126 = .ok (.getfield 41, 3) := by decide +kernel
theorem dX6_ahead_129 : decode cX6_ahead 129 = .ok (.bipush 24, 2) := by decide +kernel
theorem dX6_ahead_131 : decode cX6_ahead 131 = .ok (.aload_n 0, 1) := by decide +kernel
theorem dX6_ahead_132 : decode cX6_ahead 132 = .ok (.getfield 54, 3) := by decide +kernel
theorem dX6_ahead_135 : decode cX6_ahead 135 = .ok (.iload_n 2, 1) := by decide +kernel
theorem dX6_ahead_136 : decode cX6_ahead 136 = .ok (.iaload, 1) := by decide +kernel
theorem dX6_ahead_137 : decode cX6_ahead 137 = .ok (.iadd, 1) := by decide +kernel
theorem dX6_ahead_138 : decode cX6_ahead 138 = .ok (.aload_n 0, 1) := by decide +kernel
theorem dX6_ahead_139 : decode cX6_ahead 139 = .ok (.getfield 51, 3) := by decide +kernel
theorem dX6_ahead_142 : decode cX6_ahead 142 = .ok (.iload_n 2, 1) := by decide +kernel
theorem dX6_ahead_143 : decode cX6_ahead 143 = .ok (.iaload, 1) := by decide +kernel
theorem dX6_ahead_144 : decode cX6_ahead 144 = .ok (.iastore, 1) := by decide +kernel
theorem dX6_ahead_145 : decode cX6_ahead 145 = .ok (.iinc 2 1, 3) := by decide +kernel
theorem dX6_ahead_148 : decode cX6_ahead 148 = .ok (.goto (-47), 3) := by decide +kernel
theorem dX6_ahead_151 : decode cX6_ahead 151 = .ok (.aload_n 0, 1) := by decide +kernel
theorem dX6_ahead_152 : decode cX6_ahead 152 = .ok (.bipush 12, 2) := by decide +kernel
theorem dX6_ahead_154 : decode cX6_ahead 154 = .ok (.bipush 24, 2) := by decide +kernel
theorem dX6_ahead_156 : decode cX6_ahead 156 = .ok (.aload_n 0, 1) := by decide +kernel
theorem dX6_ahead_157 : decode cX6_ahead 157 = .ok (.getfield 155, 3) := by decide +kernel
theorem dX6_ahead_160 : decode cX6_ahead 160 = .ok (.iconst 1, 1) := by decide +kernel
theorem dX6_ahead_161 : decode cX6_ahead 161 = .ok (.isub, 1) := by decide +kernel
theorem dX6_ahead_162 : decode cX6_ahead 162 = .ok (.invokevirtual 188, 3) := by decide +kernel
theorem dX6_ahead_165 : decode cX6_ahead 165 = .ok (.istore_n 2, 1) := by decide +kernel
theorem dX6_ahead_166 : decode cX6_ahead 166 = .ok (.iconst 0, 1) := by decide +kernel
theorem dX6_ahead_167 : decode cX6_ahead 167 = .ok (.istore_n 2, 1) := by decide +kernel
theorem dX6_ahead_168 : decode cX6_ahead 168 = .ok (.iconst 0, 1) := by decide +kernel
theorem dX6_ahead_169 : decode cX6_ahead 169 = .ok (.istore_n 3, 1) := by decide +kernel
theorem dX6_ahead_170 : decode cX6_ahead 170 = .ok (.iload_n 3, 1) := by decide +kernel
theorem dX6_ahead_171 : decode cX6_ahead 171 = .ok (.iload_n 1, 1) := by decide +kernel
theorem dX6_ahead_172 : decode cX6_ahead 172 = .ok (.if_icmp .gt 40, 3) := by decide +kernel
theorem dX6_ahead_175 : decode cX6_ahead 175 = .ok (.aload_n 0, 1) := by decide +kernel
theorem dX6_ahead_176 : decode cX6_ahead 176 = .ok (.bipush 12, 2) := by decide +kernel
theorem dX6_ahead_178 : decode cX6_ahead 178 = .ok (.bipush 24, 2) := by decide +kernel
theorem dX6_ahead_180 : decode cX6_ahead 180 = .ok (.aload_n 0, 1) := by decide +kernel
theorem dX6_ahead_181 : decode cX6_ahead 181 = .ok (.getfield 155, 3) := by decide +kernel
theorem dX6_ahead_184 : decode cX6_ahead 184 = .ok (.iload_n 3, 1) := by decide +kernel
theorem dX6_ahead_185 : decode cX6_ahead 185 = .ok (.iadd, 1) := by decide +kernel
theorem dX6_ahead_186 : decode cX6_ahead 186 = .ok (.invokevirtual 168, 3) := by decide +kernel
theorem dX6_ahead_189 : decode cX6_ahead 189 = .ok (.istore_n 2, 1) := by decide +kernel
theorem dX6_ahead_190 : decode cX6_ahead 190 = .ok (.aload_n 0, 1) := by decide +kernel
theorem dX6_ahead_191 : decode cX6_ahead 191 = .ok (.bipush 12, 2) := by decide +kernel
theorem dX6_ahead_193 : decode cX6_ahead 193 = .ok (.bipush 24, 2) := by decide +kernel
theorem dX6_ahead_195 : decode cX6_ahead 195 = .ok (.aload_n 0, 1) := by decide +kernel
theorem dX6_ahead_196 : decode cX6_ahead 196 = .ok (.getfield 155, 3) := by decide +kernel
theorem dX6_ahead_199 : decode cX6_ahead 199 = .ok (.iload_n 3, 1) := by decide +kernel
theorem dX6_ahead_200 : decode cX6_ahead 200 = .ok (.iadd, 1) := by decide +kernel
theorem dX6_ahead_201 : decode cX6_ahead 201 = .ok (.invokevirtual 188, 3) := by decide +kernel
theorem dX6_ahead_204 : decode cX6_ahead 204 = .ok (.istore 4, 2) := by decide +kernel
theorem dX6_ahead_206 : decode cX6_ahead 206 = .ok (.iinc 3 1, 3) := by decide +kernel
theorem dX6_ahead_209 : decode cX6_ahead 209 = .ok (.goto (-39), 3) := by decide +kernel
theorem dX6_ahead_212 : decode cX6_ahead 212 = .ok (.iload_n 2, 1) := by decide +kernel
theorem dX6_ahead_213 : decode cX6_ahead 213 = .ok (.ireturn, 1) := by decide +kernel
theorem dX6_count_0 : decode cX6_count 0 = .ok (.aload_n 0, 1) := by decide +kernel
theorem dX6_count_1 : decode cX6_count 1 = .ok (.iconst 0, 1) := by decide +kernel
theorem dX6_count_2 : decode cX6_count 2 = .ok (.putfield 75, 3) := by decide +kernel
theorem dX6_count_5 : decode cX6_count 5 = .ok (.iload_n 1, 1) := by decide +kernel
theorem dX6_count_6 : decode cX6_count 6 = .ok (.tableswitch 79 0 5 #[38, 43, 48, 53, 69, 74], 38) := by decide +kernel
theorem dX6_count_44 : decode cX6_count 44 = .ok (.aload_n 0, 1) := by decide +kernel
theorem dX6_count_45 : decode cX6_count 45 = .ok (.getfield 142, 3) := by decide +kernel
theorem dX6_count_48 : decode cX6_count 48 = .ok (.ireturn, 1) := by decide +kernel
theorem dX6_count_49 : decode cX6_count 49 = .ok (.aload_n 0, 1) := by decide +kernel
theorem dX6_count_50 : decode cX6_count 50 = .ok (.getfield 139, 3) := by decide +kernel
theorem dX6_count_53 : decode cX6_count 53 = .ok (.ireturn, 1) := by decide +kernel
theorem dX6_count_54 : decode cX6_count 54 = .ok (.aload_n 0, 1) := by decide +kernel
theorem dX6_count_55 : decode cX6_count 55 = .ok (.getfield 155, 3) := by decide +kernel
theorem dX6_count_58 : decode cX6_count 58 = .ok (.ireturn, 1) := by decide +kernel
theorem dX6_count_59 : decode cX6_count 59 = .ok (.aload_n 0, 1) := by decide +kernel
theorem dX6_count_60 : decode cX6_count 60 = .ok (.getfield 132, 3) := by decide +kernel
theorem dX6_count_63 : decode cX6_count 63 = .ok (.ifCond .eq 10, 3) := by decide +kernel
theorem dX6_count_66 : decode cX6_count 66 = .ok (.aload_n 0, 1) := by decide +kernel
theorem dX6_count_67 : decode cX6_count 67 = .ok (.getfield 162, 3) := by decide +kernel
theorem dX6_count_70 : decode cX6_count 70 = .ok (.goto 4, 3) := by decide +kernel
theorem dX6_count_73 : decode cX6_count 73 = .ok (.iconst (-1), 1) := by decide +kernel
theorem dX6_count_74 : decode cX6_count 74 = .ok (.ireturn, 1) := by decide +kernel
theorem dX6_count_75 : decode cX6_count 75 = .ok (.aload_n 0, 1) := by decide +kernel
theorem dX6_count_76 : decode cX6_count 76 = .ok (.getfield 165, 3) := by decide +kernel
theorem dX6_count_79 : decode cX6_count 79 = .ok (.ireturn, 1) := by decide +kernel
theorem dX6_count_80 : decode cX6_count 80 = .ok (.aload_n 0, 1) := by decide +kernel
theorem dX6_count_81 : decode cX6_count 81 = .ok (.getfield 191, 3) := by decide +kernel
theorem dX6_count_84 : decode cX6_count 84 = .ok (.ireturn, 1) := by decide +kernel
theorem dX6_count_85 : decode cX6_count 85 = .ok (.iconst (-1), 1) := by decide +kernel
theorem dX6_count_86 : decode cX6_count 86 = .ok (.ireturn, 1) := by decide +kernel
theorem dJ9_min_7cf53_0 : decode cJ9_min_7cf53 0 = .ok (.iload_n 0, 1) := by decide +kernel
theorem dJ9_min_7cf53_1 : decode cJ9_min_7cf53 1 = .ok (.iload_n 1, 1) := by decide +kernel
theorem dJ9_min_7cf53_2 : decode cJ9_min_7cf53 2 = .ok (.if_icmp .gt 7, 3) := by decide +kernel
theorem dJ9_min_7cf53_5 : decode cJ9_min_7cf53 5 = .ok (.iload_n 0, 1) := by decide +kernel
theorem dJ9_min_7cf53_6 : decode cJ9_min_7cf53 6 = .ok (.goto 4, 3) := by decide +kernel
theorem dJ9_min_7cf53_9 : decode cJ9_min_7cf53 9 = .ok (.iload_n 1, 1) := by decide +kernel
theorem dJ9_min_7cf53_10 : decode cJ9_min_7cf53 10 = .ok (.ireturn, 1) := by decide +kernel
theorem dJ0_length_8abf5_0 : decode cJ0_length_8abf5 0 = .ok (.aload_n 0, 1) := by decide +kernel
theorem dJ0_length_8abf5_1 : decode cJ0_length_8abf5 1 = .ok (.getfield 9, 3) := by decide +kernel
theorem dJ0_length_8abf5_4 : decode cJ0_length_8abf5 4 = .ok (.arraylength, 1) := by decide +kernel
theorem dJ0_length_8abf5_5 : decode cJ0_length_8abf5 5 = .ok (.aload_n 0, 1) := by decide +kernel
theorem dJ0_length_8abf5_6 : decode cJ0_length_8abf5 6 = .ok (.invokevirtual 335, 3) := by decide +kernel
theorem dJ0_length_8abf5_9 : decode cJ0_length_8abf5 9 = .ok (.ishr, 1) := by decide +kernel
theorem dJ0_length_8abf5_10 : decode cJ0_length_8abf5 10 = .ok (.ireturn, 1) := by decide +kernel
theorem dJ0_charAt_5068e_0 : decode cJ0_charAt_5068e 0 = .ok (.aload_n 0, 1) := by decide +kernel
theorem dJ0_charAt_5068e_1 : decode cJ0_charAt_5068e 1 = .ok (.invokevirtual 492, 3) := by decide +kernel
theorem dJ0_charAt_5068e_4 : decode cJ0_charAt_5068e 4 = .ok (.ifCond .eq 12, 3) := by decide +kernel
theorem dJ0_charAt_5068e_7 : decode cJ0_charAt_5068e 7 = .ok (.aload_n 0, 1) := by decide +kernel
theorem dJ0_charAt_5068e_8 : decode cJ0_charAt_5068e 8 = .ok (.getfield 9, 3) := by decide +kernel
theorem dJ0_charAt_5068e_11 : decode cJ0_charAt_5068e 11 = .ok (.iload_n 1, 1) := by decide +kernel
theorem dJ0_charAt_5068e_12 : decode cJ0_charAt_5068e 12 = .ok (.invokestatic 495, 3) := by decide +kernel
theorem dJ0_charAt_5068e_15 : decode cJ0_charAt_5068e 15 = .ok (.ireturn, 1) := by decide +kernel
theorem dJ0_charAt_5068e_16 : decode cJ0_charAt_5068e 16 = .ok (.aload_n 0, 1) := by decide +kernel
theorem dJ0_charAt_5068e_17 : decode cJ0_charAt_5068e 17 = .ok (.getfield 9, 3) := by decide +kernel
theorem dJ0_charAt_5068e_20 : decode cJ0_charAt_5068e 20 = .ok (.iload_n 1, 1) := by decide +kernel
theorem dJ0_charAt_5068e_21 : decode cJ0_charAt_5068e 21 = .ok (.invokestatic 498, 3) := by decide +kernel
theorem dJ0_charAt_5068e_24 : decode cJ0_charAt_5068e 24 = .ok (.ireturn, 1) := by decide +kernel
theorem dJ0_coder_7d493_0 : decode cJ0_coder_7d493 0 = .ok (.getstatic 38, 3) := by decide +kernel
theorem dJ0_coder_7d493_3 : decode cJ0_coder_7d493 3 = .ok (.ifCond .eq 10, 3) := by decide +kernel
theorem dJ0_coder_7d493_6 : decode cJ0_coder_7d493 6 = .ok (.aload_n 0, 1) := by decide +kernel
theorem dJ0_coder_7d493_7 : decode cJ0_coder_7d493 7 = .ok (.getfield 15, 3) := by decide +kernel
theorem dJ0_coder_7d493_10 : decode cJ0_coder_7d493 10 = .ok (.goto 4, 3) := by decide +kernel
theorem dJ0_coder_7d493_13 : decode cJ0_coder_7d493 13 = .ok (.iconst 1, 1) := by decide +kernel
theorem dJ0_coder_7d493_14 : decode cJ0_coder_7d493 14 = .ok (.ireturn, 1) := by decide +kernel
theorem dJ0_isLatin1_aae02_0 : decode cJ0_isLatin1_aae02 0 = .ok (.getstatic 38, 3) := by decide +kernel
theorem dJ0_isLatin1_aae02_3 : decode cJ0_isLatin1_aae02 3 = .ok (.ifCond .eq 14, 3) := by decide +kernel
theorem dJ0_isLatin1_aae02_6 : decode cJ0_isLatin1_aae02 6 = .ok (.aload_n 0, 1) := by decide +kernel
theorem dJ0_isLatin1_aae02_7 : decode cJ0_isLatin1_aae02 7 = .ok (.getfield 15, 3) := by decide +kernel
theorem dJ0_isLatin1_aae02_10 : decode cJ0_isLatin1_aae02 10 = .ok (.ifCond .ne 7, 3) := by decide +kernel
theorem dJ0_isLatin1_aae02_13 : decode cJ0_isLatin1_aae02 13 = .ok (.iconst 1, 1) := by decide +kernel
theorem dJ0_isLatin1_aae02_14 : decode cJ0_isLatin1_aae02 14 = .ok (.goto 4, 3) := by decide +kernel
theorem dJ0_isLatin1_aae02_17 : decode cJ0_isLatin1_aae02 17 = .ok (.iconst 0, 1) := by decide +kernel
theorem dJ0_isLatin1_aae02_18 : decode cJ0_isLatin1_aae02 18 = .ok (.ireturn, 1) := by decide +kernel
theorem dJ0_checkIndex_df160_0 : decode cJ0_checkIndex_df160 0 = .ok (.iload_n 0, 1) := by decide +kernel
theorem dJ0_checkIndex_df160_1 : decode cJ0_checkIndex_df160 1 = .ok (.iload_n 1, 1) := by decide +kernel
theorem dJ0_checkIndex_df160_2 : decode cJ0_checkIndex_df160 2 = .ok (.getstatic 1053, 3) := by decide +kernel
theorem dJ0_checkIndex_df160_5 : decode cJ0_checkIndex_df160 5 = .ok (.invokestatic 1059, 3) := by decide +kernel
theorem dJ0_checkIndex_df160_8 : decode cJ0_checkIndex_df160 8 = .ok (.pop, 1) := by decide +kernel
theorem dJ0_checkIndex_df160_9 : decode cJ0_checkIndex_df160 9 = .ok (.return_, 1) := by decide +kernel
theorem dJ1_charAt_3b067_0 : decode cJ1_charAt_3b067 0 = .ok (.iload_n 1, 1) := by decide +kernel
theorem dJ1_charAt_3b067_1 : decode cJ1_charAt_3b067 1 = .ok (.aload_n 0, 1) := by decide +kernel
theorem dJ1_charAt_3b067_2 : decode cJ1_charAt_3b067 2 = .ok (.arraylength, 1) := by decide +kernel
theorem dJ1_charAt_3b067_3 : decode cJ1_charAt_3b067 3 = .ok (.invokestatic 9, 3) := by decide +kernel
theorem dJ1_charAt_3b067_6 : decode cJ1_charAt_3b067 6 = .ok (.aload_n 0, 1) := by decide +kernel
theorem dJ1_charAt_3b067_7 : decode cJ1_charAt_3b067 7 = .ok (.iload_n 1, 1) := by decide +kernel
theorem dJ1_charAt_3b067_8 : decode cJ1_charAt_3b067 8 = .ok (.baload, 1) := by decide +kernel
theorem dJ1_charAt_3b067_9 : decode cJ1_charAt_3b067 9 = .ok (.sipush 255, 3) := by decide +kernel
theorem dJ1_charAt_3b067_12 : decode cJ1_charAt_3b067 12 = .ok (.iand, 1) := by decide +kernel
theorem dJ1_charAt_3b067_13 : decode cJ1_charAt_3b067 13 = .ok (.i2c, 1) := by decide +kernel
theorem dJ1_charAt_3b067_14 : decode cJ1_charAt_3b067 14 = .ok (.ireturn, 1) := by decide +kernel
theorem dJ2_getChar_3b067_0 : decode cJ2_getChar_3b067 0 = .ok (.getstatic 44, 3) := by decide +kernel
theorem dJ2_getChar_3b067_3 : decode cJ2_getChar_3b067 3 = .ok (.ifCond .ne 25, 3) := by decide +kernel
theorem dJ2_getChar_3b067_6 : decode cJ2_getChar_3b067 6 = .ok (.iload_n 1, 1) := by decide +kernel
theorem dJ2_getChar_3b067_7 : decode cJ2_getChar_3b067 7 = .ok (.ifCond .lt 11, 3) := by decide +kernel
theorem dJ2_getChar_3b067_10 : decode cJ2_getChar_3b067 10 = .ok (.iload_n 1, 1) := by decide +kernel
theorem dJ2_getChar_3b067_11 : decode cJ2_getChar_3b067 11 = .ok (.aload_n 0, 1) := by decide +kernel
theorem dJ2_getChar_3b067_12 : decode cJ2_getChar_3b067 12 = .ok (.invokestatic 48, 3) := by decide +kernel
theorem dJ2_getChar_3b067_15 : decode cJ2_getChar_3b067 15 = .ok (.if_icmp .lt 13, 3) := by decide +kernel
theorem dJ2_getChar_3b067_18 : decode cJ2_getChar_3b067 18 = .ok (.new 52, 3) := by decide +kernel
theorem dJ2_getChar_3b067_21 : decode cJ2_getChar_3b067 21 = .ok (.dup, 1) := by decide +kernel
theorem dJ2_getChar_3b067_22 : decode cJ2_getChar_3b067 22 = .ok (.ldc 54, 2) := by decide +kernel
theorem dJ2_getChar_3b067_24 : decode cJ2_getChar_3b067 24 = .ok (.invokespecial 56, 3) := by decide +kernel
theorem dJ2_getChar_3b067_27 : decode cJ2_getChar_3b067 27 = .ok (.athrow, 1) := by decide +kernel
theorem dJ2_getChar_3b067_28 : decode cJ2_getChar_3b067 28 = .ok (.iload_n 1, 1) := by decide +kernel
theorem dJ2_getChar_3b067_29 : decode cJ2_getChar_3b067 29 = .ok (.iconst 1, 1) := by decide +kernel
theorem dJ2_getChar_3b067_30 : decode cJ2_getChar_3b067 30 = .ok (.ishl, 1) := by decide +kernel
theorem dJ2_getChar_3b067_31 : decode cJ2_getChar_3b067 31 = .ok (.istore_n 1, 1) := by decide +kernel
theorem dJ2_getChar_3b067_32 : decode cJ2_getChar_3b067 32 = .ok (.aload_n 0, 1) := by decide +kernel
theorem dJ2_getChar_3b067_33 : decode cJ2_getChar_3b067 33 = .ok (.iload_n 1, 1) := by decide +kernel
theorem dJ2_getChar_3b067_34 : decode cJ2_getChar_3b067 34 = .ok (.iinc 1 1, 3) := by decide +kernel
theorem dJ2_getChar_3b067_37 : decode cJ2_getChar_3b067 37 = .ok (.baload, 1) := by decide +kernel
theorem dJ2_getChar_3b067_38 : decode cJ2_getChar_3b067 38 = .ok (.sipush 255, 3) := by decide +kernel
theorem dJ2_getChar_3b067_41 : decode cJ2_getChar_3b067 41 = .ok (.iand, 1) := by decide +kernel
theorem dJ2_getChar_3b067_42 : decode cJ2_getChar_3b067 42 = .ok (.getstatic 59, 3) := by decide +kernel
theorem dJ2_getChar_3b067_45 : decode cJ2_getChar_3b067 45 = .ok (.ishl, 1) := by decide +kernel
theorem dJ2_getChar_3b067_46 : decode cJ2_getChar_3b067 46 = .ok (.aload_n 0, 1) := by decide +kernel
theorem dJ2_getChar_3b067_47 : decode cJ2_getChar_3b067 47 = .ok (.iload_n 1, 1) := by decide +kernel
theorem dJ2_getChar_3b067_48 : decode cJ2_getChar_3b067 48 = .ok (.baload, 1) := by decide +kernel
theorem dJ2_getChar_3b067_49 : decode cJ2_getChar_3b067 49 = .ok (.sipush 255, 3) := by decide +kernel
theorem dJ2_getChar_3b067_52 : decode cJ2_getChar_3b067 52 = .ok (.iand, 1) := by decide +kernel
theorem dJ2_getChar_3b067_53 : decode cJ2_getChar_3b067 53 = .ok (.getstatic 63, 3) := by decide +kernel
theorem dJ2_getChar_3b067_56 : decode cJ2_getChar_3b067 56 = .ok (.ishl, 1) := by decide +kernel
theorem dJ2_getChar_3b067_57 : decode cJ2_getChar_3b067 57 = .ok (.ior, 1) := by decide +kernel
theorem dJ2_getChar_3b067_58 : decode cJ2_getChar_3b067 58 = .ok (.i2c, 1) := by decide +kernel
theorem dJ2_getChar_3b067_59 : decode cJ2_getChar_3b067 59 = .ok (.ireturn, 1) := by decide +kernel
theorem dJ2_length_9d52b_0 : decode cJ2_length_9d52b 0 = .ok (.aload_n 0, 1) := by decide +kernel
theorem dJ2_length_9d52b_1 : decode cJ2_length_9d52b 1 = .ok (.arraylength, 1) := by decide +kernel
theorem dJ2_length_9d52b_2 : decode cJ2_length_9d52b 2 = .ok (.iconst 1, 1) := by decide +kernel
theorem dJ2_length_9d52b_3 : decode cJ2_length_9d52b 3 = .ok (.ishr, 1) := by decide +kernel
theorem dJ2_length_9d52b_4 : decode cJ2_length_9d52b 4 = .ok (.ireturn, 1) := by decide +kernel
theorem dJ2_charAt_3b067_0 : decode cJ2_charAt_3b067 0 = .ok (.iload_n 1, 1) := by decide +kernel
theorem dJ2_charAt_3b067_1 : decode cJ2_charAt_3b067 1 = .ok (.aload_n 0, 1) := by decide +kernel
theorem dJ2_charAt_3b067_2 : decode cJ2_charAt_3b067 2 = .ok (.invokestatic 67, 3) := by decide +kernel
theorem dJ2_charAt_3b067_5 : decode cJ2_charAt_3b067 5 = .ok (.aload_n 0, 1) := by decide +kernel
theorem dJ2_charAt_3b067_6 : decode cJ2_charAt_3b067 6 = .ok (.iload_n 1, 1) := by decide +kernel
theorem dJ2_charAt_3b067_7 : decode cJ2_charAt_3b067 7 = .ok (.invokestatic 71, 3) := by decide +kernel
theorem dJ2_charAt_3b067_10 : decode cJ2_charAt_3b067 10 = .ok (.ireturn, 1) := by decide +kernel
theorem dJ2_checkIndex_2214a_0 : decode cJ2_checkIndex_2214a 0 = .ok (.iload_n 0, 1) := by decide +kernel
theorem dJ2_checkIndex_2214a_1 : decode cJ2_checkIndex_2214a 1 = .ok (.aload_n 1, 1) := by decide +kernel
theorem dJ2_checkIndex_2214a_2 : decode cJ2_checkIndex_2214a 2 = .ok (.invokestatic 48, 3) := by decide +kernel
theorem dJ2_checkIndex_2214a_5 : decode cJ2_checkIndex_2214a 5 = .ok (.invokestatic 414, 3) := by decide +kernel
theorem dJ2_checkIndex_2214a_8 : decode cJ2_checkIndex_2214a 8 = .ok (.return_, 1) := by decide +kernel
theorem dJ3_checkIndex_8e157_0 : decode cJ3_checkIndex_8e157 0 = .ok (.iload_n 0, 1) := by decide +kernel
theorem dJ3_checkIndex_8e157_1 : decode cJ3_checkIndex_8e157 1 = .ok (.ifCond .lt 8, 3) := by decide +kernel
theorem dJ3_checkIndex_8e157_4 : decode cJ3_checkIndex_8e157 4 = .ok (.iload_n 0, 1) := by decide +kernel
theorem dJ3_checkIndex_8e157_5 : decode cJ3_checkIndex_8e157 5 = .ok (.iload_n 1, 1) := by decide +kernel
theorem dJ3_checkIndex_8e157_6 : decode cJ3_checkIndex_8e157 6 = .ok (.if_icmp .lt 10, 3) := by decide +kernel
theorem dJ3_checkIndex_8e157_9 : decode cJ3_checkIndex_8e157 9 = .ok (.aload_n 2, 1) := by decide +kernel
theorem dJ3_checkIndex_8e157_10 : decode cJ3_checkIndex_8e157 10 = .ok (.iload_n 0, 1) := by decide +kernel
theorem dJ3_checkIndex_8e157_11 : decode cJ3_checkIndex_8e157 11 = .ok (.iload_n 1, 1) := by decide +kernel
theorem dJ3_checkIndex_8e157_12 : decode cJ3_checkIndex_8e157 12 = .ok (.invokestatic 95, 3) := by decide +kernel
theorem dJ3_checkIndex_8e157_15 : decode cJ3_checkIndex_8e157 15 = .ok (.athrow, 1) := by decide +kernel
theorem dJ3_checkIndex_8e157_16 : decode cJ3_checkIndex_8e157 16 = .ok (.iload_n 0, 1) := by decide +kernel
theorem dJ3_checkIndex_8e157_17 : decode cJ3_checkIndex_8e157 17 = .ok (.ireturn, 1) := by decide +kernel
theorem dL_look_0 : decode cL_look 0 = .ok (.aload_n 3, 1) := by decide +kernel
theorem dL_look_1 : decode cL_look 1 = .ok (.iconst 0, 1) := by decide +kernel
theorem dL_look_2 : decode cL_look 2 = .ok (.aload_n 0, 1) := by decide +kernel
theorem dL_look_3 : decode cL_look 3 = .ok (.iload_n 1, 1) := by decide +kernel
theorem dL_look_4 : decode cL_look 4 = .ok (.iload_n 2, 1) := by decide +kernel
theorem dL_look_5 : decode cL_look 5 = .ok (.invokevirtual 7, 3) := by decide +kernel
theorem dL_look_8 : decode cL_look 8 = .ok (.i2l, 1) := by decide +kernel
theorem dL_look_9 : decode cL_look 9 = .ok (.lastore, 1) := by decide +kernel
theorem dL_look_10 : decode cL_look 10 = .ok (.goto 11, 3) := by decide +kernel
theorem dL_look_13 : decode cL_look 13 = .ok (.astore 4, 2) := by decide +kernel
theorem dL_look_15 : decode cL_look 15 = .ok (.iconst 1, 1) := by decide +kernel
theorem dL_look_16 : decode cL_look 16 = .ok (.ireturn, 1) := by decide +kernel
theorem dL_look_17 : decode cL_look 17 = .ok (.astore 4, 2) := by decide +kernel
theorem dL_look_19 : decode cL_look 19 = .ok (.iconst 2, 1) := by decide +kernel
theorem dL_look_20 : decode cL_look 20 = .ok (.ireturn, 1) := by decide +kernel
theorem dL_look_21 : decode cL_look 21 = .ok (.iconst 0, 1) := by decide +kernel
theorem dL_look_22 : decode cL_look 22 = .ok (.ireturn, 1) := by decide +kernel
theorem dL_law_0 : decode cL_law 0 = .ok (.new 8, 3) := by decide +kernel
theorem dL_law_3 : decode cL_law 3 = .ok (.dup, 1) := by decide +kernel
theorem dL_law_4 : decode cL_law 4 = .ok (.invokespecial 17, 3) := by decide +kernel
theorem dL_law_7 : decode cL_law 7 = .ok (.astore_n 1, 1) := by decide +kernel
theorem dL_law_8 : decode cL_law 8 = .ok (.new 18, 3) := by decide +kernel
theorem dL_law_11 : decode cL_law 11 = .ok (.dup, 1) := by decide +kernel
theorem dL_law_12 : decode cL_law 12 = .ok (.invokespecial 20, 3) := by decide +kernel
theorem dL_law_15 : decode cL_law 15 = .ok (.astore_n 2, 1) := by decide +kernel
theorem dL_law_16 : decode cL_law 16 = .ok (.iconst 1, 1) := by decide +kernel
theorem dL_law_17 : decode cL_law 17 = .ok (.newarray .long, 2) := by decide +kernel
theorem dL_law_19 : decode cL_law 19 = .ok (.astore_n 3, 1) := by decide +kernel
theorem dL_law_20 : decode cL_law 20 = .ok (.iconst 0, 1) := by decide +kernel
theorem dL_law_21 : decode cL_law 21 = .ok (.istore 4, 2) := by decide +kernel
theorem dL_law_23 : decode cL_law 23 = .ok (.iload 4, 2) := by decide +kernel
theorem dL_law_25 : decode cL_law 25 = .ok (.aload_n 0, 1) := by decide +kernel
theorem dL_law_26 : decode cL_law 26 = .ok (.arraylength, 1) := by decide +kernel
theorem dL_law_27 : decode cL_law 27 = .ok (.bipush 6, 2) := by decide +kernel
theorem dL_law_29 : decode cL_law 29 = .ok (.isub, 1) := by decide +kernel
theorem dL_law_30 : decode cL_law 30 = .ok (.if_icmp .gt 778, 3) := by decide +kernel
theorem dL_law_33 : decode cL_law 33 = .ok (.aload_n 0, 1) := by decide +kernel
theorem dL_law_34 : decode cL_law 34 = .ok (.iload 4, 2) := by decide +kernel
theorem dL_law_36 : decode cL_law 36 = .ok (.iaload, 1) := by decide +kernel
theorem dL_law_37 : decode cL_law 37 = .ok (.bipush 31, 2) := by decide +kernel
theorem dL_law_39 : decode cL_law 39 = .ok (.iand, 1) := by decide +kernel
theorem dL_law_40 : decode cL_law 40 = .ok (.tableswitch 762 0 18 #[92, 165, 190, 215, 252, 289, 357, 382, 419, 432, 457, 494, 547, 600, 637, 650, 675, 712, 737], 92) := by decide +kernel
theorem dL_law_132 : decode cL_law 132 = .ok (.aload_n 1, 1) := by decide +kernel
theorem dL_law_133 : decode cL_law 133 = .ok (.aload_n 0, 1) := by decide +kernel
theorem dL_law_134 : decode cL_law 134 = .ok (.iload 4, 2) := by decide +kernel
theorem dL_law_136 : decode cL_law 136 = .ok (.iconst 1, 1) := by decide +kernel
theorem dL_law_137 : decode cL_law 137 = .ok (.iadd, 1) := by decide +kernel
theorem dL_law_138 : decode cL_law 138 = .ok (.iaload, 1) := by decide +kernel
theorem dL_law_139 : decode cL_law 139 = .ok (.aload_n 0, 1) := by decide +kernel
theorem dL_law_140 : decode cL_law 140 = .ok (.iload 4, 2) := by decide +kernel
theorem dL_law_142 : decode cL_law 142 = .ok (.iconst 2, 1) := by decide +kernel
theorem dL_law_143 : decode cL_law 143 = .ok (.iadd, 1) := by decide +kernel
theorem dL_law_144 : decode cL_law 144 = .ok (.iaload, 1) := by decide +kernel
theorem dL_law_145 : decode cL_law 145 = .ok (.aload_n 0, 1) := by decide +kernel
theorem dL_law_146 : decode cL_law 146 = .ok (.iload 4, 2) := by decide +kernel
theorem dL_law_148 : decode cL_law 148 = .ok (.iconst 3, 1) := by decide +kernel
theorem dL_law_149 : decode cL_law 149 = .ok (.iadd, 1) := by decide +kernel
theorem dL_law_150 : decode cL_law 150 = .ok (.iaload, 1) := by decide +kernel
theorem dL_law_151 : decode cL_law 151 = .ok (.aload_n 0, 1) := by decide +kernel
theorem dL_law_152 : decode cL_law 152 = .ok (.iload 4, 2) := by decide +kernel
theorem dL_law_154 : decode cL_law 154 = .ok (.iconst 4, 1) := by decide +kernel
theorem dL_law_155 : decode cL_law 155 = .ok (.iadd, 1) := by decide +kernel
theorem dL_law_156 : decode cL_law 156 = .ok (.iaload, 1) := by decide +kernel
theorem dL_law_157 : decode cL_law 157 = .ok (.aload_n 0, 1) := by decide +kernel
theorem dL_law_158 : decode cL_law 158 = .ok (.iload 4, 2) := by decide +kernel
theorem dL_law_160 : decode cL_law 160 = .ok (.iconst 5, 1) := by decide +kernel
theorem dL_law_161 : decode cL_law 161 = .ok (.iadd, 1) := by decide +kernel
theorem dL_law_162 : decode cL_law 162 = .ok (.iaload, 1) := by decide +kernel
theorem dL_law_163 : decode cL_law 163 = .ok (.invokevirtual 21, 3) := by decide +kernel
theorem dL_law_166 : decode cL_law 166 = .ok (.aload_n 2, 1) := by decide +kernel
theorem dL_law_167 : decode cL_law 167 = .ok (.aload_n 0, 1) := by decide +kernel
theorem dL_law_168 : decode cL_law 168 = .ok (.iload 4, 2) := by decide +kernel
theorem dL_law_170 : decode cL_law 170 = .ok (.iconst 1, 1) := by decide +kernel
theorem dL_law_171 : decode cL_law 171 = .ok (.iadd, 1) := by decide +kernel
theorem dL_law_172 : decode cL_law 172 = .ok (.iaload, 1) := by decide +kernel
theorem dL_law_173 : decode cL_law 173 = .ok (.aload_n 0, 1) := by decide +kernel
theorem dL_law_174 : decode cL_law 174 = .ok (.iload 4, 2) := by decide +kernel
theorem dL_law_176 : decode cL_law 176 = .ok (.iconst 2, 1) := by decide +kernel
theorem dL_law_177 : decode cL_law 177 = .ok (.iadd, 1) := by decide +kernel
theorem dL_law_178 : decode cL_law 178 = .ok (.iaload, 1) := by decide +kernel
theorem dL_law_179 : decode cL_law 179 = .ok (.aload_n 0, 1) := by decide +kernel
theorem dL_law_180 : decode cL_law 180 = .ok (.iload 4, 2) := by decide +kernel
theorem dL_law_182 : decode cL_law 182 = .ok (.iconst 3, 1) := by decide +kernel
theorem dL_law_183 : decode cL_law 183 = .ok (.iadd, 1) := by decide +kernel
theorem dL_law_184 : decode cL_law 184 = .ok (.iaload, 1) := by decide +kernel
theorem dL_law_185 : decode cL_law 185 = .ok (.aload_n 0, 1) := by decide +kernel
theorem dL_law_186 : decode cL_law 186 = .ok (.iload 4, 2) := by decide +kernel
theorem dL_law_188 : decode cL_law 188 = .ok (.iconst 4, 1) := by decide +kernel
theorem dL_law_189 : decode cL_law 189 = .ok (.iadd, 1) := by decide +kernel
theorem dL_law_190 : decode cL_law 190 = .ok (.iaload, 1) := by decide +kernel
theorem dL_law_191 : decode cL_law 191 = .ok (.aload_n 0, 1) := by decide +kernel
theorem dL_law_192 : decode cL_law 192 = .ok (.iload 4, 2) := by decide +kernel
theorem dL_law_194 : decode cL_law 194 = .ok (.iconst 5, 1) := by decide +kernel
theorem dL_law_195 : decode cL_law 195 = .ok (.iadd, 1) := by decide +kernel
theorem dL_law_196 : decode cL_law 196 = .ok (.iaload, 1) := by decide +kernel
theorem dL_law_197 : decode cL_law 197 = .ok (.invokevirtual 25, 3) := by decide +kernel
theorem dL_law_200 : decode cL_law 200 = .ok (.if_icmp .eq 602, 3) := by decide +kernel
theorem dL_law_203 : decode cL_law 203 = .ok (.iconst 0, 1) := by decide +kernel
theorem dL_law_204 : decode cL_law 204 = .ok (.ireturn, 1) := by decide +kernel
theorem dL_law_205 : decode cL_law 205 = .ok (.aload_n 1, 1) := by decide +kernel
theorem dL_law_206 : decode cL_law 206 = .ok (.aload_n 0, 1) := by decide +kernel
theorem dL_law_207 : decode cL_law 207 = .ok (.iload 4, 2) := by decide +kernel
theorem dL_law_209 : decode cL_law 209 = .ok (.iconst 1, 1) := by decide +kernel
theorem dL_law_210 : decode cL_law 210 = .ok (.iadd, 1) := by decide +kernel
theorem dL_law_211 : decode cL_law 211 = .ok (.iaload, 1) := by decide +kernel
theorem dL_law_212 : decode cL_law 212 = .ok (.invokevirtual 26, 3) := by decide +kernel
theorem dL_law_215 : decode cL_law 215 = .ok (.aload_n 2, 1) := by decide +kernel
theorem dL_law_216 : decode cL_law 216 = .ok (.aload_n 0, 1) := by decide +kernel
theorem dL_law_217 : decode cL_law 217 = .ok (.iload 4, 2) := by decide +kernel
theorem dL_law_219 : decode cL_law 219 = .ok (.iconst 1, 1) := by decide +kernel
theorem dL_law_220 : decode cL_law 220 = .ok (.iadd, 1) := by decide +kernel
theorem dL_law_221 : decode cL_law 221 = .ok (.iaload, 1) := by decide +kernel
theorem dL_law_222 : decode cL_law 222 = .ok (.invokevirtual 30, 3) := by decide +kernel
theorem dL_law_225 : decode cL_law 225 = .ok (.if_icmp .eq 577, 3) := by decide +kernel
theorem dL_law_228 : decode cL_law 228 = .ok (.iconst 0, 1) := by decide +kernel
theorem dL_law_229 : decode cL_law 229 = .ok (.ireturn, 1) := by decide +kernel
theorem dL_law_230 : decode cL_law 230 = .ok (.aload_n 1, 1) := by decide +kernel
theorem dL_law_231 : decode cL_law 231 = .ok (.aload_n 0, 1) := by decide +kernel
theorem dL_law_232 : decode cL_law 232 = .ok (.iload 4, 2) := by decide +kernel
theorem dL_law_234 : decode cL_law 234 = .ok (.iconst 1, 1) := by decide +kernel
theorem dL_law_235 : decode cL_law 235 = .ok (.iadd, 1) := by decide +kernel
theorem dL_law_236 : decode cL_law 236 = .ok (.iaload, 1) := by decide +kernel
theorem dL_law_237 : decode cL_law 237 = .ok (.invokevirtual 31, 3) := by decide +kernel
theorem dL_law_240 : decode cL_law 240 = .ok (.aload_n 2, 1) := by decide +kernel
theorem dL_law_241 : decode cL_law 241 = .ok (.aload_n 0, 1) := by decide +kernel
theorem dL_law_242 : decode cL_law 242 = .ok (.iload 4, 2) := by decide +kernel
theorem dL_law_244 : decode cL_law 244 = .ok (.iconst 1, 1) := by decide +kernel
theorem dL_law_245 : decode cL_law 245 = .ok (.iadd, 1) := by decide +kernel
theorem dL_law_246 : decode cL_law 246 = .ok (.iaload, 1) := by decide +kernel
theorem dL_law_247 : decode cL_law 247 = .ok (.invokevirtual 34, 3) := by decide +kernel
theorem dL_law_250 : decode cL_law 250 = .ok (.if_icmp .eq 552, 3) := by decide +kernel
theorem dL_law_253 : decode cL_law 253 = .ok (.iconst 0, 1) := by decide +kernel
theorem dL_law_254 : decode cL_law 254 = .ok (.ireturn, 1) := by decide +kernel
theorem dL_law_255 : decode cL_law 255 = .ok (.aload_n 1, 1) := by decide +kernel
theorem dL_law_256 : decode cL_law 256 = .ok (.aload_n 0, 1) := by decide +kernel
theorem dL_law_257 : decode cL_law 257 = .ok (.iload 4, 2) := by decide +kernel
theorem dL_law_259 : decode cL_law 259 = .ok (.iconst 1, 1) := by decide +kernel
theorem dL_law_260 : decode cL_law 260 = .ok (.iadd, 1) := by decide +kernel
theorem dL_law_261 : decode cL_law 261 = .ok (.iaload, 1) := by decide +kernel
theorem dL_law_262 : decode cL_law 262 = .ok (.aload_n 0, 1) := by decide +kernel
theorem dL_law_263 : decode cL_law 263 = .ok (.iload 4, 2) := by decide +kernel
theorem dL_law_265 : decode cL_law 265 = .ok (.iconst 2, 1) := by decide +kernel
theorem dL_law_266 : decode cL_law 266 = .ok (.iadd, 1) := by decide +kernel
theorem dL_law_267 : decode cL_law 267 = .ok (.iaload, 1) := by decide +kernel
theorem dL_law_268 : decode cL_law 268 = .ok (.invokevirtual 35, 3) := by decide +kernel
theorem dL_law_271 : decode cL_law 271 = .ok (.aload_n 2, 1) := by decide +kernel
theorem dL_law_272 : decode cL_law 272 = .ok (.aload_n 0, 1) := by decide +kernel
theorem dL_law_273 : decode cL_law 273 = .ok (.iload 4, 2) := by decide +kernel
theorem dL_law_275 : decode cL_law 275 = .ok (.iconst 1, 1) := by decide +kernel
theorem dL_law_276 : decode cL_law 276 = .ok (.iadd, 1) := by decide +kernel
theorem dL_law_277 : decode cL_law 277 = .ok (.iaload, 1) := by decide +kernel
theorem dL_law_278 : decode cL_law 278 = .ok (.aload_n 0, 1) := by decide +kernel
theorem dL_law_279 : decode cL_law 279 = .ok (.iload 4, 2) := by decide +kernel
theorem dL_law_281 : decode cL_law 281 = .ok (.iconst 2, 1) := by decide +kernel
theorem dL_law_282 : decode cL_law 282 = .ok (.iadd, 1) := by decide +kernel
theorem dL_law_283 : decode cL_law 283 = .ok (.iaload, 1) := by decide +kernel
theorem dL_law_284 : decode cL_law 284 = .ok (.invokevirtual 38, 3) := by decide +kernel
theorem dL_law_287 : decode cL_law 287 = .ok (.if_icmp .eq 515, 3) := by decide +kernel
theorem dL_law_290 : decode cL_law 290 = .ok (.iconst 0, 1) := by decide +kernel
theorem dL_law_291 : decode cL_law 291 = .ok (.ireturn, 1) := by decide +kernel
theorem dL_law_292 : decode cL_law 292 = .ok (.aload_n 1, 1) := by decide +kernel
theorem dL_law_293 : decode cL_law 293 = .ok (.aload_n 0, 1) := by decide +kernel
theorem dL_law_294 : decode cL_law 294 = .ok (.iload 4, 2) := by decide +kernel
theorem dL_law_296 : decode cL_law 296 = .ok (.iconst 1, 1) := by decide +kernel
theorem dL_law_297 : decode cL_law 297 = .ok (.iadd, 1) := by decide +kernel
theorem dL_law_298 : decode cL_law 298 = .ok (.iaload, 1) := by decide +kernel
theorem dL_law_299 : decode cL_law 299 = .ok (.aload_n 0, 1) := by decide +kernel
theorem dL_law_300 : decode cL_law 300 = .ok (.iload 4, 2) := by decide +kernel
theorem dL_law_302 : decode cL_law 302 = .ok (.iconst 2, 1) := by decide +kernel
theorem dL_law_303 : decode cL_law 303 = .ok (.iadd, 1) := by decide +kernel
theorem dL_law_304 : decode cL_law 304 = .ok (.iaload, 1) := by decide +kernel
theorem dL_law_305 : decode cL_law 305 = .ok (.invokevirtual 39, 3) := by decide +kernel
theorem dL_law_308 : decode cL_law 308 = .ok (.aload_n 2, 1) := by decide +kernel
theorem dL_law_309 : decode cL_law 309 = .ok (.aload_n 0, 1) := by decide +kernel
theorem dL_law_310 : decode cL_law 310 = .ok (.iload 4, 2) := by decide +kernel
theorem dL_law_312 : decode cL_law 312 = .ok (.iconst 1, 1) := by decide +kernel
theorem dL_law_313 : decode cL_law 313 = .ok (.iadd, 1) := by decide +kernel
theorem dL_law_314 : decode cL_law 314 = .ok (.iaload, 1) := by decide +kernel
theorem dL_law_315 : decode cL_law 315 = .ok (.aload_n 0, 1) := by decide +kernel
theorem dL_law_316 : decode cL_law 316 = .ok (.iload 4, 2) := by decide +kernel
theorem dL_law_318 : decode cL_law 318 = .ok (.iconst 2, 1) := by decide +kernel
theorem dL_law_319 : decode cL_law 319 = .ok (.iadd, 1) := by decide +kernel
theorem dL_law_320 : decode cL_law 320 = .ok (.iaload, 1) := by decide +kernel
theorem dL_law_321 : decode cL_law 321 = .ok (.invokevirtual 43, 3) := by decide +kernel
theorem dL_law_324 : decode cL_law 324 = .ok (.if_icmp .eq 478, 3) := by decide +kernel
theorem dL_law_327 : decode cL_law 327 = .ok (.iconst 0, 1) := by decide +kernel
theorem dL_law_328 : decode cL_law 328 = .ok (.ireturn, 1) := by decide +kernel
theorem dL_law_329 : decode cL_law 329 = .ok (.aload_n 1, 1) := by decide +kernel
theorem dL_law_330 : decode cL_law 330 = .ok (.aload_n 0, 1) := by decide +kernel
theorem dL_law_331 : decode cL_law 331 = .ok (.iload 4, 2) := by decide +kernel
theorem dL_law_333 : decode cL_law 333 = .ok (.iconst 1, 1) := by decide +kernel
theorem dL_law_334 : decode cL_law 334 = .ok (.iadd, 1) := by decide +kernel
theorem dL_law_335 : decode cL_law 335 = .ok (.iaload, 1) := by decide +kernel
theorem dL_law_336 : decode cL_law 336 = .ok (.aload_n 0, 1) := by decide +kernel
theorem dL_law_337 : decode cL_law 337 = .ok (.iload 4, 2) := by decide +kernel
theorem dL_law_339 : decode cL_law 339 = .ok (.iconst 2, 1) := by decide +kernel
theorem dL_law_340 : decode cL_law 340 = .ok (.iadd, 1) := by decide +kernel
theorem dL_law_341 : decode cL_law 341 = .ok (.iaload, 1) := by decide +kernel
theorem dL_law_342 : decode cL_law 342 = .ok (.aload_n 3, 1) := by decide +kernel
theorem dL_law_343 : decode cL_law 343 = .ok (.invokestatic 44, 3) := by decide +kernel
theorem dL_law_346 : decode cL_law 346 = .ok (.istore 5, 2) := by decide +kernel
theorem dL_law_348 : decode cL_law 348 = .ok (.aload_n 2, 1) := by decide +kernel
theorem dL_law_349 : decode cL_law 349 = .ok (.aload_n 0, 1) := by decide +kernel
theorem dL_law_350 : decode cL_law 350 = .ok (.iload 4, 2) := by decide +kernel
theorem dL_law_352 : decode cL_law 352 = .ok (.iconst 1, 1) := by decide +kernel
theorem dL_law_353 : decode cL_law 353 = .ok (.iadd, 1) := by decide +kernel
theorem dL_law_354 : decode cL_law 354 = .ok (.iaload, 1) := by decide +kernel
theorem dL_law_355 : decode cL_law 355 = .ok (.aload_n 0, 1) := by decide +kernel
theorem dL_law_356 : decode cL_law 356 = .ok (.iload 4, 2) := by decide +kernel
theorem dL_law_358 : decode cL_law 358 = .ok (.iconst 2, 1) := by decide +kernel
theorem dL_law_359 : decode cL_law 359 = .ok (.iadd, 1) := by decide +kernel
theorem dL_law_360 : decode cL_law 360 = .ok (.iaload, 1) := by decide +kernel
theorem dL_law_361 : decode cL_law 361 = .ok (.invokevirtual 49, 3) := by decide +kernel
theorem dL_law_364 : decode cL_law 364 = .ok (.istore 6, 2) := by decide +kernel
theorem dL_law_366 : decode cL_law 366 = .ok (.aload_n 2, 1) := by decide +kernel
theorem dL_law_367 : decode cL_law 367 = .ok (.invokevirtual 50, 3) := by decide +kernel
theorem dL_law_370 : decode cL_law 370 = .ok (.iload 5, 2) := by decide +kernel
theorem dL_law_372 : decode cL_law 372 = .ok (.if_icmp .eq 5, 3) := by decide +kernel
theorem dL_law_375 : decode cL_law 375 = .ok (.iconst 0, 1) := by decide +kernel
theorem dL_law_376 : decode cL_law 376 = .ok (.ireturn, 1) := by decide +kernel
theorem dL_law_377 : decode cL_law 377 = .ok (.iload 5, 2) := by decide +kernel
theorem dL_law_379 : decode cL_law 379 = .ok (.ifCond .ne 15, 3) := by decide +kernel
theorem dL_law_382 : decode cL_law 382 = .ok (.aload_n 3, 1) := by decide +kernel
theorem dL_law_383 : decode cL_law 383 = .ok (.iconst 0, 1) := by decide +kernel
theorem dL_law_384 : decode cL_law 384 = .ok (.laload, 1) := by decide +kernel
theorem dL_law_385 : decode cL_law 385 = .ok (.iload 6, 2) := by decide +kernel
theorem dL_law_387 : decode cL_law 387 = .ok (.i2l, 1) := by decide +kernel
theorem dL_law_388 : decode cL_law 388 = .ok (.lcmp, 1) := by decide +kernel
theorem dL_law_389 : decode cL_law 389 = .ok (.ifCond .eq 5, 3) := by decide +kernel
theorem dL_law_392 : decode cL_law 392 = .ok (.iconst 0, 1) := by decide +kernel
theorem dL_law_393 : decode cL_law 393 = .ok (.ireturn, 1) := by decide +kernel
theorem dL_law_394 : decode cL_law 394 = .ok (.goto 408, 3) := by decide +kernel
theorem dL_law_397 : decode cL_law 397 = .ok (.aload_n 1, 1) := by decide +kernel
theorem dL_law_398 : decode cL_law 398 = .ok (.aload_n 0, 1) := by decide +kernel
theorem dL_law_399 : decode cL_law 399 = .ok (.iload 4, 2) := by decide +kernel
theorem dL_law_401 : decode cL_law 401 = .ok (.iconst 1, 1) := by decide +kernel
theorem dL_law_402 : decode cL_law 402 = .ok (.iadd, 1) := by decide +kernel
theorem dL_law_403 : decode cL_law 403 = .ok (.iaload, 1) := by decide +kernel
theorem dL_law_404 : decode cL_law 404 = .ok (.invokevirtual 54, 3) := by decide +kernel
theorem dL_law_407 : decode cL_law 407 = .ok (.aload_n 2, 1) := by decide +kernel
theorem dL_law_408 : decode cL_law 408 = .ok (.aload_n 0, 1) := by decide +kernel
theorem dL_law_409 : decode cL_law 409 = .ok (.iload 4, 2) := by decide +kernel
theorem dL_law_411 : decode cL_law 411 = .ok (.iconst 1, 1) := by decide +kernel
theorem dL_law_412 : decode cL_law 412 = .ok (.iadd, 1) := by decide +kernel
theorem dL_law_413 : decode cL_law 413 = .ok (.iaload, 1) := by decide +kernel
theorem dL_law_414 : decode cL_law 414 = .ok (.invokevirtual 57, 3) := by decide +kernel
theorem dL_law_417 : decode cL_law 417 = .ok (.if_icmp .eq 385, 3) := by decide +kernel
theorem dL_law_420 : decode cL_law 420 = .ok (.iconst 0, 1) := by decide +kernel
theorem dL_law_421 : decode cL_law 421 = .ok (.ireturn, 1) := by decide +kernel
theorem dL_law_422 : decode cL_law 422 = .ok (.aload_n 1, 1) := by decide +kernel
theorem dL_law_423 : decode cL_law 423 = .ok (.aload_n 0, 1) := by decide +kernel
theorem dL_law_424 : decode cL_law 424 = .ok (.iload 4, 2) := by decide +kernel
theorem dL_law_426 : decode cL_law 426 = .ok (.iconst 1, 1) := by decide +kernel
theorem dL_law_427 : decode cL_law 427 = .ok (.iadd, 1) := by decide +kernel
theorem dL_law_428 : decode cL_law 428 = .ok (.iaload, 1) := by decide +kernel
theorem dL_law_429 : decode cL_law 429 = .ok (.aload_n 0, 1) := by decide +kernel
theorem dL_law_430 : decode cL_law 430 = .ok (.iload 4, 2) := by decide +kernel
theorem dL_law_432 : decode cL_law 432 = .ok (.iconst 2, 1) := by decide +kernel
theorem dL_law_433 : decode cL_law 433 = .ok (.iadd, 1) := by decide +kernel
theorem dL_law_434 : decode cL_law 434 = .ok (.iaload, 1) := by decide +kernel
theorem dL_law_435 : decode cL_law 435 = .ok (.invokevirtual 58, 3) := by decide +kernel
theorem dL_law_438 : decode cL_law 438 = .ok (.aload_n 2, 1) := by decide +kernel
theorem dL_law_439 : decode cL_law 439 = .ok (.aload_n 0, 1) := by decide +kernel
theorem dL_law_440 : decode cL_law 440 = .ok (.iload 4, 2) := by decide +kernel
theorem dL_law_442 : decode cL_law 442 = .ok (.iconst 1, 1) := by decide +kernel
theorem dL_law_443 : decode cL_law 443 = .ok (.iadd, 1) := by decide +kernel
theorem dL_law_444 : decode cL_law 444 = .ok (.iaload, 1) := by decide +kernel
theorem dL_law_445 : decode cL_law 445 = .ok (.aload_n 0, 1) := by decide +kernel
theorem dL_law_446 : decode cL_law 446 = .ok (.iload 4, 2) := by decide +kernel
theorem dL_law_448 : decode cL_law 448 = .ok (.iconst 2, 1) := by decide +kernel
theorem dL_law_449 : decode cL_law 449 = .ok (.iadd, 1) := by decide +kernel
theorem dL_law_450 : decode cL_law 450 = .ok (.iaload, 1) := by decide +kernel
theorem dL_law_451 : decode cL_law 451 = .ok (.invokevirtual 61, 3) := by decide +kernel
theorem dL_law_454 : decode cL_law 454 = .ok (.if_icmp .eq 348, 3) := by decide +kernel
theorem dL_law_457 : decode cL_law 457 = .ok (.iconst 0, 1) := by decide +kernel
theorem dL_law_458 : decode cL_law 458 = .ok (.ireturn, 1) := by decide +kernel
theorem dL_law_459 : decode cL_law 459 = .ok (.aload_n 1, 1) := by decide +kernel
theorem dL_law_460 : decode cL_law 460 = .ok (.invokevirtual 62, 3) := by decide +kernel
theorem dL_law_463 : decode cL_law 463 = .ok (.aload_n 2, 1) := by decide +kernel
theorem dL_law_464 : decode cL_law 464 = .ok (.invokevirtual 65, 3) := by decide +kernel
theorem dL_law_467 : decode cL_law 467 = .ok (.if_icmp .eq 335, 3) := by decide +kernel
theorem dL_law_470 : decode cL_law 470 = .ok (.iconst 0, 1) := by decide +kernel
theorem dL_law_471 : decode cL_law 471 = .ok (.ireturn, 1) := by decide +kernel
theorem dL_law_472 : decode cL_law 472 = .ok (.aload_n 1, 1) := by decide +kernel
theorem dL_law_473 : decode cL_law 473 = .ok (.aload_n 0, 1) := by decide +kernel
theorem dL_law_474 : decode cL_law 474 = .ok (.iload 4, 2) := by decide +kernel
theorem dL_law_476 : decode cL_law 476 = .ok (.iconst 1, 1) := by decide +kernel
theorem dL_law_477 : decode cL_law 477 = .ok (.iadd, 1) := by decide +kernel
theorem dL_law_478 : decode cL_law 478 = .ok (.iaload, 1) := by decide +kernel
theorem dL_law_479 : decode cL_law 479 = .ok (.invokevirtual 66, 3) := by decide +kernel
theorem dL_law_482 : decode cL_law 482 = .ok (.aload_n 2, 1) := by decide +kernel
theorem dL_law_483 : decode cL_law 483 = .ok (.aload_n 0, 1) := by decide +kernel
theorem dL_law_484 : decode cL_law 484 = .ok (.iload 4, 2) := by decide +kernel
theorem dL_law_486 : decode cL_law 486 = .ok (.iconst 1, 1) := by decide +kernel
theorem dL_law_487 : decode cL_law 487 = .ok (.iadd, 1) := by decide +kernel
theorem dL_law_488 : decode cL_law 488 = .ok (.iaload, 1) := by decide +kernel
theorem dL_law_489 : decode cL_law 489 = .ok (.invokevirtual 69, 3) := by decide +kernel
theorem dL_law_492 : decode cL_law 492 = .ok (.if_icmp .eq 310, 3) := by decide +kernel
theorem dL_law_495 : decode cL_law 495 = .ok (.iconst 0, 1) := by decide +kernel
theorem dL_law_496 : decode cL_law 496 = .ok (.ireturn, 1) := by decide +kernel
theorem dL_law_497 : decode cL_law 497 = .ok (.aload_n 1, 1) := by decide +kernel
theorem dL_law_498 : decode cL_law 498 = .ok (.aload_n 0, 1) := by decide +kernel
theorem dL_law_499 : decode cL_law 499 = .ok (.iload 4, 2) := by decide +kernel
theorem dL_law_501 : decode cL_law 501 = .ok (.iconst 1, 1) := by decide +kernel
theorem dL_law_502 : decode cL_law 502 = .ok (.iadd, 1) := by decide +kernel
theorem dL_law_503 : decode cL_law 503 = .ok (.iaload, 1) := by decide +kernel
