theorem dX0_init_0 : decode cX0_init 0 = .ok (.aload_n 0, 1) := by decide +kernel
theorem dX0_init_1 : decode cX0_init 1 = .ok (.invokespecial 3, 3) := by decide +kernel
theorem dX0_init_4 : decode cX0_init 4 = .ok (.aload_n 0, 1) := by decide +kernel
theorem dX0_init_5 : decode cX0_init 5 = .ok (.bipush 40, 2) := by decide +kernel
theorem dX0_init_7 : decode cX0_init 7 = .ok (.newarray .int, 2) := by decide +kernel
theorem dX0_init_9 : decode cX0_init 9 = .ok (.putfield 9, 3) := by decide +kernel
theorem dX0_init_12 : decode cX0_init 12 = .ok (.aload_n 0, 1) := by decide +kernel
theorem dX0_init_13 : decode cX0_init 13 = .ok (.bipush 40, 2) := by decide +kernel
theorem dX0_init_15 : decode cX0_init 15 = .ok (.newarray .int, 2) := by decide +kernel
theorem dX0_init_17 : decode cX0_init 17 = .ok (.putfield 15, 3) := by decide +kernel
theorem dX0_init_20 : decode cX0_init 20 = .ok (.aload_n 0, 1) := by decide +kernel
theorem dX0_init_21 : decode cX0_init 21 = .ok (.bipush 40, 2) := by decide +kernel
theorem dX0_init_23 : decode cX0_init 23 = .ok (.newarray .int, 2) := by decide +kernel
theorem dX0_init_25 : decode cX0_init 25 = .ok (.putfield 18, 3) := by decide +kernel
theorem dX0_init_28 : decode cX0_init 28 = .ok (.aload_n 0, 1) := by decide +kernel
theorem dX0_init_29 : decode cX0_init 29 = .ok (.bipush 40, 2) := by decide +kernel
theorem dX0_init_31 : decode cX0_init 31 = .ok (.newarray .int, 2) := by decide +kernel
theorem dX0_init_33 : decode cX0_init 33 = .ok (.putfield 21, 3) := by decide +kernel
theorem dX0_init_36 : decode cX0_init 36 = .ok (.aload_n 0, 1) := by decide +kernel
theorem dX0_init_37 : decode cX0_init 37 = .ok (.bipush 40, 2) := by decide +kernel
theorem dX0_init_39 : decode cX0_init 39 = .ok (.newarray .int, 2) := by decide +kernel
theorem dX0_init_41 : decode cX0_init 41 = .ok (.putfield 24, 3) := by decide +kernel
theorem dX0_init_44 : decode cX0_init 44 = .ok (.aload_n 0, 1) := by decide +kernel
theorem dX0_init_45 : decode cX0_init 45 = .ok (.bipush 40, 2) := by decide +kernel
theorem dX0_init_47 : decode cX0_init 47 = .ok (.newarray .int, 2) := by decide +kernel
theorem dX0_init_49 : decode cX0_init 49 = .ok (.putfield 27, 3) := by decide +kernel
theorem dX0_init_52 : decode cX0_init 52 = .ok (.aload_n 0, 1) := by decide +kernel
theorem dX0_init_53 : decode cX0_init 53 = .ok (.bipush 40, 2) := by decide +kernel
theorem dX0_init_55 : decode cX0_init 55 = .ok (.newarray .boolean, 2) := by decide +kernel
theorem dX0_init_57 : decode cX0_init 57 = .ok (.putfield 30, 3) := by decide +kernel
theorem dX0_init_60 : decode cX0_init 60 = .ok (.aload_n 0, 1) := by decide +kernel
theorem dX0_init_61 : decode cX0_init 61 = .ok (.bipush 40, 2) := by decide +kernel
theorem dX0_init_63 : decode cX0_init 63 = .ok (.newarray .boolean, 2) := by decide +kernel
theorem dX0_init_65 : decode cX0_init 65 = .ok (.putfield 34, 3) := by decide +kernel
theorem dX0_init_68 : decode cX0_init 68 = .ok (.aload_n 0, 1) := by decide +kernel
theorem dX0_init_69 : decode cX0_init 69 = .ok (.iconst 0, 1) := by decide +kernel
theorem dX0_init_70 : decode cX0_init 70 = .ok (.putfield 37, 3) := by decide +kernel
theorem dX0_init_73 : decode cX0_init 73 = .ok (.return_, 1) := by decide +kernel
theorem dX0_size_0 : decode cX0_size 0 = .ok (.aload_n 0, 1) := by decide +kernel
theorem dX0_size_1 : decode cX0_size 1 = .ok (.getfield 37, 3) := by decide +kernel
theorem dX0_size_4 : decode cX0_size 4 = .ok (.ireturn, 1) := by decide +kernel
theorem dX0_clear_0 : decode cX0_clear 0 = .ok (.aload_n 0, 1) := by decide +kernel
theorem dX0_clear_1 : decode cX0_clear 1 = .ok (.iconst 0, 1) := by decide +kernel
theorem dX0_clear_2 : decode cX0_clear 2 = .ok (.putfield 37, 3) := by decide +kernel
theorem dX0_clear_5 : decode cX0_clear 5 = .ok (.return_, 1) := by decide +kernel
theorem dX0_hasRoom_0 : decode cX0_hasRoom 0 = .ok (.aload_n 0, 1) := by decide +kernel
theorem dX0_hasRoom_1 : decode cX0_hasRoom 1 = .ok (.getfield 37, 3) := by decide +kernel
theorem dX0_hasRoom_4 : decode cX0_hasRoom 4 = .ok (.bipush 40, 2) := by decide +kernel
theorem dX0_hasRoom_6 : decode cX0_hasRoom 6 = .ok (.if_icmp .ge 7, 3) := by decide +kernel
theorem dX0_hasRoom_9 : decode cX0_hasRoom 9 = .ok (.iconst 1, 1) := by decide +kernel
theorem dX0_hasRoom_10 : decode cX0_hasRoom 10 = .ok (.goto 4, 3) := by decide +kernel
theorem dX0_hasRoom_13 : decode cX0_hasRoom 13 = .ok (.iconst 0, 1) := by decide +kernel
theorem dX0_hasRoom_14 : decode cX0_hasRoom 14 = .ok (.ireturn, 1) := by decide +kernel
theorem dX0_enter_0 : decode cX0_enter 0 = .ok (.aload_n 0, 1) := by decide +kernel
theorem dX0_enter_1 : decode cX0_enter 1 = .ok (.getfield 37, 3) := by decide +kernel
theorem dX0_enter_4 : decode cX0_enter 4 = .ok (.ifCond .lt 12, 3) := by decide +kernel
theorem dX0_enter_7 : decode cX0_enter 7 = .ok (.aload_n 0, 1) := by decide +kernel
theorem dX0_enter_8 : decode cX0_enter 8 = .ok (.getfield 37, 3) := by decide +kernel
theorem dX0_enter_11 : decode cX0_enter 11 = .ok (.bipush 40, 2) := by decide +kernel
theorem dX0_enter_13 : decode cX0_enter 13 = .ok (.if_icmp .lt 5, 3) := by decide +kernel
theorem dX0_enter_16 : decode cX0_enter 16 = .ok (.iconst (-1), 1) := by decide +kernel
theorem dX0_enter_17 : decode cX0_enter 17 = .ok (.ireturn, 1) := by decide +kernel
theorem dX0_enter_18 : decode cX0_enter 18 = .ok (.aload_n 0, 1) := by decide +kernel
theorem dX0_enter_19 : decode cX0_enter 19 = .ok (.getfield 37, 3) := by decide +kernel
theorem dX0_enter_22 : decode cX0_enter 22 = .ok (.istore 6, 2) := by decide +kernel
theorem dX0_enter_24 : decode cX0_enter 24 = .ok (.aload_n 0, 1) := by decide +kernel
theorem dX0_enter_25 : decode cX0_enter 25 = .ok (.getfield 9, 3) := by decide +kernel
theorem dX0_enter_28 : decode cX0_enter 28 = .ok (.iload 6, 2) := by decide +kernel
theorem dX0_enter_30 : decode cX0_enter 30 = .ok (.iload_n 1, 1) := by decide +kernel
theorem dX0_enter_31 : decode cX0_enter 31 = .ok (.iastore, 1) := by decide +kernel
theorem dX0_enter_32 : decode cX0_enter 32 = .ok (.aload_n 0, 1) := by decide +kernel
theorem dX0_enter_33 : decode cX0_enter 33 = .ok (.getfield 15, 3) := by decide +kernel
theorem dX0_enter_36 : decode cX0_enter 36 = .ok (.iload 6, 2) := by decide +kernel
theorem dX0_enter_38 : decode cX0_enter 38 = .ok (.iload_n 2, 1) := by decide +kernel
theorem dX0_enter_39 : decode cX0_enter 39 = .ok (.iastore, 1) := by decide +kernel
theorem dX0_enter_40 : decode cX0_enter 40 = .ok (.aload_n 0, 1) := by decide +kernel
theorem dX0_enter_41 : decode cX0_enter 41 = .ok (.getfield 18, 3) := by decide +kernel
theorem dX0_enter_44 : decode cX0_enter 44 = .ok (.iload 6, 2) := by decide +kernel
theorem dX0_enter_46 : decode cX0_enter 46 = .ok (.iload_n 3, 1) := by decide +kernel
theorem dX0_enter_47 : decode cX0_enter 47 = .ok (.iastore, 1) := by decide +kernel
theorem dX0_enter_48 : decode cX0_enter 48 = .ok (.aload_n 0, 1) := by decide +kernel
theorem dX0_enter_49 : decode cX0_enter 49 = .ok (.getfield 21, 3) := by decide +kernel
theorem dX0_enter_52 : decode cX0_enter 52 = .ok (.iload 6, 2) := by decide +kernel
theorem dX0_enter_54 : decode cX0_enter 54 = .ok (.iload 4, 2) := by decide +kernel
theorem dX0_enter_56 : decode cX0_enter 56 = .ok (.iastore, 1) := by decide +kernel
theorem dX0_enter_57 : decode cX0_enter 57 = .ok (.aload_n 0, 1) := by decide +kernel
theorem dX0_enter_58 : decode cX0_enter 58 = .ok (.getfield 24, 3) := by decide +kernel
theorem dX0_enter_61 : decode cX0_enter 61 = .ok (.iload 6, 2) := by decide +kernel
theorem dX0_enter_63 : decode cX0_enter 63 = .ok (.iconst 0, 1) := by decide +kernel
theorem dX0_enter_64 : decode cX0_enter 64 = .ok (.iastore, 1) := by decide +kernel
theorem dX0_enter_65 : decode cX0_enter 65 = .ok (.aload_n 0, 1) := by decide +kernel
theorem dX0_enter_66 : decode cX0_enter 66 = .ok (.getfield 27, 3) := by decide +kernel
theorem dX0_enter_69 : decode cX0_enter 69 = .ok (.iload 6, 2) := by decide +kernel
theorem dX0_enter_71 : decode cX0_enter 71 = .ok (.iload 4, 2) := by decide +kernel
theorem dX0_enter_73 : decode cX0_enter 73 = .ok (.iload 5, 2) := by decide +kernel
theorem dX0_enter_75 : decode cX0_enter 75 = .ok (.iadd, 1) := by decide +kernel
theorem dX0_enter_76 : decode cX0_enter 76 = .ok (.iastore, 1) := by decide +kernel
theorem dX0_enter_77 : decode cX0_enter 77 = .ok (.aload_n 0, 1) := by decide +kernel
theorem dX0_enter_78 : decode cX0_enter 78 = .ok (.getfield 30, 3) := by decide +kernel
theorem dX0_enter_81 : decode cX0_enter 81 = .ok (.iload 6, 2) := by decide +kernel
theorem dX0_enter_83 : decode cX0_enter 83 = .ok (.iconst 0, 1) := by decide +kernel
theorem dX0_enter_84 : decode cX0_enter 84 = .ok (.bastore, 1) := by decide +kernel
theorem dX0_enter_85 : decode cX0_enter 85 = .ok (.aload_n 0, 1) := by decide +kernel
theorem dX0_enter_86 : decode cX0_enter 86 = .ok (.getfield 34, 3) := by decide +kernel
theorem dX0_enter_89 : decode cX0_enter 89 = .ok (.iload 6, 2) := by decide +kernel
theorem dX0_enter_91 : decode cX0_enter 91 = .ok (.iconst 0, 1) := by decide +kernel
theorem dX0_enter_92 : decode cX0_enter 92 = .ok (.bastore, 1) := by decide +kernel
theorem dX0_enter_93 : decode cX0_enter 93 = .ok (.aload_n 0, 1) := by decide +kernel
theorem dX0_enter_94 : decode cX0_enter 94 = .ok (.dup, 1) := by decide +kernel
theorem dX0_enter_95 : decode cX0_enter 95 = .ok (.getfield 37, 3) := by decide +kernel
theorem dX0_enter_98 : decode cX0_enter 98 = .ok (.iconst 1, 1) := by decide +kernel
theorem dX0_enter_99 : decode cX0_enter 99 = .ok (.iadd, 1) := by decide +kernel
theorem dX0_enter_100 : decode cX0_enter 100 = .ok (.putfield 37, 3) := by decide +kernel
theorem dX0_enter_103 : decode cX0_enter 103 = .ok (.iload 6, 2) := by decide +kernel
theorem dX0_enter_105 : decode cX0_enter 105 = .ok (.ireturn, 1) := by decide +kernel
theorem dX0_sayerOf_0 : decode cX0_sayerOf 0 = .ok (.aload_n 0, 1) := by decide +kernel
theorem dX0_sayerOf_1 : decode cX0_sayerOf 1 = .ok (.iload_n 1, 1) := by decide +kernel
theorem dX0_sayerOf_2 : decode cX0_sayerOf 2 = .ok (.invokevirtual 41, 3) := by decide +kernel
theorem dX0_sayerOf_5 : decode cX0_sayerOf 5 = .ok (.ifCond .eq 12, 3) := by decide +kernel
theorem dX0_sayerOf_8 : decode cX0_sayerOf 8 = .ok (.aload_n 0, 1) := by decide +kernel
theorem dX0_sayerOf_9 : decode cX0_sayerOf 9 = .ok (.getfield 9, 3) := by decide +kernel
theorem dX0_sayerOf_12 : decode cX0_sayerOf 12 = .ok (.iload_n 1, 1) := by decide +kernel
theorem dX0_sayerOf_13 : decode cX0_sayerOf 13 = .ok (.iaload, 1) := by decide +kernel
theorem dX0_sayerOf_14 : decode cX0_sayerOf 14 = .ok (.goto 4, 3) := by decide +kernel
theorem dX0_sayerOf_17 : decode cX0_sayerOf 17 = .ok (.iconst (-1), 1) := by decide +kernel
theorem dX0_sayerOf_18 : decode cX0_sayerOf 18 = .ok (.ireturn, 1) := by decide +kernel
theorem dX0_hearerOf_0 : decode cX0_hearerOf 0 = .ok (.aload_n 0, 1) := by decide +kernel
theorem dX0_hearerOf_1 : decode cX0_hearerOf 1 = .ok (.iload_n 1, 1) := by decide +kernel
theorem dX0_hearerOf_2 : decode cX0_hearerOf 2 = .ok (.invokevirtual 41, 3) := by decide +kernel
theorem dX0_hearerOf_5 : decode cX0_hearerOf 5 = .ok (.ifCond .eq 12, 3) := by decide +kernel
theorem dX0_hearerOf_8 : decode cX0_hearerOf 8 = .ok (.aload_n 0, 1) := by decide +kernel
theorem dX0_hearerOf_9 : decode cX0_hearerOf 9 = .ok (.getfield 15, 3) := by decide +kernel
theorem dX0_hearerOf_12 : decode cX0_hearerOf 12 = .ok (.iload_n 1, 1) := by decide +kernel
theorem dX0_hearerOf_13 : decode cX0_hearerOf 13 = .ok (.iaload, 1) := by decide +kernel
theorem dX0_hearerOf_14 : decode cX0_hearerOf 14 = .ok (.goto 4, 3) := by decide +kernel
theorem dX0_hearerOf_17 : decode cX0_hearerOf 17 = .ok (.iconst (-1), 1) := by decide +kernel
theorem dX0_hearerOf_18 : decode cX0_hearerOf 18 = .ok (.ireturn, 1) := by decide +kernel
theorem dX0_placeIn_0 : decode cX0_placeIn 0 = .ok (.aload_n 0, 1) := by decide +kernel
theorem dX0_placeIn_1 : decode cX0_placeIn 1 = .ok (.iload_n 1, 1) := by decide +kernel
theorem dX0_placeIn_2 : decode cX0_placeIn 2 = .ok (.invokevirtual 41, 3) := by decide +kernel
theorem dX0_placeIn_5 : decode cX0_placeIn 5 = .ok (.ifCond .eq 12, 3) := by decide +kernel
theorem dX0_placeIn_8 : decode cX0_placeIn 8 = .ok (.aload_n 0, 1) := by decide +kernel
theorem dX0_placeIn_9 : decode cX0_placeIn 9 = .ok (.getfield 18, 3) := by decide +kernel
theorem dX0_placeIn_12 : decode cX0_placeIn 12 = .ok (.iload_n 1, 1) := by decide +kernel
theorem dX0_placeIn_13 : decode cX0_placeIn 13 = .ok (.iaload, 1) := by decide +kernel
theorem dX0_placeIn_14 : decode cX0_placeIn 14 = .ok (.goto 4, 3) := by decide +kernel
theorem dX0_placeIn_17 : decode cX0_placeIn 17 = .ok (.iconst (-1), 1) := by decide +kernel
theorem dX0_placeIn_18 : decode cX0_placeIn 18 = .ok (.ireturn, 1) := by decide +kernel
theorem dX0_dayOf_0 : decode cX0_dayOf 0 = .ok (.aload_n 0, 1) := by decide +kernel
theorem dX0_dayOf_1 : decode cX0_dayOf 1 = .ok (.iload_n 1, 1) := by decide +kernel
theorem dX0_dayOf_2 : decode cX0_dayOf 2 = .ok (.invokevirtual 41, 3) := by decide +kernel
theorem dX0_dayOf_5 : decode cX0_dayOf 5 = .ok (.ifCond .eq 12, 3) := by decide +kernel
theorem dX0_dayOf_8 : decode cX0_dayOf 8 = .ok (.aload_n 0, 1) := by decide +kernel
theorem dX0_dayOf_9 : decode cX0_dayOf 9 = .ok (.getfield 21, 3) := by decide +kernel
theorem dX0_dayOf_12 : decode cX0_dayOf 12 = .ok (.iload_n 1, 1) := by decide +kernel
theorem dX0_dayOf_13 : decode cX0_dayOf 13 = .ok (.iaload, 1) := by decide +kernel
theorem dX0_dayOf_14 : decode cX0_dayOf 14 = .ok (.goto 4, 3) := by decide +kernel
theorem dX0_dayOf_17 : decode cX0_dayOf 17 = .ok (.iconst (-1), 1) := by decide +kernel
theorem dX0_dayOf_18 : decode cX0_dayOf 18 = .ok (.ireturn, 1) := by decide +kernel
theorem dX0_standingOf_0 : decode cX0_standingOf 0 = .ok (.aload_n 0, 1) := by decide +kernel
theorem dX0_standingOf_1 : decode cX0_standingOf 1 = .ok (.iload_n 1, 1) := by decide +kernel
theorem dX0_standingOf_2 : decode cX0_standingOf 2 = .ok (.invokevirtual 41, 3) := by decide +kernel
theorem dX0_standingOf_5 : decode cX0_standingOf 5 = .ok (.ifCond .eq 12, 3) := by decide +kernel
theorem dX0_standingOf_8 : decode cX0_standingOf 8 = .ok (.aload_n 0, 1) := by decide +kernel
theorem dX0_standingOf_9 : decode cX0_standingOf 9 = .ok (.getfield 24, 3) := by decide +kernel
theorem dX0_standingOf_12 : decode cX0_standingOf 12 = .ok (.iload_n 1, 1) := by decide +kernel
theorem dX0_standingOf_13 : decode cX0_standingOf 13 = .ok (.iaload, 1) := by decide +kernel
theorem dX0_standingOf_14 : decode cX0_standingOf 14 = .ok (.goto 4, 3) := by decide +kernel
theorem dX0_standingOf_17 : decode cX0_standingOf 17 = .ok (.iconst (-1), 1) := by decide +kernel
theorem dX0_standingOf_18 : decode cX0_standingOf 18 = .ok (.ireturn, 1) := by decide +kernel
theorem dX0_lastDayOf_0 : decode cX0_lastDayOf 0 = .ok (.aload_n 0, 1) := by decide +kernel
theorem dX0_lastDayOf_1 : decode cX0_lastDayOf 1 = .ok (.iload_n 1, 1) := by decide +kernel
theorem dX0_lastDayOf_2 : decode cX0_lastDayOf 2 = .ok (.invokevirtual 45, 3) := by decide +kernel
theorem dX0_lastDayOf_5 : decode cX0_lastDayOf 5 = .ok (.ifCond .eq 12, 3) := by decide +kernel
theorem dX0_lastDayOf_8 : decode cX0_lastDayOf 8 = .ok (.aload_n 0, 1) := by decide +kernel
theorem dX0_lastDayOf_9 : decode cX0_lastDayOf 9 = .ok (.getfield 27, 3) := by decide +kernel
theorem dX0_lastDayOf_12 : decode cX0_lastDayOf 12 = .ok (.iload_n 1, 1) := by decide +kernel
theorem dX0_lastDayOf_13 : decode cX0_lastDayOf 13 = .ok (.iaload, 1) := by decide +kernel
theorem dX0_lastDayOf_14 : decode cX0_lastDayOf 14 = .ok (.goto 4, 3) := by decide +kernel
theorem dX0_lastDayOf_17 : decode cX0_lastDayOf 17 = .ok (.iconst (-1), 1) := by decide +kernel
theorem dX0_lastDayOf_18 : decode cX0_lastDayOf 18 = .ok (.ireturn, 1) := by decide +kernel
theorem dX0_engages_0 : decode cX0_engages 0 = .ok (.iconst 0, 1) := by decide +kernel
theorem dX0_engages_1 : decode cX0_engages 1 = .ok (.istore_n 2, 1) := by decide +kernel
theorem dX0_engages_2 : decode cX0_engages 2 = .ok (.iload_n 2, 1) := by decide +kernel
theorem dX0_engages_3 : decode cX0_engages 3 = .ok (.aload_n 0, 1) := by decide +kernel
theorem dX0_engages_4 : decode cX0_engages 4 = .ok (.getfield 37, 3) := by decide +kernel
theorem dX0_engages_7 : decode cX0_engages 7 = .ok (.if_icmp .ge 39, 3) := by decide +kernel
theorem dX0_engages_10 : decode cX0_engages 10 = .ok (.aload_n 0, 1) := by decide +kernel
theorem dX0_engages_11 : decode cX0_engages 11 = .ok (.iload_n 2, 1) := by decide +kernel
theorem dX0_engages_12 : decode cX0_engages 12 = .ok (.invokevirtual 45, 3) := by decide +kernel
theorem dX0_engages_15 : decode cX0_engages 15 = .ok (.ifCond .eq 25, 3) := by decide +kernel
theorem dX0_engages_18 : decode cX0_engages 18 = .ok (.aload_n 0, 1) := by decide +kernel
theorem dX0_engages_19 : decode cX0_engages 19 = .ok (.getfield 9, 3) := by decide +kernel
theorem dX0_engages_22 : decode cX0_engages 22 = .ok (.iload_n 2, 1) := by decide +kernel
theorem dX0_engages_23 : decode cX0_engages 23 = .ok (.iaload, 1) := by decide +kernel
theorem dX0_engages_24 : decode cX0_engages 24 = .ok (.iload_n 1, 1) := by decide +kernel
theorem dX0_engages_25 : decode cX0_engages 25 = .ok (.if_icmp .eq 13, 3) := by decide +kernel
theorem dX0_engages_28 : decode cX0_engages 28 = .ok (.aload_n 0, 1) := by decide +kernel
theorem dX0_engages_29 : decode cX0_engages 29 = .ok (.getfield 15, 3) := by decide +kernel
theorem dX0_engages_32 : decode cX0_engages 32 = .ok (.iload_n 2, 1) := by decide +kernel
theorem dX0_engages_33 : decode cX0_engages 33 = .ok (.iaload, 1) := by decide +kernel
theorem dX0_engages_34 : decode cX0_engages 34 = .ok (.iload_n 1, 1) := by decide +kernel
theorem dX0_engages_35 : decode cX0_engages 35 = .ok (.if_icmp .ne 5, 3) := by decide +kernel
theorem dX0_engages_38 : decode cX0_engages 38 = .ok (.iconst 1, 1) := by decide +kernel
theorem dX0_engages_39 : decode cX0_engages 39 = .ok (.ireturn, 1) := by decide +kernel
theorem dX0_engages_40 : decode cX0_engages 40 = .ok (.iinc 2 1, 3) := by decide +kernel
theorem dX0_engages_43 : decode cX0_engages 43 = .ok (.goto (-41), 3) := by decide +kernel
theorem dX0_engages_46 : decode cX0_engages 46 = .ok (.iconst 0, 1) := by decide +kernel
theorem dX0_engages_47 : decode cX0_engages 47 = .ok (.ireturn, 1) := by decide +kernel
theorem dX0_take_0 : decode cX0_take 0 = .ok (.aload_n 0, 1) := by decide +kernel
theorem dX0_take_1 : decode cX0_take 1 = .ok (.iload_n 1, 1) := by decide +kernel
theorem dX0_take_2 : decode cX0_take 2 = .ok (.invokevirtual 41, 3) := by decide +kernel
theorem dX0_take_5 : decode cX0_take 5 = .ok (.ifCond .eq 32, 3) := by decide +kernel
theorem dX0_take_8 : decode cX0_take 8 = .ok (.aload_n 0, 1) := by decide +kernel
theorem dX0_take_9 : decode cX0_take 9 = .ok (.getfield 24, 3) := by decide +kernel
theorem dX0_take_12 : decode cX0_take 12 = .ok (.iload_n 1, 1) := by decide +kernel
theorem dX0_take_13 : decode cX0_take 13 = .ok (.iconst 2, 1) := by decide +kernel
theorem dX0_take_14 : decode cX0_take 14 = .ok (.iastore, 1) := by decide +kernel
theorem dX0_take_15 : decode cX0_take 15 = .ok (.aload_n 2, 1) := by decide +kernel
theorem dX0_take_16 : decode cX0_take 16 = .ok (.aload_n 0, 1) := by decide +kernel
theorem dX0_take_17 : decode cX0_take 17 = .ok (.getfield 18, 3) := by decide +kernel
theorem dX0_take_20 : decode cX0_take 20 = .ok (.iload_n 1, 1) := by decide +kernel
theorem dX0_take_21 : decode cX0_take 21 = .ok (.iaload, 1) := by decide +kernel
theorem dX0_take_22 : decode cX0_take 22 = .ok (.aload_n 0, 1) := by decide +kernel
theorem dX0_take_23 : decode cX0_take 23 = .ok (.getfield 9, 3) := by decide +kernel
theorem dX0_take_26 : decode cX0_take 26 = .ok (.iload_n 1, 1) := by decide +kernel
theorem dX0_take_27 : decode cX0_take 27 = .ok (.iaload, 1) := by decide +kernel
theorem dX0_take_28 : decode cX0_take 28 = .ok (.aload_n 0, 1) := by decide +kernel
theorem dX0_take_29 : decode cX0_take 29 = .ok (.getfield 15, 3) := by decide +kernel
theorem dX0_take_32 : decode cX0_take 32 = .ok (.iload_n 1, 1) := by decide +kernel
theorem dX0_take_33 : decode cX0_take 33 = .ok (.iaload, 1) := by decide +kernel
theorem dX0_take_34 : decode cX0_take 34 = .ok (.invokevirtual 48, 3) := by decide +kernel
theorem dX0_take_37 : decode cX0_take 37 = .ok (.return_, 1) := by decide +kernel
theorem dX0_change_0 : decode cX0_change 0 = .ok (.aload_n 0, 1) := by decide +kernel
theorem dX0_change_1 : decode cX0_change 1 = .ok (.iload_n 1, 1) := by decide +kernel
theorem dX0_change_2 : decode cX0_change 2 = .ok (.invokevirtual 41, 3) := by decide +kernel
theorem dX0_change_5 : decode cX0_change 5 = .ok (.ifCond .eq 17, 3) := by decide +kernel
theorem dX0_change_8 : decode cX0_change 8 = .ok (.aload_n 0, 1) := by decide +kernel
theorem dX0_change_9 : decode cX0_change 9 = .ok (.getfield 24, 3) := by decide +kernel
theorem dX0_change_12 : decode cX0_change 12 = .ok (.iload_n 1, 1) := by decide +kernel
theorem dX0_change_13 : decode cX0_change 13 = .ok (.iconst 1, 1) := by decide +kernel
theorem dX0_change_14 : decode cX0_change 14 = .ok (.iastore, 1) := by decide +kernel
theorem dX0_change_15 : decode cX0_change 15 = .ok (.aload_n 0, 1) := by decide +kernel
theorem dX0_change_16 : decode cX0_change 16 = .ok (.getfield 27, 3) := by decide +kernel
theorem dX0_change_19 : decode cX0_change 19 = .ok (.iload_n 1, 1) := by decide +kernel
theorem dX0_change_20 : decode cX0_change 20 = .ok (.iload_n 2, 1) := by decide +kernel
theorem dX0_change_21 : decode cX0_change 21 = .ok (.iastore, 1) := by decide +kernel
theorem dX0_change_22 : decode cX0_change 22 = .ok (.return_, 1) := by decide +kernel
theorem dX0_hasSworn_0 : decode cX0_hasSworn 0 = .ok (.aload_n 0, 1) := by decide +kernel
theorem dX0_hasSworn_1 : decode cX0_hasSworn 1 = .ok (.iload_n 1, 1) := by decide +kernel
theorem dX0_hasSworn_2 : decode cX0_hasSworn 2 = .ok (.invokevirtual 41, 3) := by decide +kernel
theorem dX0_hasSworn_5 : decode cX0_hasSworn 5 = .ok (.ifCond .eq 32, 3) := by decide +kernel
theorem dX0_hasSworn_8 : decode cX0_hasSworn 8 = .ok (.iload_n 2, 1) := by decide +kernel
theorem dX0_hasSworn_9 : decode cX0_hasSworn 9 = .ok (.ifCond .eq 15, 3) := by decide +kernel
theorem dX0_hasSworn_12 : decode cX0_hasSworn 12 = .ok (.aload_n 0, 1) := by decide +kernel
theorem dX0_hasSworn_13 : decode cX0_hasSworn 13 = .ok (.getfield 30, 3) := by decide +kernel
theorem dX0_hasSworn_16 : decode cX0_hasSworn 16 = .ok (.iload_n 1, 1) := by decide +kernel
theorem dX0_hasSworn_17 : decode cX0_hasSworn 17 = .ok (.baload, 1) := by decide +kernel
theorem dX0_hasSworn_18 : decode cX0_hasSworn 18 = .ok (.ifCond .eq 19, 3) := by decide +kernel
theorem dX0_hasSworn_21 : decode cX0_hasSworn 21 = .ok (.goto 12, 3) := by decide +kernel
theorem dX0_hasSworn_24 : decode cX0_hasSworn 24 = .ok (.aload_n 0, 1) := by decide +kernel
theorem dX0_hasSworn_25 : decode cX0_hasSworn 25 = .ok (.getfield 34, 3) := by decide +kernel
theorem dX0_hasSworn_28 : decode cX0_hasSworn 28 = .ok (.iload_n 1, 1) := by decide +kernel
theorem dX0_hasSworn_29 : decode cX0_hasSworn 29 = .ok (.baload, 1) := by decide +kernel
theorem dX0_hasSworn_30 : decode cX0_hasSworn 30 = .ok (.ifCond .eq 7, 3) := by decide +kernel
theorem dX0_hasSworn_33 : decode cX0_hasSworn 33 = .ok (.iconst 1, 1) := by decide +kernel
theorem dX0_hasSworn_34 : decode cX0_hasSworn 34 = .ok (.goto 4, 3) := by decide +kernel
theorem dX0_hasSworn_37 : decode cX0_hasSworn 37 = .ok (.iconst 0, 1) := by decide +kernel
theorem dX0_hasSworn_38 : decode cX0_hasSworn 38 = .ok (.ireturn, 1) := by decide +kernel
theorem dX0_hearOath_0 : decode cX0_hearOath 0 = .ok (.aload_n 0, 1) := by decide +kernel
theorem dX0_hearOath_1 : decode cX0_hearOath 1 = .ok (.iload_n 1, 1) := by decide +kernel
theorem dX0_hearOath_2 : decode cX0_hearOath 2 = .ok (.invokevirtual 41, 3) := by decide +kernel
theorem dX0_hearOath_5 : decode cX0_hearOath 5 = .ok (.ifCond .ne 4, 3) := by decide +kernel
theorem dX0_hearOath_8 : decode cX0_hearOath 8 = .ok (.return_, 1) := by decide +kernel
theorem dX0_hearOath_9 : decode cX0_hearOath 9 = .ok (.iload_n 2, 1) := by decide +kernel
theorem dX0_hearOath_10 : decode cX0_hearOath 10 = .ok (.ifCond .eq 13, 3) := by decide +kernel
theorem dX0_hearOath_13 : decode cX0_hearOath 13 = .ok (.aload_n 0, 1) := by decide +kernel
theorem dX0_hearOath_14 : decode cX0_hearOath 14 = .ok (.getfield 30, 3) := by decide +kernel
theorem dX0_hearOath_17 : decode cX0_hearOath 17 = .ok (.iload_n 1, 1) := by decide +kernel
theorem dX0_hearOath_18 : decode cX0_hearOath 18 = .ok (.iconst 1, 1) := by decide +kernel
theorem dX0_hearOath_19 : decode cX0_hearOath 19 = .ok (.bastore, 1) := by decide +kernel
theorem dX0_hearOath_20 : decode cX0_hearOath 20 = .ok (.goto 10, 3) := by decide +kernel
theorem dX0_hearOath_23 : decode cX0_hearOath 23 = .ok (.aload_n 0, 1) := by decide +kernel
theorem dX0_hearOath_24 : decode cX0_hearOath 24 = .ok (.getfield 34, 3) := by decide +kernel
theorem dX0_hearOath_27 : decode cX0_hearOath 27 = .ok (.iload_n 1, 1) := by decide +kernel
theorem dX0_hearOath_28 : decode cX0_hearOath 28 = .ok (.iconst 1, 1) := by decide +kernel
theorem dX0_hearOath_29 : decode cX0_hearOath 29 = .ok (.bastore, 1) := by decide +kernel
theorem dX0_hearOath_30 : decode cX0_hearOath 30 = .ok (.aload_n 0, 1) := by decide +kernel
theorem dX0_hearOath_31 : decode cX0_hearOath 31 = .ok (.getfield 30, 3) := by decide +kernel
theorem dX0_hearOath_34 : decode cX0_hearOath 34 = .ok (.iload_n 1, 1) := by decide +kernel
theorem dX0_hearOath_35 : decode cX0_hearOath 35 = .ok (.baload, 1) := by decide +kernel
theorem dX0_hearOath_36 : decode cX0_hearOath 36 = .ok (.ifCond .eq 35, 3) := by decide +kernel
theorem dX0_hearOath_39 : decode cX0_hearOath 39 = .ok (.aload_n 0, 1) := by decide +kernel
theorem dX0_hearOath_40 : decode cX0_hearOath 40 = .ok (.getfield 34, 3) := by decide +kernel
theorem dX0_hearOath_43 : decode cX0_hearOath 43 = .ok (.iload_n 1, 1) := by decide +kernel
theorem dX0_hearOath_44 : decode cX0_hearOath 44 = .ok (.baload, 1) := by decide +kernel
theorem dX0_hearOath_45 : decode cX0_hearOath 45 = .ok (.ifCond .eq 26, 3) := by decide +kernel
theorem dX0_hearOath_48 : decode cX0_hearOath 48 = .ok (.aload_n 0, 1) := by decide +kernel
theorem dX0_hearOath_49 : decode cX0_hearOath 49 = .ok (.getfield 24, 3) := by decide +kernel
theorem dX0_hearOath_52 : decode cX0_hearOath 52 = .ok (.iload_n 1, 1) := by decide +kernel
theorem dX0_hearOath_53 : decode cX0_hearOath 53 = .ok (.iconst 3, 1) := by decide +kernel
theorem dX0_hearOath_54 : decode cX0_hearOath 54 = .ok (.iastore, 1) := by decide +kernel
theorem dX0_hearOath_55 : decode cX0_hearOath 55 = .ok (.aload_n 3, 1) := by decide +kernel
theorem dX0_hearOath_56 : decode cX0_hearOath 56 = .ok (.aload_n 0, 1) := by decide +kernel
theorem dX0_hearOath_57 : decode cX0_hearOath 57 = .ok (.getfield 9, 3) := by decide +kernel
theorem dX0_hearOath_60 : decode cX0_hearOath 60 = .ok (.iload_n 1, 1) := by decide +kernel
theorem dX0_hearOath_61 : decode cX0_hearOath 61 = .ok (.iaload, 1) := by decide +kernel
theorem dX0_hearOath_62 : decode cX0_hearOath 62 = .ok (.aload_n 0, 1) := by decide +kernel
theorem dX0_hearOath_63 : decode cX0_hearOath 63 = .ok (.getfield 15, 3) := by decide +kernel
theorem dX0_hearOath_66 : decode cX0_hearOath 66 = .ok (.iload_n 1, 1) := by decide +kernel
theorem dX0_hearOath_67 : decode cX0_hearOath 67 = .ok (.iaload, 1) := by decide +kernel
theorem dX0_hearOath_68 : decode cX0_hearOath 68 = .ok (.invokevirtual 54, 3) := by decide +kernel
theorem dX0_hearOath_71 : decode cX0_hearOath 71 = .ok (.return_, 1) := by decide +kernel
theorem dX0_judgeBeyond_0 : decode cX0_judgeBeyond 0 = .ok (.iconst 0, 1) := by decide +kernel
theorem dX0_judgeBeyond_1 : decode cX0_judgeBeyond 1 = .ok (.istore_n 3, 1) := by decide +kernel
theorem dX0_judgeBeyond_2 : decode cX0_judgeBeyond 2 = .ok (.iload_n 3, 1) := by decide +kernel
theorem dX0_judgeBeyond_3 : decode cX0_judgeBeyond 3 = .ok (.aload_n 0, 1) := by decide +kernel
theorem dX0_judgeBeyond_4 : decode cX0_judgeBeyond 4 = .ok (.getfield 37, 3) := by decide +kernel
theorem dX0_judgeBeyond_7 : decode cX0_judgeBeyond 7 = .ok (.if_icmp .ge 33, 3) := by decide +kernel
theorem dX0_judgeBeyond_10 : decode cX0_judgeBeyond 10 = .ok (.aload_n 0, 1) := by decide +kernel
theorem dX0_judgeBeyond_11 : decode cX0_judgeBeyond 11 = .ok (.iload_n 3, 1) := by decide +kernel
theorem dX0_judgeBeyond_12 : decode cX0_judgeBeyond 12 = .ok (.invokevirtual 45, 3) := by decide +kernel
theorem dX0_judgeBeyond_15 : decode cX0_judgeBeyond 15 = .ok (.ifCond .eq 19, 3) := by decide +kernel
theorem dX0_judgeBeyond_18 : decode cX0_judgeBeyond 18 = .ok (.iload_n 1, 1) := by decide +kernel
theorem dX0_judgeBeyond_19 : decode cX0_judgeBeyond 19 = .ok (.aload_n 0, 1) := by decide +kernel
theorem dX0_judgeBeyond_20 : decode cX0_judgeBeyond 20 = .ok (.getfield 27, 3) := by decide +kernel
theorem dX0_judgeBeyond_23 : decode cX0_judgeBeyond 23 = .ok (.iload_n 3, 1) := by decide +kernel
theorem dX0_judgeBeyond_24 : decode cX0_judgeBeyond 24 = .ok (.iaload, 1) := by decide +kernel
theorem dX0_judgeBeyond_25 : decode cX0_judgeBeyond 25 = .ok (.if_icmp .le 9, 3) := by decide +kernel
theorem dX0_judgeBeyond_28 : decode cX0_judgeBeyond 28 = .ok (.aload_n 0, 1) := by decide +kernel
theorem dX0_judgeBeyond_29 : decode cX0_judgeBeyond 29 = .ok (.iload_n 3, 1) := by decide +kernel
theorem dX0_judgeBeyond_30 : decode cX0_judgeBeyond 30 = .ok (.aload_n 2, 1) := by decide +kernel
theorem dX0_judgeBeyond_31 : decode cX0_judgeBeyond 31 = .ok (.invokevirtual 58, 3) := by decide +kernel
theorem dX0_judgeBeyond_34 : decode cX0_judgeBeyond 34 = .ok (.iinc 3 1, 3) := by decide +kernel
theorem dX0_judgeBeyond_37 : decode cX0_judgeBeyond 37 = .ok (.goto (-35), 3) := by decide +kernel
theorem dX0_judgeBeyond_40 : decode cX0_judgeBeyond 40 = .ok (.return_, 1) := by decide +kernel
theorem dX0_judgeAll_0 : decode cX0_judgeAll 0 = .ok (.iconst 0, 1) := by decide +kernel
theorem dX0_judgeAll_1 : decode cX0_judgeAll 1 = .ok (.istore_n 2, 1) := by decide +kernel
theorem dX0_judgeAll_2 : decode cX0_judgeAll 2 = .ok (.iload_n 2, 1) := by decide +kernel
theorem dX0_judgeAll_3 : decode cX0_judgeAll 3 = .ok (.aload_n 0, 1) := by decide +kernel
theorem dX0_judgeAll_4 : decode cX0_judgeAll 4 = .ok (.getfield 37, 3) := by decide +kernel
theorem dX0_judgeAll_7 : decode cX0_judgeAll 7 = .ok (.if_icmp .ge 23, 3) := by decide +kernel
theorem dX0_judgeAll_10 : decode cX0_judgeAll 10 = .ok (.aload_n 0, 1) := by decide +kernel
theorem dX0_judgeAll_11 : decode cX0_judgeAll 11 = .ok (.iload_n 2, 1) := by decide +kernel
theorem dX0_judgeAll_12 : decode cX0_judgeAll 12 = .ok (.invokevirtual 45, 3) := by decide +kernel
theorem dX0_judgeAll_15 : decode cX0_judgeAll 15 = .ok (.ifCond .eq 9, 3) := by decide +kernel
theorem dX0_judgeAll_18 : decode cX0_judgeAll 18 = .ok (.aload_n 0, 1) := by decide +kernel
theorem dX0_judgeAll_19 : decode cX0_judgeAll 19 = .ok (.iload_n 2, 1) := by decide +kernel
theorem dX0_judgeAll_20 : decode cX0_judgeAll 20 = .ok (.aload_n 1, 1) := by decide +kernel
theorem dX0_judgeAll_21 : decode cX0_judgeAll 21 = .ok (.invokevirtual 58, 3) := by decide +kernel
theorem dX0_judgeAll_24 : decode cX0_judgeAll 24 = .ok (.iinc 2 1, 3) := by decide +kernel
theorem dX0_judgeAll_27 : decode cX0_judgeAll 27 = .ok (.goto (-25), 3) := by decide +kernel
theorem dX0_judgeAll_30 : decode cX0_judgeAll 30 = .ok (.return_, 1) := by decide +kernel
theorem dX0_foreseeVerdicts_0 : decode cX0_foreseeVerdicts 0 = .ok (.iconst 0, 1) := by decide +kernel
theorem dX0_foreseeVerdicts_1 : decode cX0_foreseeVerdicts 1 = .ok (.istore_n 2, 1) := by decide +kernel
theorem dX0_foreseeVerdicts_2 : decode cX0_foreseeVerdicts 2 = .ok (.iload_n 2, 1) := by decide +kernel
theorem dX0_foreseeVerdicts_3 : decode cX0_foreseeVerdicts 3 = .ok (.aload_n 0, 1) := by decide +kernel
theorem dX0_foreseeVerdicts_4 : decode cX0_foreseeVerdicts 4 = .ok (.getfield 37, 3) := by decide +kernel
theorem dX0_foreseeVerdicts_7 : decode cX0_foreseeVerdicts 7 = .ok (.if_icmp .ge 29, 3) := by decide +kernel
theorem dX0_foreseeVerdicts_10 : decode cX0_foreseeVerdicts 10 = .ok (.aload_n 0, 1) := by decide +kernel
theorem dX0_foreseeVerdicts_11 : decode cX0_foreseeVerdicts 11 = .ok (.iload_n 2, 1) := by decide +kernel
theorem dX0_foreseeVerdicts_12 : decode cX0_foreseeVerdicts 12 = .ok (.invokevirtual 45, 3) := by decide +kernel
theorem dX0_foreseeVerdicts_15 : decode cX0_foreseeVerdicts 15 = .ok (.ifCond .eq 15, 3) := by decide +kernel
theorem dX0_foreseeVerdicts_18 : decode cX0_foreseeVerdicts 18 = .ok (.aload_n 0, 1) := by decide +kernel
theorem dX0_foreseeVerdicts_19 : decode cX0_foreseeVerdicts 19 = .ok (.iload_n 2, 1) := by decide +kernel
theorem dX0_foreseeVerdicts_20 : decode cX0_foreseeVerdicts 20 = .ok (.aload_n 0, 1) := by decide +kernel
theorem dX0_foreseeVerdicts_21 : decode cX0_foreseeVerdicts 21 = .ok (.iload_n 2, 1) := by decide +kernel
theorem dX0_foreseeVerdicts_22 : decode cX0_foreseeVerdicts 22 = .ok (.aload_n 1, 1) := by decide +kernel
theorem dX0_foreseeVerdicts_23 : decode cX0_foreseeVerdicts 23 = .ok (.invokevirtual 62, 3) := by decide +kernel
theorem dX0_foreseeVerdicts_26 : decode cX0_foreseeVerdicts 26 = .ok (.aload_n 1, 1) := by decide +kernel
theorem dX0_foreseeVerdicts_27 : decode cX0_foreseeVerdicts 27 = .ok (.invokevirtual 66, 3) := by decide +kernel
theorem dX0_foreseeVerdicts_30 : decode cX0_foreseeVerdicts 30 = .ok (.iinc 2 1, 3) := by decide +kernel
theorem dX0_foreseeVerdicts_33 : decode cX0_foreseeVerdicts 33 = .ok (.goto (-31), 3) := by decide +kernel
theorem dX0_foreseeVerdicts_36 : decode cX0_foreseeVerdicts 36 = .ok (.return_, 1) := by decide +kernel
theorem dX0_judge_0 : decode cX0_judge 0 = .ok (.aload_n 0, 1) := by decide +kernel
theorem dX0_judge_1 : decode cX0_judge 1 = .ok (.iload_n 1, 1) := by decide +kernel
theorem dX0_judge_2 : decode cX0_judge 2 = .ok (.invokevirtual 41, 3) := by decide +kernel
theorem dX0_judge_5 : decode cX0_judge 5 = .ok (.ifCond .eq 27, 3) := by decide +kernel
theorem dX0_judge_8 : decode cX0_judge 8 = .ok (.aload_n 0, 1) := by decide +kernel
theorem dX0_judge_9 : decode cX0_judge 9 = .ok (.getfield 24, 3) := by decide +kernel
theorem dX0_judge_12 : decode cX0_judge 12 = .ok (.iload_n 1, 1) := by decide +kernel
theorem dX0_judge_13 : decode cX0_judge 13 = .ok (.aload_n 0, 1) := by decide +kernel
theorem dX0_judge_14 : decode cX0_judge 14 = .ok (.iload_n 1, 1) := by decide +kernel
theorem dX0_judge_15 : decode cX0_judge 15 = .ok (.aload_n 2, 1) := by decide +kernel
theorem dX0_judge_16 : decode cX0_judge 16 = .ok (.invokevirtual 62, 3) := by decide +kernel
theorem dX0_judge_19 : decode cX0_judge 19 = .ok (.iastore, 1) := by decide +kernel
theorem dX0_judge_20 : decode cX0_judge 20 = .ok (.aload_n 0, 1) := by decide +kernel
theorem dX0_judge_21 : decode cX0_judge 21 = .ok (.iload_n 1, 1) := by decide +kernel
theorem dX0_judge_22 : decode cX0_judge 22 = .ok (.aload_n 0, 1) := by decide +kernel
theorem dX0_judge_23 : decode cX0_judge 23 = .ok (.getfield 24, 3) := by decide +kernel
theorem dX0_judge_26 : decode cX0_judge 26 = .ok (.iload_n 1, 1) := by decide +kernel
theorem dX0_judge_27 : decode cX0_judge 27 = .ok (.iaload, 1) := by decide +kernel
theorem dX0_judge_28 : decode cX0_judge 28 = .ok (.aload_n 2, 1) := by decide +kernel
theorem dX0_judge_29 : decode cX0_judge 29 = .ok (.invokevirtual 66, 3) := by decide +kernel
theorem dX0_judge_32 : decode cX0_judge 32 = .ok (.return_, 1) := by decide +kernel
theorem dX0_verdictOn_0 : decode cX0_verdictOn 0 = .ok (.aload_n 0, 1) := by decide +kernel
theorem dX0_verdictOn_1 : decode cX0_verdictOn 1 = .ok (.iload_n 1, 1) := by decide +kernel
theorem dX0_verdictOn_2 : decode cX0_verdictOn 2 = .ok (.invokevirtual 41, 3) := by decide +kernel
theorem dX0_verdictOn_5 : decode cX0_verdictOn 5 = .ok (.ifCond .ne 5, 3) := by decide +kernel
theorem dX0_verdictOn_8 : decode cX0_verdictOn 8 = .ok (.iconst (-1), 1) := by decide +kernel
theorem dX0_verdictOn_9 : decode cX0_verdictOn 9 = .ok (.ireturn, 1) := by decide +kernel
theorem dX0_verdictOn_10 : decode cX0_verdictOn 10 = .ok (.aload_n 0, 1) := by decide +kernel
theorem dX0_verdictOn_11 : decode cX0_verdictOn 11 = .ok (.getfield 24, 3) := by decide +kernel
theorem dX0_verdictOn_14 : decode cX0_verdictOn 14 = .ok (.iload_n 1, 1) := by decide +kernel
theorem dX0_verdictOn_15 : decode cX0_verdictOn 15 = .ok (.iaload, 1) := by decide +kernel
theorem dX0_verdictOn_16 : decode cX0_verdictOn 16 = .ok (.ifCond .ne 35, 3) := by decide +kernel
theorem dX0_verdictOn_19 : decode cX0_verdictOn 19 = .ok (.aload_n 2, 1) := by decide +kernel
theorem dX0_verdictOn_20 : decode cX0_verdictOn 20 = .ok (.aload_n 0, 1) := by decide +kernel
theorem dX0_verdictOn_21 : decode cX0_verdictOn 21 = .ok (.getfield 15, 3) := by decide +kernel
theorem dX0_verdictOn_24 : decode cX0_verdictOn 24 = .ok (.iload_n 1, 1) := by decide +kernel
theorem dX0_verdictOn_25 : decode cX0_verdictOn 25 = .ok (.iaload, 1) := by decide +kernel
theorem dX0_verdictOn_26 : decode cX0_verdictOn 26 = .ok (.invokevirtual 70, 3) := by decide +kernel
theorem dX0_verdictOn_29 : decode cX0_verdictOn 29 = .ok (.aload_n 2, 1) := by decide +kernel
theorem dX0_verdictOn_30 : decode cX0_verdictOn 30 = .ok (.aload_n 0, 1) := by decide +kernel
theorem dX0_verdictOn_31 : decode cX0_verdictOn 31 = .ok (.getfield 9, 3) := by decide +kernel
theorem dX0_verdictOn_34 : decode cX0_verdictOn 34 = .ok (.iload_n 1, 1) := by decide +kernel
theorem dX0_verdictOn_35 : decode cX0_verdictOn 35 = .ok (.iaload, 1) := by decide +kernel
theorem dX0_verdictOn_36 : decode cX0_verdictOn 36 = .ok (.invokevirtual 70, 3) := by decide +kernel
theorem dX0_verdictOn_39 : decode cX0_verdictOn 39 = .ok (.if_icmp .le 7, 3) := by decide +kernel
theorem dX0_verdictOn_42 : decode cX0_verdictOn 42 = .ok (.iconst 1, 1) := by decide +kernel
theorem dX0_verdictOn_43 : decode cX0_verdictOn 43 = .ok (.goto 4, 3) := by decide +kernel
theorem dX0_verdictOn_46 : decode cX0_verdictOn 46 = .ok (.iconst 0, 1) := by decide +kernel
theorem dX0_verdictOn_47 : decode cX0_verdictOn 47 = .ok (.istore_n 3, 1) := by decide +kernel
theorem dX0_verdictOn_48 : decode cX0_verdictOn 48 = .ok (.goto 27, 3) := by decide +kernel
theorem dX0_verdictOn_51 : decode cX0_verdictOn 51 = .ok (.aload_n 0, 1) := by decide +kernel
theorem dX0_verdictOn_52 : decode cX0_verdictOn 52 = .ok (.getfield 30, 3) := by decide +kernel
theorem dX0_verdictOn_55 : decode cX0_verdictOn 55 = .ok (.iload_n 1, 1) := by decide +kernel
theorem dX0_verdictOn_56 : decode cX0_verdictOn 56 = .ok (.baload, 1) := by decide +kernel
theorem dX0_verdictOn_57 : decode cX0_verdictOn 57 = .ok (.ifCond .eq 16, 3) := by decide +kernel
theorem dX0_verdictOn_60 : decode cX0_verdictOn 60 = .ok (.aload_n 0, 1) := by decide +kernel
theorem dX0_verdictOn_61 : decode cX0_verdictOn 61 = .ok (.getfield 34, 3) := by decide +kernel
theorem dX0_verdictOn_64 : decode cX0_verdictOn 64 = .ok (.iload_n 1, 1) := by decide +kernel
theorem dX0_verdictOn_65 : decode cX0_verdictOn 65 = .ok (.baload, 1) := by decide +kernel
theorem dX0_verdictOn_66 : decode cX0_verdictOn 66 = .ok (.ifCond .ne 7, 3) := by decide +kernel
theorem dX0_verdictOn_69 : decode cX0_verdictOn 69 = .ok (.iconst 1, 1) := by decide +kernel
theorem dX0_verdictOn_70 : decode cX0_verdictOn 70 = .ok (.goto 4, 3) := by decide +kernel
theorem dX0_verdictOn_73 : decode cX0_verdictOn 73 = .ok (.iconst 0, 1) := by decide +kernel
theorem dX0_verdictOn_74 : decode cX0_verdictOn 74 = .ok (.istore_n 3, 1) := by decide +kernel
theorem dX0_verdictOn_75 : decode cX0_verdictOn 75 = .ok (.iload_n 3, 1) := by decide +kernel
theorem dX0_verdictOn_76 : decode cX0_verdictOn 76 = .ok (.ifCond .eq 7, 3) := by decide +kernel
theorem dX0_verdictOn_79 : decode cX0_verdictOn 79 = .ok (.iconst 4, 1) := by decide +kernel
theorem dX0_verdictOn_80 : decode cX0_verdictOn 80 = .ok (.goto 4, 3) := by decide +kernel
theorem dX0_verdictOn_83 : decode cX0_verdictOn 83 = .ok (.iconst 5, 1) := by decide +kernel
theorem dX0_verdictOn_84 : decode cX0_verdictOn 84 = .ok (.ireturn, 1) := by decide +kernel
theorem dX0_carryOut_0 : decode cX0_carryOut 0 = .ok (.aload_n 0, 1) := by decide +kernel
theorem dX0_carryOut_1 : decode cX0_carryOut 1 = .ok (.iload_n 1, 1) := by decide +kernel
theorem dX0_carryOut_2 : decode cX0_carryOut 2 = .ok (.invokevirtual 41, 3) := by decide +kernel
theorem dX0_carryOut_5 : decode cX0_carryOut 5 = .ok (.ifCond .eq 30, 3) := by decide +kernel
theorem dX0_carryOut_8 : decode cX0_carryOut 8 = .ok (.iload_n 2, 1) := by decide +kernel
theorem dX0_carryOut_9 : decode cX0_carryOut 9 = .ok (.iconst 4, 1) := by decide +kernel
theorem dX0_carryOut_10 : decode cX0_carryOut 10 = .ok (.if_icmp .ne 25, 3) := by decide +kernel
theorem dX0_carryOut_13 : decode cX0_carryOut 13 = .ok (.aload_n 3, 1) := by decide +kernel
theorem dX0_carryOut_14 : decode cX0_carryOut 14 = .ok (.aload_n 0, 1) := by decide +kernel
theorem dX0_carryOut_15 : decode cX0_carryOut 15 = .ok (.getfield 18, 3) := by decide +kernel
theorem dX0_carryOut_18 : decode cX0_carryOut 18 = .ok (.iload_n 1, 1) := by decide +kernel
theorem dX0_carryOut_19 : decode cX0_carryOut 19 = .ok (.iaload, 1) := by decide +kernel
theorem dX0_carryOut_20 : decode cX0_carryOut 20 = .ok (.aload_n 0, 1) := by decide +kernel
theorem dX0_carryOut_21 : decode cX0_carryOut 21 = .ok (.getfield 9, 3) := by decide +kernel
theorem dX0_carryOut_24 : decode cX0_carryOut 24 = .ok (.iload_n 1, 1) := by decide +kernel
theorem dX0_carryOut_25 : decode cX0_carryOut 25 = .ok (.iaload, 1) := by decide +kernel
theorem dX0_carryOut_26 : decode cX0_carryOut 26 = .ok (.aload_n 0, 1) := by decide +kernel
theorem dX0_carryOut_27 : decode cX0_carryOut 27 = .ok (.getfield 15, 3) := by decide +kernel
theorem dX0_carryOut_30 : decode cX0_carryOut 30 = .ok (.iload_n 1, 1) := by decide +kernel
theorem dX0_carryOut_31 : decode cX0_carryOut 31 = .ok (.iaload, 1) := by decide +kernel
theorem dX0_carryOut_32 : decode cX0_carryOut 32 = .ok (.invokevirtual 48, 3) := by decide +kernel
theorem dX0_carryOut_35 : decode cX0_carryOut 35 = .ok (.return_, 1) := by decide +kernel
theorem dX0_isRunning_0 : decode cX0_isRunning 0 = .ok (.aload_n 0, 1) := by decide +kernel
theorem dX0_isRunning_1 : decode cX0_isRunning 1 = .ok (.iload_n 1, 1) := by decide +kernel
theorem dX0_isRunning_2 : decode cX0_isRunning 2 = .ok (.invokevirtual 74, 3) := by decide +kernel
theorem dX0_isRunning_5 : decode cX0_isRunning 5 = .ok (.istore_n 2, 1) := by decide +kernel
theorem dX0_isRunning_6 : decode cX0_isRunning 6 = .ok (.iload_n 2, 1) := by decide +kernel
theorem dX0_isRunning_7 : decode cX0_isRunning 7 = .ok (.ifCond .eq 8, 3) := by decide +kernel
theorem dX0_isRunning_10 : decode cX0_isRunning 10 = .ok (.iload_n 2, 1) := by decide +kernel
theorem dX0_isRunning_11 : decode cX0_isRunning 11 = .ok (.iconst 1, 1) := by decide +kernel
theorem dX0_isRunning_12 : decode cX0_isRunning 12 = .ok (.if_icmp .ne 7, 3) := by decide +kernel
theorem dX0_isRunning_15 : decode cX0_isRunning 15 = .ok (.iconst 1, 1) := by decide +kernel
theorem dX0_isRunning_16 : decode cX0_isRunning 16 = .ok (.goto 4, 3) := by decide +kernel
theorem dX0_isRunning_19 : decode cX0_isRunning 19 = .ok (.iconst 0, 1) := by decide +kernel
theorem dX0_isRunning_20 : decode cX0_isRunning 20 = .ok (.ireturn, 1) := by decide +kernel
theorem dX0_has_0 : decode cX0_has 0 = .ok (.iload_n 1, 1) := by decide +kernel
theorem dX0_has_1 : decode cX0_has 1 = .ok (.ifCond .lt 21, 3) := by decide +kernel
theorem dX0_has_4 : decode cX0_has 4 = .ok (.iload_n 1, 1) := by decide +kernel
theorem dX0_has_5 : decode cX0_has 5 = .ok (.aload_n 0, 1) := by decide +kernel
theorem dX0_has_6 : decode cX0_has 6 = .ok (.getfield 37, 3) := by decide +kernel
theorem dX0_has_9 : decode cX0_has 9 = .ok (.if_icmp .ge 13, 3) := by decide +kernel
theorem dX0_has_12 : decode cX0_has 12 = .ok (.iload_n 1, 1) := by decide +kernel
theorem dX0_has_13 : decode cX0_has 13 = .ok (.bipush 40, 2) := by decide +kernel
theorem dX0_has_15 : decode cX0_has 15 = .ok (.if_icmp .ge 7, 3) := by decide +kernel
theorem dX0_has_18 : decode cX0_has 18 = .ok (.iconst 1, 1) := by decide +kernel
theorem dX0_has_19 : decode cX0_has 19 = .ok (.goto 4, 3) := by decide +kernel
theorem dX0_has_22 : decode cX0_has 22 = .ok (.iconst 0, 1) := by decide +kernel
theorem dX0_has_23 : decode cX0_has 23 = .ok (.ireturn, 1) := by decide +kernel
theorem dX1_init_0 : decode cX1_init 0 = .ok (.aload_n 0, 1) := by decide +kernel
theorem dX1_init_1 : decode cX1_init 1 = .ok (.invokespecial 3, 3) := by decide +kernel
theorem dX1_init_4 : decode cX1_init 4 = .ok (.aload_n 0, 1) := by decide +kernel
theorem dX1_init_5 : decode cX1_init 5 = .ok (.aload_n 1, 1) := by decide +kernel
theorem dX1_init_6 : decode cX1_init 6 = .ok (.putfield 9, 3) := by decide +kernel
theorem dX1_init_9 : decode cX1_init 9 = .ok (.aload_n 0, 1) := by decide +kernel
theorem dX1_init_10 : decode cX1_init 10 = .ok (.iconst 4, 1) := by decide +kernel
theorem dX1_init_11 : decode cX1_init 11 = .ok (.newarray .boolean, 2) := by decide +kernel
theorem dX1_init_13 : decode cX1_init 13 = .ok (.putfield 15, 3) := by decide +kernel
theorem dX1_init_16 : decode cX1_init 16 = .ok (.aload_n 0, 1) := by decide +kernel
theorem dX1_init_17 : decode cX1_init 17 = .ok (.iconst 0, 1) := by decide +kernel
theorem dX1_init_18 : decode cX1_init 18 = .ok (.putfield 19, 3) := by decide +kernel
theorem dX1_init_21 : decode cX1_init 21 = .ok (.aload_n 0, 1) := by decide +kernel
theorem dX1_init_22 : decode cX1_init 22 = .ok (.iconst 0, 1) := by decide +kernel
theorem dX1_init_23 : decode cX1_init 23 = .ok (.putfield 23, 3) := by decide +kernel
theorem dX1_init_26 : decode cX1_init 26 = .ok (.aload_n 0, 1) := by decide +kernel
theorem dX1_init_27 : decode cX1_init 27 = .ok (.iconst 0, 1) := by decide +kernel
theorem dX1_init_28 : decode cX1_init 28 = .ok (.putfield 26, 3) := by decide +kernel
theorem dX1_init_31 : decode cX1_init 31 = .ok (.aload_n 0, 1) := by decide +kernel
theorem dX1_init_32 : decode cX1_init 32 = .ok (.iconst (-1), 1) := by decide +kernel
theorem dX1_init_33 : decode cX1_init 33 = .ok (.putfield 29, 3) := by decide +kernel
theorem dX1_init_36 : decode cX1_init 36 = .ok (.return_, 1) := by decide +kernel
theorem dX1_faultKind_0 : decode cX1_faultKind 0 = .ok (.aload_n 0, 1) := by decide +kernel
theorem dX1_faultKind_1 : decode cX1_faultKind 1 = .ok (.getfield 26, 3) := by decide +kernel
theorem dX1_faultKind_4 : decode cX1_faultKind 4 = .ok (.ireturn, 1) := by decide +kernel
theorem dX1_faultPlace_0 : decode cX1_faultPlace 0 = .ok (.aload_n 0, 1) := by decide +kernel
theorem dX1_faultPlace_1 : decode cX1_faultPlace 1 = .ok (.getfield 29, 3) := by decide +kernel
theorem dX1_faultPlace_4 : decode cX1_faultPlace 4 = .ok (.ireturn, 1) := by decide +kernel
theorem dX1_read_0 : decode cX1_read 0 = .ok (.aload_n 0, 1) := by decide +kernel
theorem dX1_read_1 : decode cX1_read 1 = .ok (.iload_n 1, 1) := by decide +kernel
theorem dX1_read_2 : decode cX1_read 2 = .ok (.putfield 19, 3) := by decide +kernel
theorem dX1_read_5 : decode cX1_read 5 = .ok (.aload_n 0, 1) := by decide +kernel
theorem dX1_read_6 : decode cX1_read 6 = .ok (.iconst 0, 1) := by decide +kernel
theorem dX1_read_7 : decode cX1_read 7 = .ok (.putfield 23, 3) := by decide +kernel
theorem dX1_read_10 : decode cX1_read 10 = .ok (.aload_n 0, 1) := by decide +kernel
theorem dX1_read_11 : decode cX1_read 11 = .ok (.iconst 0, 1) := by decide +kernel
theorem dX1_read_12 : decode cX1_read 12 = .ok (.putfield 26, 3) := by decide +kernel
theorem dX1_read_15 : decode cX1_read 15 = .ok (.aload_n 0, 1) := by decide +kernel
theorem dX1_read_16 : decode cX1_read 16 = .ok (.iconst (-1), 1) := by decide +kernel
theorem dX1_read_17 : decode cX1_read 17 = .ok (.putfield 29, 3) := by decide +kernel
theorem dX1_read_20 : decode cX1_read 20 = .ok (.iconst 0, 1) := by decide +kernel
theorem dX1_read_21 : decode cX1_read 21 = .ok (.istore_n 3, 1) := by decide +kernel
theorem dX1_read_22 : decode cX1_read 22 = .ok (.iload_n 3, 1) := by decide +kernel
theorem dX1_read_23 : decode cX1_read 23 = .ok (.aload_n 0, 1) := by decide +kernel
theorem dX1_read_24 : decode cX1_read 24 = .ok (.getfield 15, 3) := by decide +kernel
theorem dX1_read_27 : decode cX1_read 27 = .ok (.arraylength, 1) := by decide +kernel
theorem dX1_read_28 : decode cX1_read 28 = .ok (.if_icmp .ge 16, 3) := by decide +kernel
theorem dX1_read_31 : decode cX1_read 31 = .ok (.aload_n 0, 1) := by decide +kernel
theorem dX1_read_32 : decode cX1_read 32 = .ok (.getfield 15, 3) := by decide +kernel
theorem dX1_read_35 : decode cX1_read 35 = .ok (.iload_n 3, 1) := by decide +kernel
theorem dX1_read_36 : decode cX1_read 36 = .ok (.iconst 0, 1) := by decide +kernel
theorem dX1_read_37 : decode cX1_read 37 = .ok (.bastore, 1) := by decide +kernel
theorem dX1_read_38 : decode cX1_read 38 = .ok (.iinc 3 1, 3) := by decide +kernel
theorem dX1_read_41 : decode cX1_read 41 = .ok (.goto (-19), 3) := by decide +kernel
theorem dX1_read_44 : decode cX1_read 44 = .ok (.aload_n 2, 1) := by decide +kernel
theorem dX1_read_45 : decode cX1_read 45 = .ok (.invokevirtual 32, 3) := by decide +kernel
theorem dX1_read_48 : decode cX1_read 48 = .ok (.iconst 0, 1) := by decide +kernel
theorem dX1_read_49 : decode cX1_read 49 = .ok (.istore_n 3, 1) := by decide +kernel
theorem dX1_read_50 : decode cX1_read 50 = .ok (.iload_n 3, 1) := by decide +kernel
theorem dX1_read_51 : decode cX1_read 51 = .ok (.sipush 600, 3) := by decide +kernel
theorem dX1_read_54 : decode cX1_read 54 = .ok (.if_icmp .gt 29, 3) := by decide +kernel
theorem dX1_read_57 : decode cX1_read 57 = .ok (.aload_n 0, 1) := by decide +kernel
theorem dX1_read_58 : decode cX1_read 58 = .ok (.invokevirtual 37, 3) := by decide +kernel
theorem dX1_read_61 : decode cX1_read 61 = .ok (.ifCond .eq 22, 3) := by decide +kernel
theorem dX1_read_64 : decode cX1_read 64 = .ok (.aload_n 0, 1) := by decide +kernel
theorem dX1_read_65 : decode cX1_read 65 = .ok (.invokevirtual 41, 3) := by decide +kernel
theorem dX1_read_68 : decode cX1_read 68 = .ok (.iconst (-1), 1) := by decide +kernel
theorem dX1_read_69 : decode cX1_read 69 = .ok (.if_icmp .eq 14, 3) := by decide +kernel
theorem dX1_read_72 : decode cX1_read 72 = .ok (.aload_n 0, 1) := by decide +kernel
theorem dX1_read_73 : decode cX1_read 73 = .ok (.aload_n 2, 1) := by decide +kernel
theorem dX1_read_74 : decode cX1_read 74 = .ok (.invokevirtual 45, 3) := by decide +kernel
theorem dX1_read_77 : decode cX1_read 77 = .ok (.iinc 3 1, 3) := by decide +kernel
theorem dX1_read_80 : decode cX1_read 80 = .ok (.goto (-30), 3) := by decide +kernel
theorem dX1_read_83 : decode cX1_read 83 = .ok (.aload_n 2, 1) := by decide +kernel
theorem dX1_read_84 : decode cX1_read 84 = .ok (.invokevirtual 49, 3) := by decide +kernel
theorem dX1_read_87 : decode cX1_read 87 = .ok (.aload_n 0, 1) := by decide +kernel
theorem dX1_read_88 : decode cX1_read 88 = .ok (.invokevirtual 37, 3) := by decide +kernel
theorem dX1_read_91 : decode cX1_read 91 = .ok (.ireturn, 1) := by decide +kernel
theorem dX1_isSound_0 : decode cX1_isSound 0 = .ok (.aload_n 0, 1) := by decide +kernel
theorem dX1_isSound_1 : decode cX1_isSound 1 = .ok (.getfield 26, 3) := by decide +kernel
theorem dX1_isSound_4 : decode cX1_isSound 4 = .ok (.ifCond .ne 7, 3) := by decide +kernel
theorem dX1_isSound_7 : decode cX1_isSound 7 = .ok (.iconst 1, 1) := by decide +kernel
theorem dX1_isSound_8 : decode cX1_isSound 8 = .ok (.goto 4, 3) := by decide +kernel
theorem dX1_isSound_11 : decode cX1_isSound 11 = .ok (.iconst 0, 1) := by decide +kernel
theorem dX1_isSound_12 : decode cX1_isSound 12 = .ok (.ireturn, 1) := by decide +kernel
theorem dX1_blame_0 : decode cX1_blame 0 = .ok (.aload_n 0, 1) := by decide +kernel
theorem dX1_blame_1 : decode cX1_blame 1 = .ok (.iload_n 1, 1) := by decide +kernel
theorem dX1_blame_2 : decode cX1_blame 2 = .ok (.putfield 26, 3) := by decide +kernel
theorem dX1_blame_5 : decode cX1_blame 5 = .ok (.aload_n 0, 1) := by decide +kernel
theorem dX1_blame_6 : decode cX1_blame 6 = .ok (.iload_n 2, 1) := by decide +kernel
theorem dX1_blame_7 : decode cX1_blame 7 = .ok (.putfield 29, 3) := by decide +kernel
theorem dX1_blame_10 : decode cX1_blame 10 = .ok (.return_, 1) := by decide +kernel
theorem dX1_readLine_0 : decode cX1_readLine 0 = .ok (.aload_n 0, 1) := by decide +kernel
theorem dX1_readLine_1 : decode cX1_readLine 1 = .ok (.getfield 23, 3) := by decide +kernel
theorem dX1_readLine_4 : decode cX1_readLine 4 = .ok (.istore_n 2, 1) := by decide +kernel
theorem dX1_readLine_5 : decode cX1_readLine 5 = .ok (.aload_n 0, 1) := by decide +kernel
theorem dX1_readLine_6 : decode cX1_readLine 6 = .ok (.invokevirtual 52, 3) := by decide +kernel
theorem dX1_readLine_9 : decode cX1_readLine 9 = .ok (.istore_n 3, 1) := by decide +kernel
theorem dX1_readLine_10 : decode cX1_readLine 10 = .ok (.iload_n 3, 1) := by decide +kernel
theorem dX1_readLine_11 : decode cX1_readLine 11 = .ok (.ifCond .lt 12, 3) := by decide +kernel
theorem dX1_readLine_14 : decode cX1_readLine 14 = .ok (.iload_n 3, 1) := by decide +kernel
theorem dX1_readLine_15 : decode cX1_readLine 15 = .ok (.aload_n 0, 1) := by decide +kernel
theorem dX1_readLine_16 : decode cX1_readLine 16 = .ok (.getfield 15, 3) := by decide +kernel
theorem dX1_readLine_19 : decode cX1_readLine 19 = .ok (.arraylength, 1) := by decide +kernel
theorem dX1_readLine_20 : decode cX1_readLine 20 = .ok (.if_icmp .lt 11, 3) := by decide +kernel
theorem dX1_readLine_23 : decode cX1_readLine 23 = .ok (.aload_n 0, 1) := by decide +kernel
theorem dX1_readLine_24 : decode cX1_readLine 24 = .ok (.aload_n 1, 1) := by decide +kernel
theorem dX1_readLine_25 : decode cX1_readLine 25 = .ok (.invokevirtual 55, 3) := by decide +kernel
theorem dX1_readLine_28 : decode cX1_readLine 28 = .ok (.goto 42, 3) := by decide +kernel
theorem dX1_readLine_31 : decode cX1_readLine 31 = .ok (.aload_n 0, 1) := by decide +kernel
theorem dX1_readLine_32 : decode cX1_readLine 32 = .ok (.getfield 15, 3) := by decide +kernel
theorem dX1_readLine_35 : decode cX1_readLine 35 = .ok (.iload_n 3, 1) := by decide +kernel
theorem dX1_readLine_36 : decode cX1_readLine 36 = .ok (.baload, 1) := by decide +kernel
theorem dX1_readLine_37 : decode cX1_readLine 37 = .ok (.ifCond .eq 12, 3) := by decide +kernel
theorem dX1_readLine_40 : decode cX1_readLine 40 = .ok (.aload_n 0, 1) := by decide +kernel
theorem dX1_readLine_41 : decode cX1_readLine 41 = .ok (.iconst 3, 1) := by decide +kernel
theorem dX1_readLine_42 : decode cX1_readLine 42 = .ok (.iload_n 2, 1) := by decide +kernel
theorem dX1_readLine_43 : decode cX1_readLine 43 = .ok (.invokevirtual 58, 3) := by decide +kernel
theorem dX1_readLine_46 : decode cX1_readLine 46 = .ok (.goto 24, 3) := by decide +kernel
theorem dX1_readLine_49 : decode cX1_readLine 49 = .ok (.aload_n 0, 1) := by decide +kernel
theorem dX1_readLine_50 : decode cX1_readLine 50 = .ok (.getfield 15, 3) := by decide +kernel
theorem dX1_readLine_53 : decode cX1_readLine 53 = .ok (.iload_n 3, 1) := by decide +kernel
theorem dX1_readLine_54 : decode cX1_readLine 54 = .ok (.iconst 1, 1) := by decide +kernel
theorem dX1_readLine_55 : decode cX1_readLine 55 = .ok (.bastore, 1) := by decide +kernel
theorem dX1_readLine_56 : decode cX1_readLine 56 = .ok (.aload_n 1, 1) := by decide +kernel
theorem dX1_readLine_57 : decode cX1_readLine 57 = .ok (.iload_n 3, 1) := by decide +kernel
theorem dX1_readLine_58 : decode cX1_readLine 58 = .ok (.aload_n 0, 1) := by decide +kernel
theorem dX1_readLine_59 : decode cX1_readLine 59 = .ok (.iconst 0, 1) := by decide +kernel
theorem dX1_readLine_60 : decode cX1_readLine 60 = .ok (.iload_n 3, 1) := by decide +kernel
theorem dX1_readLine_61 : decode cX1_readLine 61 = .ok (.invokestatic 62, 3) := by decide +kernel
theorem dX1_readLine_64 : decode cX1_readLine 64 = .ok (.invokevirtual 66, 3) := by decide +kernel
theorem dX1_readLine_67 : decode cX1_readLine 67 = .ok (.invokevirtual 70, 3) := by decide +kernel
theorem dX1_readLine_70 : decode cX1_readLine 70 = .ok (.aload_n 0, 1) := by decide +kernel
theorem dX1_readLine_71 : decode cX1_readLine 71 = .ok (.invokevirtual 73, 3) := by decide +kernel
theorem dX1_readLine_74 : decode cX1_readLine 74 = .ok (.return_, 1) := by decide +kernel
theorem dX1_readBurden_0 : decode cX1_readBurden 0 = .ok (.aload_n 0, 1) := by decide +kernel
theorem dX1_readBurden_1 : decode cX1_readBurden 1 = .ok (.ldc 76, 2) := by decide +kernel
theorem dX1_readBurden_3 : decode cX1_readBurden 3 = .ok (.invokevirtual 78, 3) := by decide +kernel
theorem dX1_readBurden_6 : decode cX1_readBurden 6 = .ok (.aload_n 0, 1) := by decide +kernel
theorem dX1_readBurden_7 : decode cX1_readBurden 7 = .ok (.aload_n 1, 1) := by decide +kernel
theorem dX1_readBurden_8 : decode cX1_readBurden 8 = .ok (.invokevirtual 82, 3) := by decide +kernel
theorem dX1_readBurden_11 : decode cX1_readBurden 11 = .ok (.istore_n 2, 1) := by decide +kernel
theorem dX1_readBurden_12 : decode cX1_readBurden 12 = .ok (.aload_n 0, 1) := by decide +kernel
theorem dX1_readBurden_13 : decode cX1_readBurden 13 = .ok (.ldc 86, 2) := by decide +kernel
theorem dX1_readBurden_15 : decode cX1_readBurden 15 = .ok (.invokevirtual 78, 3) := by decide +kernel
theorem dX1_readBurden_18 : decode cX1_readBurden 18 = .ok (.aload_n 0, 1) := by decide +kernel
theorem dX1_readBurden_19 : decode cX1_readBurden 19 = .ok (.iconst 1, 1) := by decide +kernel
theorem dX1_readBurden_20 : decode cX1_readBurden 20 = .ok (.sipush 10000, 3) := by decide +kernel
theorem dX1_readBurden_23 : decode cX1_readBurden 23 = .ok (.invokevirtual 66, 3) := by decide +kernel
theorem dX1_readBurden_26 : decode cX1_readBurden 26 = .ok (.istore_n 3, 1) := by decide +kernel
theorem dX1_readBurden_27 : decode cX1_readBurden 27 = .ok (.aload_n 0, 1) := by decide +kernel
theorem dX1_readBurden_28 : decode cX1_readBurden 28 = .ok (.ldc 88, 2) := by decide +kernel
theorem dX1_readBurden_30 : decode cX1_readBurden 30 = .ok (.invokevirtual 78, 3) := by decide +kernel
theorem dX1_readBurden_33 : decode cX1_readBurden 33 = .ok (.aload_n 0, 1) := by decide +kernel
theorem dX1_readBurden_34 : decode cX1_readBurden 34 = .ok (.iconst 1, 1) := by decide +kernel
theorem dX1_readBurden_35 : decode cX1_readBurden 35 = .ok (.iconst 4, 1) := by decide +kernel
theorem dX1_readBurden_36 : decode cX1_readBurden 36 = .ok (.invokevirtual 66, 3) := by decide +kernel
theorem dX1_readBurden_39 : decode cX1_readBurden 39 = .ok (.istore 4, 2) := by decide +kernel
theorem dX1_readBurden_41 : decode cX1_readBurden 41 = .ok (.aload_n 0, 1) := by decide +kernel
theorem dX1_readBurden_42 : decode cX1_readBurden 42 = .ok (.invokevirtual 37, 3) := by decide +kernel
theorem dX1_readBurden_45 : decode cX1_readBurden 45 = .ok (.ifCond .eq 11, 3) := by decide +kernel
theorem dX1_readBurden_48 : decode cX1_readBurden 48 = .ok (.aload_n 1, 1) := by decide +kernel
theorem dX1_readBurden_49 : decode cX1_readBurden 49 = .ok (.iload_n 2, 1) := by decide +kernel
theorem dX1_readBurden_50 : decode cX1_readBurden 50 = .ok (.iload_n 3, 1) := by decide +kernel
theorem dX1_readBurden_51 : decode cX1_readBurden 51 = .ok (.iload 4, 2) := by decide +kernel
theorem dX1_readBurden_53 : decode cX1_readBurden 53 = .ok (.invokevirtual 90, 3) := by decide +kernel
theorem dX1_readBurden_56 : decode cX1_readBurden 56 = .ok (.return_, 1) := by decide +kernel
theorem dX1_passSettingWord_0 : decode cX1_passSettingWord 0 = .ok (.iconst 0, 1) := by decide +kernel
theorem dX1_passSettingWord_1 : decode cX1_passSettingWord 1 = .ok (.istore_n 1, 1) := by decide +kernel
theorem dX1_passSettingWord_2 : decode cX1_passSettingWord 2 = .ok (.iload_n 1, 1) := by decide +kernel
theorem dX1_passSettingWord_3 : decode cX1_passSettingWord 3 = .ok (.aload_n 0, 1) := by decide +kernel
theorem dX1_passSettingWord_4 : decode cX1_passSettingWord 4 = .ok (.getfield 15, 3) := by decide +kernel
theorem dX1_passSettingWord_7 : decode cX1_passSettingWord 7 = .ok (.arraylength, 1) := by decide +kernel
theorem dX1_passSettingWord_8 : decode cX1_passSettingWord 8 = .ok (.if_icmp .ge 22, 3) := by decide +kernel
theorem dX1_passSettingWord_11 : decode cX1_passSettingWord 11 = .ok (.aload_n 0, 1) := by decide +kernel
theorem dX1_passSettingWord_12 : decode cX1_passSettingWord 12 = .ok (.iload_n 1, 1) := by decide +kernel
theorem dX1_passSettingWord_13 : decode cX1_passSettingWord 13 = .ok (.invokestatic 94, 3) := by decide +kernel
theorem dX1_passSettingWord_16 : decode cX1_passSettingWord 16 = .ok (.invokevirtual 98, 3) := by decide +kernel
theorem dX1_passSettingWord_19 : decode cX1_passSettingWord 19 = .ok (.ifCond .eq 5, 3) := by decide +kernel
theorem dX1_passSettingWord_22 : decode cX1_passSettingWord 22 = .ok (.iload_n 1, 1) := by decide +kernel
theorem dX1_passSettingWord_23 : decode cX1_passSettingWord 23 = .ok (.ireturn, 1) := by decide +kernel
theorem dX1_passSettingWord_24 : decode cX1_passSettingWord 24 = .ok (.iinc 1 1, 3) := by decide +kernel
theorem dX1_passSettingWord_27 : decode cX1_passSettingWord 27 = .ok (.goto (-25), 3) := by decide +kernel
theorem dX1_passSettingWord_30 : decode cX1_passSettingWord 30 = .ok (.iconst (-1), 1) := by decide +kernel
theorem dX1_passSettingWord_31 : decode cX1_passSettingWord 31 = .ok (.ireturn, 1) := by decide +kernel
theorem dX1_expectWord_0 : decode cX1_expectWord 0 = .ok (.aload_n 0, 1) := by decide +kernel
theorem dX1_expectWord_1 : decode cX1_expectWord 1 = .ok (.invokevirtual 37, 3) := by decide +kernel
theorem dX1_expectWord_4 : decode cX1_expectWord 4 = .ok (.ifCond .ne 4, 3) := by decide +kernel
theorem dX1_expectWord_7 : decode cX1_expectWord 7 = .ok (.return_, 1) := by decide +kernel
theorem dX1_expectWord_8 : decode cX1_expectWord 8 = .ok (.aload_n 0, 1) := by decide +kernel
theorem dX1_expectWord_9 : decode cX1_expectWord 9 = .ok (.invokevirtual 41, 3) := by decide +kernel
theorem dX1_expectWord_12 : decode cX1_expectWord 12 = .ok (.pop, 1) := by decide +kernel
theorem dX1_expectWord_13 : decode cX1_expectWord 13 = .ok (.aload_n 0, 1) := by decide +kernel
theorem dX1_expectWord_14 : decode cX1_expectWord 14 = .ok (.aload_n 1, 1) := by decide +kernel
theorem dX1_expectWord_15 : decode cX1_expectWord 15 = .ok (.invokevirtual 98, 3) := by decide +kernel
theorem dX1_expectWord_18 : decode cX1_expectWord 18 = .ok (.ifCond .ne 12, 3) := by decide +kernel
theorem dX1_expectWord_21 : decode cX1_expectWord 21 = .ok (.aload_n 0, 1) := by decide +kernel
theorem dX1_expectWord_22 : decode cX1_expectWord 22 = .ok (.iconst 1, 1) := by decide +kernel
theorem dX1_expectWord_23 : decode cX1_expectWord 23 = .ok (.aload_n 0, 1) := by decide +kernel
theorem dX1_expectWord_24 : decode cX1_expectWord 24 = .ok (.getfield 23, 3) := by decide +kernel
theorem dX1_expectWord_27 : decode cX1_expectWord 27 = .ok (.invokevirtual 58, 3) := by decide +kernel
theorem dX1_expectWord_30 : decode cX1_expectWord 30 = .ok (.return_, 1) := by decide +kernel
theorem dX1_expectNewName_0 : decode cX1_expectNewName 0 = .ok (.aload_n 0, 1) := by decide +kernel
theorem dX1_expectNewName_1 : decode cX1_expectNewName 1 = .ok (.invokevirtual 37, 3) := by decide +kernel
theorem dX1_expectNewName_4 : decode cX1_expectNewName 4 = .ok (.ifCond .ne 5, 3) := by decide +kernel
theorem dX1_expectNewName_7 : decode cX1_expectNewName 7 = .ok (.iconst (-1), 1) := by decide +kernel
theorem dX1_expectNewName_8 : decode cX1_expectNewName 8 = .ok (.ireturn, 1) := by decide +kernel
theorem dX1_expectNewName_9 : decode cX1_expectNewName 9 = .ok (.aload_n 0, 1) := by decide +kernel
theorem dX1_expectNewName_10 : decode cX1_expectNewName 10 = .ok (.invokevirtual 41, 3) := by decide +kernel
theorem dX1_expectNewName_13 : decode cX1_expectNewName 13 = .ok (.bipush 65, 2) := by decide +kernel
theorem dX1_expectNewName_15 : decode cX1_expectNewName 15 = .ok (.isub, 1) := by decide +kernel
theorem dX1_expectNewName_16 : decode cX1_expectNewName 16 = .ok (.istore_n 2, 1) := by decide +kernel
theorem dX1_expectNewName_17 : decode cX1_expectNewName 17 = .ok (.iload_n 2, 1) := by decide +kernel
theorem dX1_expectNewName_18 : decode cX1_expectNewName 18 = .ok (.ifCond .lt 9, 3) := by decide +kernel
theorem dX1_expectNewName_21 : decode cX1_expectNewName 21 = .ok (.iload_n 2, 1) := by decide +kernel
theorem dX1_expectNewName_22 : decode cX1_expectNewName 22 = .ok (.bipush 6, 2) := by decide +kernel
theorem dX1_expectNewName_24 : decode cX1_expectNewName 24 = .ok (.if_icmp .lt 14, 3) := by decide +kernel
theorem dX1_expectNewName_27 : decode cX1_expectNewName 27 = .ok (.aload_n 0, 1) := by decide +kernel
theorem dX1_expectNewName_28 : decode cX1_expectNewName 28 = .ok (.iconst 1, 1) := by decide +kernel
theorem dX1_expectNewName_29 : decode cX1_expectNewName 29 = .ok (.aload_n 0, 1) := by decide +kernel
theorem dX1_expectNewName_30 : decode cX1_expectNewName 30 = .ok (.getfield 23, 3) := by decide +kernel
theorem dX1_expectNewName_33 : decode cX1_expectNewName 33 = .ok (.invokevirtual 58, 3) := by decide +kernel
theorem dX1_expectNewName_36 : decode cX1_expectNewName 36 = .ok (.iconst (-1), 1) := by decide +kernel
theorem dX1_expectNewName_37 : decode cX1_expectNewName 37 = .ok (.ireturn, 1) := by decide +kernel
theorem dX1_expectNewName_38 : decode cX1_expectNewName 38 = .ok (.aload_n 1, 1) := by decide +kernel
theorem dX1_expectNewName_39 : decode cX1_expectNewName 39 = .ok (.iload_n 2, 1) := by decide +kernel
theorem dX1_expectNewName_40 : decode cX1_expectNewName 40 = .ok (.invokevirtual 102, 3) := by decide +kernel
theorem dX1_expectNewName_43 : decode cX1_expectNewName 43 = .ok (.ifCond .eq 14, 3) := by decide +kernel
theorem dX1_expectNewName_46 : decode cX1_expectNewName 46 = .ok (.aload_n 0, 1) := by decide +kernel
theorem dX1_expectNewName_47 : decode cX1_expectNewName 47 = .ok (.iconst 3, 1) := by decide +kernel
theorem dX1_expectNewName_48 : decode cX1_expectNewName 48 = .ok (.aload_n 0, 1) := by decide +kernel
theorem dX1_expectNewName_49 : decode cX1_expectNewName 49 = .ok (.getfield 23, 3) := by decide +kernel
theorem dX1_expectNewName_52 : decode cX1_expectNewName 52 = .ok (.invokevirtual 58, 3) := by decide +kernel
theorem dX1_expectNewName_55 : decode cX1_expectNewName 55 = .ok (.iconst (-1), 1) := by decide +kernel
theorem dX1_expectNewName_56 : decode cX1_expectNewName 56 = .ok (.ireturn, 1) := by decide +kernel
theorem dX1_expectNewName_57 : decode cX1_expectNewName 57 = .ok (.aload_n 0, 1) := by decide +kernel
theorem dX1_expectNewName_58 : decode cX1_expectNewName 58 = .ok (.dup, 1) := by decide +kernel
theorem dX1_expectNewName_59 : decode cX1_expectNewName 59 = .ok (.getfield 23, 3) := by decide +kernel
theorem dX1_expectNewName_62 : decode cX1_expectNewName 62 = .ok (.iconst 1, 1) := by decide +kernel
theorem dX1_expectNewName_63 : decode cX1_expectNewName 63 = .ok (.iadd, 1) := by decide +kernel
theorem dX1_expectNewName_64 : decode cX1_expectNewName 64 = .ok (.putfield 23, 3) := by decide +kernel
theorem dX1_expectNewName_67 : decode cX1_expectNewName 67 = .ok (.iload_n 2, 1) := by decide +kernel
theorem dX1_expectNewName_68 : decode cX1_expectNewName 68 = .ok (.ireturn, 1) := by decide +kernel
theorem dX1_expectNumber_0 : decode cX1_expectNumber 0 = .ok (.aload_n 0, 1) := by decide +kernel
theorem dX1_expectNumber_1 : decode cX1_expectNumber 1 = .ok (.invokevirtual 37, 3) := by decide +kernel
theorem dX1_expectNumber_4 : decode cX1_expectNumber 4 = .ok (.ifCond .ne 5, 3) := by decide +kernel
theorem dX1_expectNumber_7 : decode cX1_expectNumber 7 = .ok (.iconst 0, 1) := by decide +kernel
theorem dX1_expectNumber_8 : decode cX1_expectNumber 8 = .ok (.ireturn, 1) := by decide +kernel
theorem dX1_expectNumber_9 : decode cX1_expectNumber 9 = .ok (.aload_n 0, 1) := by decide +kernel
theorem dX1_expectNumber_10 : decode cX1_expectNumber 10 = .ok (.invokevirtual 41, 3) := by decide +kernel
theorem dX1_expectNumber_13 : decode cX1_expectNumber 13 = .ok (.invokestatic 106, 3) := by decide +kernel
theorem dX1_expectNumber_16 : decode cX1_expectNumber 16 = .ok (.ifCond .ne 14, 3) := by decide +kernel
theorem dX1_expectNumber_19 : decode cX1_expectNumber 19 = .ok (.aload_n 0, 1) := by decide +kernel
theorem dX1_expectNumber_20 : decode cX1_expectNumber 20 = .ok (.iconst 1, 1) := by decide +kernel
theorem dX1_expectNumber_21 : decode cX1_expectNumber 21 = .ok (.aload_n 0, 1) := by decide +kernel
theorem dX1_expectNumber_22 : decode cX1_expectNumber 22 = .ok (.getfield 23, 3) := by decide +kernel
theorem dX1_expectNumber_25 : decode cX1_expectNumber 25 = .ok (.invokevirtual 58, 3) := by decide +kernel
theorem dX1_expectNumber_28 : decode cX1_expectNumber 28 = .ok (.iconst 0, 1) := by decide +kernel
theorem dX1_expectNumber_29 : decode cX1_expectNumber 29 = .ok (.ireturn, 1) := by decide +kernel
theorem dX1_expectNumber_30 : decode cX1_expectNumber 30 = .ok (.aload_n 0, 1) := by decide +kernel
theorem dX1_expectNumber_31 : decode cX1_expectNumber 31 = .ok (.getfield 23, 3) := by decide +kernel
theorem dX1_expectNumber_34 : decode cX1_expectNumber 34 = .ok (.istore_n 3, 1) := by decide +kernel
theorem dX1_expectNumber_35 : decode cX1_expectNumber 35 = .ok (.iconst 0, 1) := by decide +kernel
theorem dX1_expectNumber_36 : decode cX1_expectNumber 36 = .ok (.istore 4, 2) := by decide +kernel
theorem dX1_expectNumber_38 : decode cX1_expectNumber 38 = .ok (.aload_n 0, 1) := by decide +kernel
theorem dX1_expectNumber_39 : decode cX1_expectNumber 39 = .ok (.getfield 23, 3) := by decide +kernel
theorem dX1_expectNumber_42 : decode cX1_expectNumber 42 = .ok (.aload_n 0, 1) := by decide +kernel
theorem dX1_expectNumber_43 : decode cX1_expectNumber 43 = .ok (.getfield 19, 3) := by decide +kernel
theorem dX1_expectNumber_46 : decode cX1_expectNumber 46 = .ok (.if_icmp .ge 60, 3) := by decide +kernel
theorem dX1_expectNumber_49 : decode cX1_expectNumber 49 = .ok (.aload_n 0, 1) := by decide +kernel
theorem dX1_expectNumber_50 : decode cX1_expectNumber 50 = .ok (.getfield 9, 3) := by decide +kernel
theorem dX1_expectNumber_53 : decode cX1_expectNumber 53 = .ok (.aload_n 0, 1) := by decide +kernel
theorem dX1_expectNumber_54 : decode cX1_expectNumber 54 = .ok (.getfield 23, 3) := by decide +kernel
theorem dX1_expectNumber_57 : decode cX1_expectNumber 57 = .ok (.invokevirtual 109, 3) := by decide +kernel
theorem dX1_expectNumber_60 : decode cX1_expectNumber 60 = .ok (.invokestatic 106, 3) := by decide +kernel
theorem dX1_expectNumber_63 : decode cX1_expectNumber 63 = .ok (.ifCond .eq 43, 3) := by decide +kernel
theorem dX1_expectNumber_66 : decode cX1_expectNumber 66 = .ok (.ldc 114, 2) := by decide +kernel
theorem dX1_expectNumber_68 : decode cX1_expectNumber 68 = .ok (.iload 4, 2) := by decide +kernel
theorem dX1_expectNumber_70 : decode cX1_expectNumber 70 = .ok (.bipush 10, 2) := by decide +kernel
theorem dX1_expectNumber_72 : decode cX1_expectNumber 72 = .ok (.imul, 1) := by decide +kernel
theorem dX1_expectNumber_73 : decode cX1_expectNumber 73 = .ok (.aload_n 0, 1) := by decide +kernel
theorem dX1_expectNumber_74 : decode cX1_expectNumber 74 = .ok (.getfield 9, 3) := by decide +kernel
theorem dX1_expectNumber_77 : decode cX1_expectNumber 77 = .ok (.aload_n 0, 1) := by decide +kernel
theorem dX1_expectNumber_78 : decode cX1_expectNumber 78 = .ok (.getfield 23, 3) := by decide +kernel
theorem dX1_expectNumber_81 : decode cX1_expectNumber 81 = .ok (.invokevirtual 109, 3) := by decide +kernel
theorem dX1_expectNumber_84 : decode cX1_expectNumber 84 = .ok (.iadd, 1) := by decide +kernel
theorem dX1_expectNumber_85 : decode cX1_expectNumber 85 = .ok (.bipush 48, 2) := by decide +kernel
theorem dX1_expectNumber_87 : decode cX1_expectNumber 87 = .ok (.isub, 1) := by decide +kernel
theorem dX1_expectNumber_88 : decode cX1_expectNumber 88 = .ok (.invokestatic 115, 3) := by decide +kernel
theorem dX1_expectNumber_91 : decode cX1_expectNumber 91 = .ok (.istore 4, 2) := by decide +kernel
theorem dX1_expectNumber_93 : decode cX1_expectNumber 93 = .ok (.aload_n 0, 1) := by decide +kernel
theorem dX1_expectNumber_94 : decode cX1_expectNumber 94 = .ok (.dup, 1) := by decide +kernel
theorem dX1_expectNumber_95 : decode cX1_expectNumber 95 = .ok (.getfield 23, 3) := by decide +kernel
theorem dX1_expectNumber_98 : decode cX1_expectNumber 98 = .ok (.iconst 1, 1) := by decide +kernel
theorem dX1_expectNumber_99 : decode cX1_expectNumber 99 = .ok (.iadd, 1) := by decide +kernel
theorem dX1_expectNumber_100 : decode cX1_expectNumber 100 = .ok (.putfield 23, 3) := by decide +kernel
theorem dX1_expectNumber_103 : decode cX1_expectNumber 103 = .ok (.goto (-65), 3) := by decide +kernel
theorem dX1_expectNumber_106 : decode cX1_expectNumber 106 = .ok (.iload 4, 2) := by decide +kernel
theorem dX1_expectNumber_108 : decode cX1_expectNumber 108 = .ok (.iload_n 1, 1) := by decide +kernel
theorem dX1_expectNumber_109 : decode cX1_expectNumber 109 = .ok (.if_icmp .lt 9, 3) := by decide +kernel
theorem dX1_expectNumber_112 : decode cX1_expectNumber 112 = .ok (.iload 4, 2) := by decide +kernel
theorem dX1_expectNumber_114 : decode cX1_expectNumber 114 = .ok (.iload_n 2, 1) := by decide +kernel
theorem dX1_expectNumber_115 : decode cX1_expectNumber 115 = .ok (.if_icmp .le 11, 3) := by decide +kernel
theorem dX1_expectNumber_118 : decode cX1_expectNumber 118 = .ok (.aload_n 0, 1) := by decide +kernel
theorem dX1_expectNumber_119 : decode cX1_expectNumber 119 = .ok (.iconst 2, 1) := by decide +kernel
theorem dX1_expectNumber_120 : decode cX1_expectNumber 120 = .ok (.iload_n 3, 1) := by decide +kernel
theorem dX1_expectNumber_121 : decode cX1_expectNumber 121 = .ok (.invokevirtual 58, 3) := by decide +kernel
theorem dX1_expectNumber_124 : decode cX1_expectNumber 124 = .ok (.iconst 0, 1) := by decide +kernel
theorem dX1_expectNumber_125 : decode cX1_expectNumber 125 = .ok (.ireturn, 1) := by decide +kernel
theorem dX1_expectNumber_126 : decode cX1_expectNumber 126 = .ok (.iload 4, 2) := by decide +kernel
theorem dX1_expectNumber_128 : decode cX1_expectNumber 128 = .ok (.ireturn, 1) := by decide +kernel
theorem dX1_expectSemicolon_0 : decode cX1_expectSemicolon 0 = .ok (.aload_n 0, 1) := by decide +kernel
theorem dX1_expectSemicolon_1 : decode cX1_expectSemicolon 1 = .ok (.invokevirtual 37, 3) := by decide +kernel
theorem dX1_expectSemicolon_4 : decode cX1_expectSemicolon 4 = .ok (.ifCond .ne 4, 3) := by decide +kernel
theorem dX1_expectSemicolon_7 : decode cX1_expectSemicolon 7 = .ok (.return_, 1) := by decide +kernel
theorem dX1_expectSemicolon_8 : decode cX1_expectSemicolon 8 = .ok (.aload_n 0, 1) := by decide +kernel
theorem dX1_expectSemicolon_9 : decode cX1_expectSemicolon 9 = .ok (.invokevirtual 41, 3) := by decide +kernel
theorem dX1_expectSemicolon_12 : decode cX1_expectSemicolon 12 = .ok (.bipush 59, 2) := by decide +kernel
theorem dX1_expectSemicolon_14 : decode cX1_expectSemicolon 14 = .ok (.if_icmp .ne 16, 3) := by decide +kernel
theorem dX1_expectSemicolon_17 : decode cX1_expectSemicolon 17 = .ok (.aload_n 0, 1) := by decide +kernel
theorem dX1_expectSemicolon_18 : decode cX1_expectSemicolon 18 = .ok (.dup, 1) := by decide +kernel
theorem dX1_expectSemicolon_19 : decode cX1_expectSemicolon 19 = .ok (.getfield 23, 3) := by decide +kernel
theorem dX1_expectSemicolon_22 : decode cX1_expectSemicolon 22 = .ok (.iconst 1, 1) := by decide +kernel
theorem dX1_expectSemicolon_23 : decode cX1_expectSemicolon 23 = .ok (.iadd, 1) := by decide +kernel
theorem dX1_expectSemicolon_24 : decode cX1_expectSemicolon 24 = .ok (.putfield 23, 3) := by decide +kernel
theorem dX1_expectSemicolon_27 : decode cX1_expectSemicolon 27 = .ok (.goto 12, 3) := by decide +kernel
theorem dX1_expectSemicolon_30 : decode cX1_expectSemicolon 30 = .ok (.aload_n 0, 1) := by decide +kernel
theorem dX1_expectSemicolon_31 : decode cX1_expectSemicolon 31 = .ok (.iconst 1, 1) := by decide +kernel
theorem dX1_expectSemicolon_32 : decode cX1_expectSemicolon 32 = .ok (.aload_n 0, 1) := by decide +kernel
theorem dX1_expectSemicolon_33 : decode cX1_expectSemicolon 33 = .ok (.getfield 23, 3) := by decide +kernel
theorem dX1_expectSemicolon_36 : decode cX1_expectSemicolon 36 = .ok (.invokevirtual 58, 3) := by decide +kernel
theorem dX1_expectSemicolon_39 : decode cX1_expectSemicolon 39 = .ok (.return_, 1) := by decide +kernel
theorem dX1_nextSign_0 : decode cX1_nextSign 0 = .ok (.aload_n 0, 1) := by decide +kernel
theorem dX1_nextSign_1 : decode cX1_nextSign 1 = .ok (.getfield 23, 3) := by decide +kernel
theorem dX1_nextSign_4 : decode cX1_nextSign 4 = .ok (.aload_n 0, 1) := by decide +kernel
theorem dX1_nextSign_5 : decode cX1_nextSign 5 = .ok (.getfield 19, 3) := by decide +kernel
theorem dX1_nextSign_8 : decode cX1_nextSign 8 = .ok (.if_icmp .ge 33, 3) := by decide +kernel
theorem dX1_nextSign_11 : decode cX1_nextSign 11 = .ok (.aload_n 0, 1) := by decide +kernel
theorem dX1_nextSign_12 : decode cX1_nextSign 12 = .ok (.getfield 9, 3) := by decide +kernel
theorem dX1_nextSign_15 : decode cX1_nextSign 15 = .ok (.aload_n 0, 1) := by decide +kernel
theorem dX1_nextSign_16 : decode cX1_nextSign 16 = .ok (.getfield 23, 3) := by decide +kernel
theorem dX1_nextSign_19 : decode cX1_nextSign 19 = .ok (.invokevirtual 109, 3) := by decide +kernel
theorem dX1_nextSign_22 : decode cX1_nextSign 22 = .ok (.invokestatic 120, 3) := by decide +kernel
theorem dX1_nextSign_25 : decode cX1_nextSign 25 = .ok (.ifCond .eq 16, 3) := by decide +kernel
theorem dX1_nextSign_28 : decode cX1_nextSign 28 = .ok (.aload_n 0, 1) := by decide +kernel
theorem dX1_nextSign_29 : decode cX1_nextSign 29 = .ok (.dup, 1) := by decide +kernel
theorem dX1_nextSign_30 : decode cX1_nextSign 30 = .ok (.getfield 23, 3) := by decide +kernel
theorem dX1_nextSign_33 : decode cX1_nextSign 33 = .ok (.iconst 1, 1) := by decide +kernel
theorem dX1_nextSign_34 : decode cX1_nextSign 34 = .ok (.iadd, 1) := by decide +kernel
theorem dX1_nextSign_35 : decode cX1_nextSign 35 = .ok (.putfield 23, 3) := by decide +kernel
theorem dX1_nextSign_38 : decode cX1_nextSign 38 = .ok (.goto (-38), 3) := by decide +kernel
theorem dX1_nextSign_41 : decode cX1_nextSign 41 = .ok (.aload_n 0, 1) := by decide +kernel
theorem dX1_nextSign_42 : decode cX1_nextSign 42 = .ok (.getfield 23, 3) := by decide +kernel
theorem dX1_nextSign_45 : decode cX1_nextSign 45 = .ok (.aload_n 0, 1) := by decide +kernel
theorem dX1_nextSign_46 : decode cX1_nextSign 46 = .ok (.getfield 19, 3) := by decide +kernel
theorem dX1_nextSign_49 : decode cX1_nextSign 49 = .ok (.if_icmp .ge 17, 3) := by decide +kernel
theorem dX1_nextSign_52 : decode cX1_nextSign 52 = .ok (.aload_n 0, 1) := by decide +kernel
theorem dX1_nextSign_53 : decode cX1_nextSign 53 = .ok (.getfield 9, 3) := by decide +kernel
theorem dX1_nextSign_56 : decode cX1_nextSign 56 = .ok (.aload_n 0, 1) := by decide +kernel
theorem dX1_nextSign_57 : decode cX1_nextSign 57 = .ok (.getfield 23, 3) := by decide +kernel
theorem dX1_nextSign_60 : decode cX1_nextSign 60 = .ok (.invokevirtual 109, 3) := by decide +kernel
theorem dX1_nextSign_63 : decode cX1_nextSign 63 = .ok (.goto 4, 3) := by decide +kernel
theorem dX1_nextSign_66 : decode cX1_nextSign 66 = .ok (.iconst (-1), 1) := by decide +kernel
theorem dX1_nextSign_67 : decode cX1_nextSign 67 = .ok (.ireturn, 1) := by decide +kernel
theorem dX1_passWord_0 : decode cX1_passWord 0 = .ok (.aload_n 0, 1) := by decide +kernel
theorem dX1_passWord_1 : decode cX1_passWord 1 = .ok (.getfield 23, 3) := by decide +kernel
theorem dX1_passWord_4 : decode cX1_passWord 4 = .ok (.istore_n 2, 1) := by decide +kernel
theorem dX1_passWord_5 : decode cX1_passWord 5 = .ok (.iload_n 2, 1) := by decide +kernel
theorem dX1_passWord_6 : decode cX1_passWord 6 = .ok (.aload_n 0, 1) := by decide +kernel
theorem dX1_passWord_7 : decode cX1_passWord 7 = .ok (.getfield 19, 3) := by decide +kernel
theorem dX1_passWord_10 : decode cX1_passWord 10 = .ok (.if_icmp .ge 23, 3) := by decide +kernel
theorem dX1_passWord_13 : decode cX1_passWord 13 = .ok (.aload_n 0, 1) := by decide +kernel
theorem dX1_passWord_14 : decode cX1_passWord 14 = .ok (.getfield 9, 3) := by decide +kernel
theorem dX1_passWord_17 : decode cX1_passWord 17 = .ok (.iload_n 2, 1) := by decide +kernel
theorem dX1_passWord_18 : decode cX1_passWord 18 = .ok (.invokevirtual 109, 3) := by decide +kernel
theorem dX1_passWord_21 : decode cX1_passWord 21 = .ok (.invokestatic 123, 3) := by decide +kernel
theorem dX1_passWord_24 : decode cX1_passWord 24 = .ok (.ifCond .eq 9, 3) := by decide +kernel
theorem dX1_passWord_27 : decode cX1_passWord 27 = .ok (.iinc 2 1, 3) := by decide +kernel
theorem dX1_passWord_30 : decode cX1_passWord 30 = .ok (.goto (-25), 3) := by decide +kernel
theorem dX1_passWord_33 : decode cX1_passWord 33 = .ok (.iload_n 2, 1) := by decide +kernel
theorem dX1_passWord_34 : decode cX1_passWord 34 = .ok (.aload_n 0, 1) := by decide +kernel
theorem dX1_passWord_35 : decode cX1_passWord 35 = .ok (.getfield 23, 3) := by decide +kernel
theorem dX1_passWord_38 : decode cX1_passWord 38 = .ok (.isub, 1) := by decide +kernel
theorem dX1_passWord_39 : decode cX1_passWord 39 = .ok (.aload_n 1, 1) := by decide +kernel
theorem dX1_passWord_40 : decode cX1_passWord 40 = .ok (.invokevirtual 126, 3) := by decide +kernel
theorem dX1_passWord_43 : decode cX1_passWord 43 = .ok (.if_icmp .eq 5, 3) := by decide +kernel
theorem dX1_passWord_46 : decode cX1_passWord 46 = .ok (.iconst 0, 1) := by decide +kernel
theorem dX1_passWord_47 : decode cX1_passWord 47 = .ok (.ireturn, 1) := by decide +kernel
theorem dX1_passWord_48 : decode cX1_passWord 48 = .ok (.iconst 0, 1) := by decide +kernel
theorem dX1_passWord_49 : decode cX1_passWord 49 = .ok (.istore_n 3, 1) := by decide +kernel
theorem dX1_passWord_50 : decode cX1_passWord 50 = .ok (.iload_n 3, 1) := by decide +kernel
theorem dX1_passWord_51 : decode cX1_passWord 51 = .ok (.aload_n 1, 1) := by decide +kernel
theorem dX1_passWord_52 : decode cX1_passWord 52 = .ok (.invokevirtual 126, 3) := by decide +kernel
theorem dX1_passWord_55 : decode cX1_passWord 55 = .ok (.if_icmp .ge 32, 3) := by decide +kernel
theorem dX1_passWord_58 : decode cX1_passWord 58 = .ok (.aload_n 0, 1) := by decide +kernel
theorem dX1_passWord_59 : decode cX1_passWord 59 = .ok (.getfield 9, 3) := by decide +kernel
theorem dX1_passWord_62 : decode cX1_passWord 62 = .ok (.aload_n 0, 1) := by decide +kernel
theorem dX1_passWord_63 : decode cX1_passWord 63 = .ok (.getfield 23, 3) := by decide +kernel
theorem dX1_passWord_66 : decode cX1_passWord 66 = .ok (.iload_n 3, 1) := by decide +kernel
theorem dX1_passWord_67 : decode cX1_passWord 67 = .ok (.iadd, 1) := by decide +kernel
theorem dX1_passWord_68 : decode cX1_passWord 68 = .ok (.invokevirtual 109, 3) := by decide +kernel
theorem dX1_passWord_71 : decode cX1_passWord 71 = .ok (.aload_n 1, 1) := by decide +kernel
theorem dX1_passWord_72 : decode cX1_passWord 72 = .ok (.iload_n 3, 1) := by decide +kernel
theorem dX1_passWord_73 : decode cX1_passWord 73 = .ok (.invokevirtual 131, 3) := by decide +kernel
theorem dX1_passWord_76 : decode cX1_passWord 76 = .ok (.if_icmp .eq 5, 3) := by decide +kernel
theorem dX1_passWord_79 : decode cX1_passWord 79 = .ok (.iconst 0, 1) := by decide +kernel
theorem dX1_passWord_80 : decode cX1_passWord 80 = .ok (.ireturn, 1) := by decide +kernel
theorem dX1_passWord_81 : decode cX1_passWord 81 = .ok (.iinc 3 1, 3) := by decide +kernel
