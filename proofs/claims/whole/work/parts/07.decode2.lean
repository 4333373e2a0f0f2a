theorem dX3_burdenAt_13 : decode cX3_burdenAt 13 = .ok (.iaload, 1) := by decide +kernel
theorem dX3_burdenAt_14 : decode cX3_burdenAt 14 = .ok (.goto 4, 3) := by decide +kernel
theorem dX3_burdenAt_17 : decode cX3_burdenAt 17 = .ok (.iconst (-1), 1) := by decide +kernel
theorem dX3_burdenAt_18 : decode cX3_burdenAt 18 = .ok (.ireturn, 1) := by decide +kernel
theorem dX3_partBehind_0 : decode cX3_partBehind 0 = .ok (.aload_n 0, 1) := by decide +kernel
theorem dX3_partBehind_1 : decode cX3_partBehind 1 = .ok (.iload_n 1, 1) := by decide +kernel
theorem dX3_partBehind_2 : decode cX3_partBehind 2 = .ok (.invokevirtual 28, 3) := by decide +kernel
theorem dX3_partBehind_5 : decode cX3_partBehind 5 = .ok (.istore_n 3, 1) := by decide +kernel
theorem dX3_partBehind_6 : decode cX3_partBehind 6 = .ok (.iload_n 3, 1) := by decide +kernel
theorem dX3_partBehind_7 : decode cX3_partBehind 7 = .ok (.ifCond .gt 5, 3) := by decide +kernel
theorem dX3_partBehind_10 : decode cX3_partBehind 10 = .ok (.iconst 0, 1) := by decide +kernel
theorem dX3_partBehind_11 : decode cX3_partBehind 11 = .ok (.ireturn, 1) := by decide +kernel
theorem dX3_partBehind_12 : decode cX3_partBehind 12 = .ok (.iload_n 2, 1) := by decide +kernel
theorem dX3_partBehind_13 : decode cX3_partBehind 13 = .ok (.aload_n 0, 1) := by decide +kernel
theorem dX3_partBehind_14 : decode cX3_partBehind 14 = .ok (.getfield 9, 3) := by decide +kernel
theorem dX3_partBehind_17 : decode cX3_partBehind 17 = .ok (.iload_n 1, 1) := by decide +kernel
theorem dX3_partBehind_18 : decode cX3_partBehind 18 = .ok (.iaload, 1) := by decide +kernel
theorem dX3_partBehind_19 : decode cX3_partBehind 19 = .ok (.iload_n 3, 1) := by decide +kernel
theorem dX3_partBehind_20 : decode cX3_partBehind 20 = .ok (.irem, 1) := by decide +kernel
theorem dX3_partBehind_21 : decode cX3_partBehind 21 = .ok (.if_icmp .ge 7, 3) := by decide +kernel
theorem dX3_partBehind_24 : decode cX3_partBehind 24 = .ok (.iconst 1, 1) := by decide +kernel
theorem dX3_partBehind_25 : decode cX3_partBehind 25 = .ok (.goto 4, 3) := by decide +kernel
theorem dX3_partBehind_28 : decode cX3_partBehind 28 = .ok (.iconst 0, 1) := by decide +kernel
theorem dX3_partBehind_29 : decode cX3_partBehind 29 = .ok (.istore 4, 2) := by decide +kernel
theorem dX3_partBehind_31 : decode cX3_partBehind 31 = .ok (.aload_n 0, 1) := by decide +kernel
theorem dX3_partBehind_32 : decode cX3_partBehind 32 = .ok (.getfield 9, 3) := by decide +kernel
theorem dX3_partBehind_35 : decode cX3_partBehind 35 = .ok (.iload_n 1, 1) := by decide +kernel
theorem dX3_partBehind_36 : decode cX3_partBehind 36 = .ok (.iaload, 1) := by decide +kernel
theorem dX3_partBehind_37 : decode cX3_partBehind 37 = .ok (.iload_n 3, 1) := by decide +kernel
theorem dX3_partBehind_38 : decode cX3_partBehind 38 = .ok (.idiv, 1) := by decide +kernel
theorem dX3_partBehind_39 : decode cX3_partBehind 39 = .ok (.iload 4, 2) := by decide +kernel
theorem dX3_partBehind_41 : decode cX3_partBehind 41 = .ok (.iadd, 1) := by decide +kernel
theorem dX3_partBehind_42 : decode cX3_partBehind 42 = .ok (.ireturn, 1) := by decide +kernel
theorem dX3_shareOf_0 : decode cX3_shareOf 0 = .ok (.iload_n 1, 1) := by decide +kernel
theorem dX3_shareOf_1 : decode cX3_shareOf 1 = .ok (.ifCond .lt 30, 3) := by decide +kernel
theorem dX3_shareOf_4 : decode cX3_shareOf 4 = .ok (.iload_n 1, 1) := by decide +kernel
theorem dX3_shareOf_5 : decode cX3_shareOf 5 = .ok (.aload_n 0, 1) := by decide +kernel
theorem dX3_shareOf_6 : decode cX3_shareOf 6 = .ok (.getfield 15, 3) := by decide +kernel
theorem dX3_shareOf_9 : decode cX3_shareOf 9 = .ok (.arraylength, 1) := by decide +kernel
theorem dX3_shareOf_10 : decode cX3_shareOf 10 = .ok (.if_icmp .ge 21, 3) := by decide +kernel
theorem dX3_shareOf_13 : decode cX3_shareOf 13 = .ok (.iload_n 1, 1) := by decide +kernel
theorem dX3_shareOf_14 : decode cX3_shareOf 14 = .ok (.aload_n 0, 1) := by decide +kernel
theorem dX3_shareOf_15 : decode cX3_shareOf 15 = .ok (.getfield 9, 3) := by decide +kernel
theorem dX3_shareOf_18 : decode cX3_shareOf 18 = .ok (.arraylength, 1) := by decide +kernel
theorem dX3_shareOf_19 : decode cX3_shareOf 19 = .ok (.if_icmp .ge 12, 3) := by decide +kernel
theorem dX3_shareOf_22 : decode cX3_shareOf 22 = .ok (.aload_n 0, 1) := by decide +kernel
theorem dX3_shareOf_23 : decode cX3_shareOf 23 = .ok (.getfield 15, 3) := by decide +kernel
theorem dX3_shareOf_26 : decode cX3_shareOf 26 = .ok (.iload_n 1, 1) := by decide +kernel
theorem dX3_shareOf_27 : decode cX3_shareOf 27 = .ok (.iaload, 1) := by decide +kernel
theorem dX3_shareOf_28 : decode cX3_shareOf 28 = .ok (.goto 4, 3) := by decide +kernel
theorem dX3_shareOf_31 : decode cX3_shareOf 31 = .ok (.iconst 0, 1) := by decide +kernel
theorem dX3_shareOf_32 : decode cX3_shareOf 32 = .ok (.ireturn, 1) := by decide +kernel
theorem dX4_init_0 : decode cX4_init 0 = .ok (.aload_n 0, 1) := by decide +kernel
theorem dX4_init_1 : decode cX4_init 1 = .ok (.invokespecial 3, 3) := by decide +kernel
theorem dX4_init_4 : decode cX4_init 4 = .ok (.aload_n 0, 1) := by decide +kernel
theorem dX4_init_5 : decode cX4_init 5 = .ok (.sipush 600, 3) := by decide +kernel
theorem dX4_init_8 : decode cX4_init 8 = .ok (.newarray .byte, 2) := by decide +kernel
theorem dX4_init_10 : decode cX4_init 10 = .ok (.putfield 9, 3) := by decide +kernel
theorem dX4_init_13 : decode cX4_init 13 = .ok (.aload_n 0, 1) := by decide +kernel
theorem dX4_init_14 : decode cX4_init 14 = .ok (.iconst 0, 1) := by decide +kernel
theorem dX4_init_15 : decode cX4_init 15 = .ok (.putfield 15, 3) := by decide +kernel
theorem dX4_init_18 : decode cX4_init 18 = .ok (.return_, 1) := by decide +kernel
theorem dX4_length_0 : decode cX4_length 0 = .ok (.aload_n 0, 1) := by decide +kernel
theorem dX4_length_1 : decode cX4_length 1 = .ok (.getfield 15, 3) := by decide +kernel
theorem dX4_length_4 : decode cX4_length 4 = .ok (.ireturn, 1) := by decide +kernel
theorem dX4_hasRoom_0 : decode cX4_hasRoom 0 = .ok (.aload_n 0, 1) := by decide +kernel
theorem dX4_hasRoom_1 : decode cX4_hasRoom 1 = .ok (.getfield 15, 3) := by decide +kernel
theorem dX4_hasRoom_4 : decode cX4_hasRoom 4 = .ok (.iload_n 1, 1) := by decide +kernel
theorem dX4_hasRoom_5 : decode cX4_hasRoom 5 = .ok (.iadd, 1) := by decide +kernel
theorem dX4_hasRoom_6 : decode cX4_hasRoom 6 = .ok (.aload_n 0, 1) := by decide +kernel
theorem dX4_hasRoom_7 : decode cX4_hasRoom 7 = .ok (.getfield 9, 3) := by decide +kernel
theorem dX4_hasRoom_10 : decode cX4_hasRoom 10 = .ok (.arraylength, 1) := by decide +kernel
theorem dX4_hasRoom_11 : decode cX4_hasRoom 11 = .ok (.if_icmp .gt 7, 3) := by decide +kernel
theorem dX4_hasRoom_14 : decode cX4_hasRoom 14 = .ok (.iconst 1, 1) := by decide +kernel
theorem dX4_hasRoom_15 : decode cX4_hasRoom 15 = .ok (.goto 4, 3) := by decide +kernel
theorem dX4_hasRoom_18 : decode cX4_hasRoom 18 = .ok (.iconst 0, 1) := by decide +kernel
theorem dX4_hasRoom_19 : decode cX4_hasRoom 19 = .ok (.ireturn, 1) := by decide +kernel
theorem dX4_append_0 : decode cX4_append 0 = .ok (.bipush 24, 2) := by decide +kernel
theorem dX4_append_2 : decode cX4_append 2 = .ok (.istore_n 2, 1) := by decide +kernel
theorem dX4_append_3 : decode cX4_append 3 = .ok (.iload_n 2, 1) := by decide +kernel
theorem dX4_append_4 : decode cX4_append 4 = .ok (.ifCond .lt 51, 3) := by decide +kernel
theorem dX4_append_7 : decode cX4_append 7 = .ok (.aload_n 0, 1) := by decide +kernel
theorem dX4_append_8 : decode cX4_append 8 = .ok (.getfield 15, 3) := by decide +kernel
theorem dX4_append_11 : decode cX4_append 11 = .ok (.ifCond .lt 38, 3) := by decide +kernel
theorem dX4_append_14 : decode cX4_append 14 = .ok (.aload_n 0, 1) := by decide +kernel
theorem dX4_append_15 : decode cX4_append 15 = .ok (.getfield 15, 3) := by decide +kernel
theorem dX4_append_18 : decode cX4_append 18 = .ok (.aload_n 0, 1) := by decide +kernel
theorem dX4_append_19 : decode cX4_append 19 = .ok (.getfield 9, 3) := by decide +kernel
theorem dX4_append_22 : decode cX4_append 22 = .ok (.arraylength, 1) := by decide +kernel
theorem dX4_append_23 : decode cX4_append 23 = .ok (.if_icmp .ge 26, 3) := by decide +kernel
theorem dX4_append_26 : decode cX4_append 26 = .ok (.aload_n 0, 1) := by decide +kernel
theorem dX4_append_27 : decode cX4_append 27 = .ok (.getfield 9, 3) := by decide +kernel
theorem dX4_append_30 : decode cX4_append 30 = .ok (.aload_n 0, 1) := by decide +kernel
theorem dX4_append_31 : decode cX4_append 31 = .ok (.getfield 15, 3) := by decide +kernel
theorem dX4_append_34 : decode cX4_append 34 = .ok (.iload_n 1, 1) := by decide +kernel
theorem dX4_append_35 : decode cX4_append 35 = .ok (.iload_n 2, 1) := by decide +kernel
theorem dX4_append_36 : decode cX4_append 36 = .ok (.ishr, 1) := by decide +kernel
theorem dX4_append_37 : decode cX4_append 37 = .ok (.i2b, 1) := by decide +kernel
theorem dX4_append_38 : decode cX4_append 38 = .ok (.bastore, 1) := by decide +kernel
theorem dX4_append_39 : decode cX4_append 39 = .ok (.aload_n 0, 1) := by decide +kernel
theorem dX4_append_40 : decode cX4_append 40 = .ok (.dup, 1) := by decide +kernel
theorem dX4_append_41 : decode cX4_append 41 = .ok (.getfield 15, 3) := by decide +kernel
theorem dX4_append_44 : decode cX4_append 44 = .ok (.iconst 1, 1) := by decide +kernel
theorem dX4_append_45 : decode cX4_append 45 = .ok (.iadd, 1) := by decide +kernel
theorem dX4_append_46 : decode cX4_append 46 = .ok (.putfield 15, 3) := by decide +kernel
theorem dX4_append_49 : decode cX4_append 49 = .ok (.iinc 2 (-8), 3) := by decide +kernel
theorem dX4_append_52 : decode cX4_append 52 = .ok (.goto (-49), 3) := by decide +kernel
theorem dX4_append_55 : decode cX4_append 55 = .ok (.return_, 1) := by decide +kernel
theorem dX4_at_0 : decode cX4_at 0 = .ok (.iload_n 1, 1) := by decide +kernel
theorem dX4_at_1 : decode cX4_at 1 = .ok (.ifCond .lt 25, 3) := by decide +kernel
theorem dX4_at_4 : decode cX4_at 4 = .ok (.iload_n 1, 1) := by decide +kernel
theorem dX4_at_5 : decode cX4_at 5 = .ok (.aload_n 0, 1) := by decide +kernel
theorem dX4_at_6 : decode cX4_at 6 = .ok (.getfield 9, 3) := by decide +kernel
theorem dX4_at_9 : decode cX4_at 9 = .ok (.arraylength, 1) := by decide +kernel
theorem dX4_at_10 : decode cX4_at 10 = .ok (.if_icmp .ge 16, 3) := by decide +kernel
theorem dX4_at_13 : decode cX4_at 13 = .ok (.aload_n 0, 1) := by decide +kernel
theorem dX4_at_14 : decode cX4_at 14 = .ok (.getfield 9, 3) := by decide +kernel
theorem dX4_at_17 : decode cX4_at 17 = .ok (.iload_n 1, 1) := by decide +kernel
theorem dX4_at_18 : decode cX4_at 18 = .ok (.baload, 1) := by decide +kernel
theorem dX4_at_19 : decode cX4_at 19 = .ok (.sipush 255, 3) := by decide +kernel
theorem dX4_at_22 : decode cX4_at 22 = .ok (.iand, 1) := by decide +kernel
theorem dX4_at_23 : decode cX4_at 23 = .ok (.goto 4, 3) := by decide +kernel
theorem dX4_at_26 : decode cX4_at 26 = .ok (.iconst (-1), 1) := by decide +kernel
theorem dX4_at_27 : decode cX4_at 27 = .ok (.ireturn, 1) := by decide +kernel
theorem dX4_clear_0 : decode cX4_clear 0 = .ok (.aload_n 0, 1) := by decide +kernel
theorem dX4_clear_1 : decode cX4_clear 1 = .ok (.iconst 0, 1) := by decide +kernel
theorem dX4_clear_2 : decode cX4_clear 2 = .ok (.putfield 15, 3) := by decide +kernel
theorem dX4_clear_5 : decode cX4_clear 5 = .ok (.return_, 1) := by decide +kernel
theorem dX5_init_0 : decode cX5_init 0 = .ok (.aload_n 0, 1) := by decide +kernel
theorem dX5_init_1 : decode cX5_init 1 = .ok (.invokespecial 1, 3) := by decide +kernel
theorem dX5_init_4 : decode cX5_init 4 = .ok (.new 7, 3) := by decide +kernel
theorem dX5_init_7 : decode cX5_init 7 = .ok (.dup, 1) := by decide +kernel
theorem dX5_init_8 : decode cX5_init 8 = .ok (.invokespecial 9, 3) := by decide +kernel
theorem dX5_init_11 : decode cX5_init 11 = .ok (.astore_n 1, 1) := by decide +kernel
theorem dX5_init_12 : decode cX5_init 12 = .ok (.aload_n 0, 1) := by decide +kernel
theorem dX5_init_13 : decode cX5_init 13 = .ok (.aload_n 1, 1) := by decide +kernel
theorem dX5_init_14 : decode cX5_init 14 = .ok (.putfield 10, 3) := by decide +kernel
theorem dX5_init_17 : decode cX5_init 17 = .ok (.aload_n 0, 1) := by decide +kernel
theorem dX5_init_18 : decode cX5_init 18 = .ok (.new 16, 3) := by decide +kernel
theorem dX5_init_21 : decode cX5_init 21 = .ok (.dup, 1) := by decide +kernel
theorem dX5_init_22 : decode cX5_init 22 = .ok (.aload_n 1, 1) := by decide +kernel
theorem dX5_init_23 : decode cX5_init 23 = .ok (.invokespecial 18, 3) := by decide +kernel
theorem dX5_init_26 : decode cX5_init 26 = .ok (.putfield 21, 3) := by decide +kernel
theorem dX5_init_29 : decode cX5_init 29 = .ok (.aload_n 0, 1) := by decide +kernel
theorem dX5_init_30 : decode cX5_init 30 = .ok (.new 25, 3) := by decide +kernel
theorem dX5_init_33 : decode cX5_init 33 = .ok (.dup, 1) := by decide +kernel
theorem dX5_init_34 : decode cX5_init 34 = .ok (.invokespecial 27, 3) := by decide +kernel
theorem dX5_init_37 : decode cX5_init 37 = .ok (.putfield 28, 3) := by decide +kernel
theorem dX5_init_40 : decode cX5_init 40 = .ok (.aload_n 0, 1) := by decide +kernel
theorem dX5_init_41 : decode cX5_init 41 = .ok (.new 25, 3) := by decide +kernel
theorem dX5_init_44 : decode cX5_init 44 = .ok (.dup, 1) := by decide +kernel
theorem dX5_init_45 : decode cX5_init 45 = .ok (.invokespecial 27, 3) := by decide +kernel
theorem dX5_init_48 : decode cX5_init 48 = .ok (.putfield 32, 3) := by decide +kernel
theorem dX5_init_51 : decode cX5_init 51 = .ok (.aload_n 0, 1) := by decide +kernel
theorem dX5_init_52 : decode cX5_init 52 = .ok (.new 35, 3) := by decide +kernel
theorem dX5_init_55 : decode cX5_init 55 = .ok (.dup, 1) := by decide +kernel
theorem dX5_init_56 : decode cX5_init 56 = .ok (.invokespecial 37, 3) := by decide +kernel
theorem dX5_init_59 : decode cX5_init 59 = .ok (.putfield 38, 3) := by decide +kernel
theorem dX5_init_62 : decode cX5_init 62 = .ok (.aload_n 0, 1) := by decide +kernel
theorem dX5_init_63 : decode cX5_init 63 = .ok (.new 42, 3) := by decide +kernel
theorem dX5_init_66 : decode cX5_init 66 = .ok (.dup, 1) := by decide +kernel
theorem dX5_init_67 : decode cX5_init 67 = .ok (.invokespecial 44, 3) := by decide +kernel
theorem dX5_init_70 : decode cX5_init 70 = .ok (.putfield 45, 3) := by decide +kernel
theorem dX5_init_73 : decode cX5_init 73 = .ok (.aload_n 0, 1) := by decide +kernel
theorem dX5_init_74 : decode cX5_init 74 = .ok (.new 42, 3) := by decide +kernel
theorem dX5_init_77 : decode cX5_init 77 = .ok (.dup, 1) := by decide +kernel
theorem dX5_init_78 : decode cX5_init 78 = .ok (.invokespecial 44, 3) := by decide +kernel
theorem dX5_init_81 : decode cX5_init 81 = .ok (.putfield 49, 3) := by decide +kernel
theorem dX5_init_84 : decode cX5_init 84 = .ok (.aload_n 0, 1) := by decide +kernel
theorem dX5_init_85 : decode cX5_init 85 = .ok (.iconst 0, 1) := by decide +kernel
theorem dX5_init_86 : decode cX5_init 86 = .ok (.putfield 52, 3) := by decide +kernel
theorem dX5_init_89 : decode cX5_init 89 = .ok (.aload_n 0, 1) := by decide +kernel
theorem dX5_init_90 : decode cX5_init 90 = .ok (.iconst 0, 1) := by decide +kernel
theorem dX5_init_91 : decode cX5_init 91 = .ok (.putfield 56, 3) := by decide +kernel
theorem dX5_init_94 : decode cX5_init 94 = .ok (.aload_n 0, 1) := by decide +kernel
theorem dX5_init_95 : decode cX5_init 95 = .ok (.iconst 0, 1) := by decide +kernel
theorem dX5_init_96 : decode cX5_init 96 = .ok (.putfield 60, 3) := by decide +kernel
theorem dX5_init_99 : decode cX5_init 99 = .ok (.aload_n 0, 1) := by decide +kernel
theorem dX5_init_100 : decode cX5_init 100 = .ok (.iconst 0, 1) := by decide +kernel
theorem dX5_init_101 : decode cX5_init 101 = .ok (.putfield 63, 3) := by decide +kernel
theorem dX5_init_104 : decode cX5_init 104 = .ok (.return_, 1) := by decide +kernel
theorem dX5_feed_0 : decode cX5_feed 0 = .ok (.aload_n 0, 1) := by decide +kernel
theorem dX5_feed_1 : decode cX5_feed 1 = .ok (.getfield 10, 3) := by decide +kernel
theorem dX5_feed_4 : decode cX5_feed 4 = .ok (.bipush 20, 2) := by decide +kernel
theorem dX5_feed_6 : decode cX5_feed 6 = .ok (.invokevirtual 66, 3) := by decide +kernel
theorem dX5_feed_9 : decode cX5_feed 9 = .ok (.ifCond .ne 5, 3) := by decide +kernel
theorem dX5_feed_12 : decode cX5_feed 12 = .ok (.iconst (-1), 1) := by decide +kernel
theorem dX5_feed_13 : decode cX5_feed 13 = .ok (.ireturn, 1) := by decide +kernel
theorem dX5_feed_14 : decode cX5_feed 14 = .ok (.aload_n 0, 1) := by decide +kernel
theorem dX5_feed_15 : decode cX5_feed 15 = .ok (.getfield 10, 3) := by decide +kernel
theorem dX5_feed_18 : decode cX5_feed 18 = .ok (.iload_n 1, 1) := by decide +kernel
theorem dX5_feed_19 : decode cX5_feed 19 = .ok (.invokevirtual 70, 3) := by decide +kernel
theorem dX5_feed_22 : decode cX5_feed 22 = .ok (.aload_n 0, 1) := by decide +kernel
theorem dX5_feed_23 : decode cX5_feed 23 = .ok (.getfield 10, 3) := by decide +kernel
theorem dX5_feed_26 : decode cX5_feed 26 = .ok (.iload_n 2, 1) := by decide +kernel
theorem dX5_feed_27 : decode cX5_feed 27 = .ok (.invokevirtual 70, 3) := by decide +kernel
theorem dX5_feed_30 : decode cX5_feed 30 = .ok (.aload_n 0, 1) := by decide +kernel
theorem dX5_feed_31 : decode cX5_feed 31 = .ok (.getfield 10, 3) := by decide +kernel
theorem dX5_feed_34 : decode cX5_feed 34 = .ok (.iload_n 3, 1) := by decide +kernel
theorem dX5_feed_35 : decode cX5_feed 35 = .ok (.invokevirtual 70, 3) := by decide +kernel
theorem dX5_feed_38 : decode cX5_feed 38 = .ok (.aload_n 0, 1) := by decide +kernel
theorem dX5_feed_39 : decode cX5_feed 39 = .ok (.getfield 10, 3) := by decide +kernel
theorem dX5_feed_42 : decode cX5_feed 42 = .ok (.iload 4, 2) := by decide +kernel
theorem dX5_feed_44 : decode cX5_feed 44 = .ok (.invokevirtual 70, 3) := by decide +kernel
theorem dX5_feed_47 : decode cX5_feed 47 = .ok (.aload_n 0, 1) := by decide +kernel
theorem dX5_feed_48 : decode cX5_feed 48 = .ok (.getfield 10, 3) := by decide +kernel
theorem dX5_feed_51 : decode cX5_feed 51 = .ok (.iload 5, 2) := by decide +kernel
theorem dX5_feed_53 : decode cX5_feed 53 = .ok (.invokevirtual 70, 3) := by decide +kernel
theorem dX5_feed_56 : decode cX5_feed 56 = .ok (.aload_n 0, 1) := by decide +kernel
theorem dX5_feed_57 : decode cX5_feed 57 = .ok (.getfield 10, 3) := by decide +kernel
theorem dX5_feed_60 : decode cX5_feed 60 = .ok (.invokevirtual 74, 3) := by decide +kernel
theorem dX5_feed_63 : decode cX5_feed 63 = .ok (.ireturn, 1) := by decide +kernel
theorem dX5_statutes_0 : decode cX5_statutes 0 = .ok (.aload_n 0, 1) := by decide +kernel
theorem dX5_statutes_1 : decode cX5_statutes 1 = .ok (.getfield 52, 3) := by decide +kernel
theorem dX5_statutes_4 : decode cX5_statutes 4 = .ok (.ifCond .ne 18, 3) := by decide +kernel
theorem dX5_statutes_7 : decode cX5_statutes 7 = .ok (.iload_n 1, 1) := by decide +kernel
theorem dX5_statutes_8 : decode cX5_statutes 8 = .ok (.ifCond .lt 14, 3) := by decide +kernel
theorem dX5_statutes_11 : decode cX5_statutes 11 = .ok (.iload_n 1, 1) := by decide +kernel
theorem dX5_statutes_12 : decode cX5_statutes 12 = .ok (.aload_n 0, 1) := by decide +kernel
theorem dX5_statutes_13 : decode cX5_statutes 13 = .ok (.getfield 10, 3) := by decide +kernel
theorem dX5_statutes_16 : decode cX5_statutes 16 = .ok (.invokevirtual 74, 3) := by decide +kernel
theorem dX5_statutes_19 : decode cX5_statutes 19 = .ok (.if_icmp .le 6, 3) := by decide +kernel
theorem dX5_statutes_22 : decode cX5_statutes 22 = .ok (.bipush (-2), 2) := by decide +kernel
theorem dX5_statutes_24 : decode cX5_statutes 24 = .ok (.ireturn, 1) := by decide +kernel
theorem dX5_statutes_25 : decode cX5_statutes 25 = .ok (.aload_n 0, 1) := by decide +kernel
theorem dX5_statutes_26 : decode cX5_statutes 26 = .ok (.getfield 21, 3) := by decide +kernel
theorem dX5_statutes_29 : decode cX5_statutes 29 = .ok (.iload_n 1, 1) := by decide +kernel
theorem dX5_statutes_30 : decode cX5_statutes 30 = .ok (.aload_n 0, 1) := by decide +kernel
theorem dX5_statutes_31 : decode cX5_statutes 31 = .ok (.getfield 49, 3) := by decide +kernel
theorem dX5_statutes_34 : decode cX5_statutes 34 = .ok (.invokevirtual 78, 3) := by decide +kernel
theorem dX5_statutes_37 : decode cX5_statutes 37 = .ok (.istore_n 2, 1) := by decide +kernel
theorem dX5_statutes_38 : decode cX5_statutes 38 = .ok (.aload_n 0, 1) := by decide +kernel
theorem dX5_statutes_39 : decode cX5_statutes 39 = .ok (.getfield 10, 3) := by decide +kernel
theorem dX5_statutes_42 : decode cX5_statutes 42 = .ok (.invokevirtual 82, 3) := by decide +kernel
theorem dX5_statutes_45 : decode cX5_statutes 45 = .ok (.iload_n 2, 1) := by decide +kernel
theorem dX5_statutes_46 : decode cX5_statutes 46 = .ok (.ifCond .ne 5, 3) := by decide +kernel
theorem dX5_statutes_49 : decode cX5_statutes 49 = .ok (.iconst (-1), 1) := by decide +kernel
theorem dX5_statutes_50 : decode cX5_statutes 50 = .ok (.ireturn, 1) := by decide +kernel
theorem dX5_statutes_51 : decode cX5_statutes 51 = .ok (.aload_n 0, 1) := by decide +kernel
theorem dX5_statutes_52 : decode cX5_statutes 52 = .ok (.getfield 45, 3) := by decide +kernel
theorem dX5_statutes_55 : decode cX5_statutes 55 = .ok (.astore_n 3, 1) := by decide +kernel
theorem dX5_statutes_56 : decode cX5_statutes 56 = .ok (.aload_n 0, 1) := by decide +kernel
theorem dX5_statutes_57 : decode cX5_statutes 57 = .ok (.aload_n 0, 1) := by decide +kernel
theorem dX5_statutes_58 : decode cX5_statutes 58 = .ok (.getfield 49, 3) := by decide +kernel
theorem dX5_statutes_61 : decode cX5_statutes 61 = .ok (.putfield 45, 3) := by decide +kernel
theorem dX5_statutes_64 : decode cX5_statutes 64 = .ok (.aload_n 0, 1) := by decide +kernel
theorem dX5_statutes_65 : decode cX5_statutes 65 = .ok (.aload_n 3, 1) := by decide +kernel
theorem dX5_statutes_66 : decode cX5_statutes 66 = .ok (.putfield 49, 3) := by decide +kernel
theorem dX5_statutes_69 : decode cX5_statutes 69 = .ok (.aload_n 0, 1) := by decide +kernel
theorem dX5_statutes_70 : decode cX5_statutes 70 = .ok (.getfield 45, 3) := by decide +kernel
theorem dX5_statutes_73 : decode cX5_statutes 73 = .ok (.invokevirtual 85, 3) := by decide +kernel
theorem dX5_statutes_76 : decode cX5_statutes 76 = .ok (.ireturn, 1) := by decide +kernel
theorem dX5_fault_0 : decode cX5_fault 0 = .ok (.iload_n 1, 1) := by decide +kernel
theorem dX5_fault_1 : decode cX5_fault 1 = .ok (.lookupswitch 43 #[(0, 27), (1, 35)], 27) := by decide +kernel
theorem dX5_fault_28 : decode cX5_fault 28 = .ok (.aload_n 0, 1) := by decide +kernel
theorem dX5_fault_29 : decode cX5_fault 29 = .ok (.getfield 21, 3) := by decide +kernel
theorem dX5_fault_32 : decode cX5_fault 32 = .ok (.invokevirtual 88, 3) := by decide +kernel
theorem dX5_fault_35 : decode cX5_fault 35 = .ok (.ireturn, 1) := by decide +kernel
theorem dX5_fault_36 : decode cX5_fault 36 = .ok (.aload_n 0, 1) := by decide +kernel
theorem dX5_fault_37 : decode cX5_fault 37 = .ok (.getfield 21, 3) := by decide +kernel
theorem dX5_fault_40 : decode cX5_fault 40 = .ok (.invokevirtual 91, 3) := by decide +kernel
theorem dX5_fault_43 : decode cX5_fault 43 = .ok (.ireturn, 1) := by decide +kernel
theorem dX5_fault_44 : decode cX5_fault 44 = .ok (.iconst (-1), 1) := by decide +kernel
theorem dX5_fault_45 : decode cX5_fault 45 = .ok (.ireturn, 1) := by decide +kernel
theorem dX5_man_0 : decode cX5_man 0 = .ok (.iload_n 1, 1) := by decide +kernel
theorem dX5_man_1 : decode cX5_man 1 = .ok (.invokestatic 94, 3) := by decide +kernel
theorem dX5_man_4 : decode cX5_man 4 = .ok (.ifCond .eq 10, 3) := by decide +kernel
theorem dX5_man_7 : decode cX5_man 7 = .ok (.iload_n 2, 1) := by decide +kernel
theorem dX5_man_8 : decode cX5_man 8 = .ok (.invokestatic 94, 3) := by decide +kernel
theorem dX5_man_11 : decode cX5_man 11 = .ok (.ifCond .ne 5, 3) := by decide +kernel
theorem dX5_man_14 : decode cX5_man 14 = .ok (.iconst (-1), 1) := by decide +kernel
theorem dX5_man_15 : decode cX5_man 15 = .ok (.ireturn, 1) := by decide +kernel
theorem dX5_man_16 : decode cX5_man 16 = .ok (.aload_n 0, 1) := by decide +kernel
theorem dX5_man_17 : decode cX5_man 17 = .ok (.getfield 28, 3) := by decide +kernel
theorem dX5_man_20 : decode cX5_man 20 = .ok (.iload_n 1, 1) := by decide +kernel
theorem dX5_man_21 : decode cX5_man 21 = .ok (.iload_n 2, 1) := by decide +kernel
theorem dX5_man_22 : decode cX5_man 22 = .ok (.invokevirtual 97, 3) := by decide +kernel
theorem dX5_man_25 : decode cX5_man 25 = .ok (.ireturn, 1) := by decide +kernel
theorem dX5_found_0 : decode cX5_found 0 = .ok (.aload_n 0, 1) := by decide +kernel
theorem dX5_found_1 : decode cX5_found 1 = .ok (.getfield 28, 3) := by decide +kernel
theorem dX5_found_4 : decode cX5_found 4 = .ok (.iload_n 1, 1) := by decide +kernel
theorem dX5_found_5 : decode cX5_found 5 = .ok (.invokevirtual 101, 3) := by decide +kernel
theorem dX5_found_8 : decode cX5_found 8 = .ok (.ifCond .eq 20, 3) := by decide +kernel
theorem dX5_found_11 : decode cX5_found 11 = .ok (.iload_n 2, 1) := by decide +kernel
theorem dX5_found_12 : decode cX5_found 12 = .ok (.iconst 1, 1) := by decide +kernel
theorem dX5_found_13 : decode cX5_found 13 = .ok (.if_icmp .lt 15, 3) := by decide +kernel
theorem dX5_found_16 : decode cX5_found 16 = .ok (.iload_n 2, 1) := by decide +kernel
theorem dX5_found_17 : decode cX5_found 17 = .ok (.aload_n 0, 1) := by decide +kernel
theorem dX5_found_18 : decode cX5_found 18 = .ok (.getfield 28, 3) := by decide +kernel
theorem dX5_found_21 : decode cX5_found 21 = .ok (.iload_n 1, 1) := by decide +kernel
theorem dX5_found_22 : decode cX5_found 22 = .ok (.invokevirtual 104, 3) := by decide +kernel
theorem dX5_found_25 : decode cX5_found 25 = .ok (.if_icmp .le 5, 3) := by decide +kernel
theorem dX5_found_28 : decode cX5_found 28 = .ok (.iconst 0, 1) := by decide +kernel
theorem dX5_found_29 : decode cX5_found 29 = .ok (.ireturn, 1) := by decide +kernel
theorem dX5_found_30 : decode cX5_found 30 = .ok (.aload_n 0, 1) := by decide +kernel
theorem dX5_found_31 : decode cX5_found 31 = .ok (.getfield 28, 3) := by decide +kernel
theorem dX5_found_34 : decode cX5_found 34 = .ok (.iload_n 1, 1) := by decide +kernel
theorem dX5_found_35 : decode cX5_found 35 = .ok (.iload_n 2, 1) := by decide +kernel
theorem dX5_found_36 : decode cX5_found 36 = .ok (.invokevirtual 108, 3) := by decide +kernel
theorem dX5_found_39 : decode cX5_found 39 = .ok (.iconst 1, 1) := by decide +kernel
theorem dX5_found_40 : decode cX5_found 40 = .ok (.ireturn, 1) := by decide +kernel
theorem dX5_look_0 : decode cX5_look 0 = .ok (.aload_n 0, 1) := by decide +kernel
theorem dX5_look_1 : decode cX5_look 1 = .ok (.getfield 28, 3) := by decide +kernel
theorem dX5_look_4 : decode cX5_look 4 = .ok (.iload_n 1, 1) := by decide +kernel
theorem dX5_look_5 : decode cX5_look 5 = .ok (.invokevirtual 101, 3) := by decide +kernel
theorem dX5_look_8 : decode cX5_look 8 = .ok (.ifCond .ne 13, 3) := by decide +kernel
theorem dX5_look_11 : decode cX5_look 11 = .ok (.new 112, 3) := by decide +kernel
theorem dX5_look_14 : decode cX5_look 14 = .ok (.dup, 1) := by decide +kernel
theorem dX5_look_15 : decode cX5_look 15 = .ok (.ldc 114, 2) := by decide +kernel
theorem dX5_look_17 : decode cX5_look 17 = .ok (.invokespecial 116, 3) := by decide +kernel
theorem dX5_look_20 : decode cX5_look 20 = .ok (.athrow, 1) := by decide +kernel
theorem dX5_look_21 : decode cX5_look 21 = .ok (.iload_n 2, 1) := by decide +kernel
theorem dX5_look_22 : decode cX5_look 22 = .ok (.tableswitch 97 0 5 #[38, 47, 56, 65, 74, 83], 38) := by decide +kernel
theorem dX5_look_60 : decode cX5_look 60 = .ok (.aload_n 0, 1) := by decide +kernel
theorem dX5_look_61 : decode cX5_look 61 = .ok (.getfield 28, 3) := by decide +kernel
theorem dX5_look_64 : decode cX5_look 64 = .ok (.iload_n 1, 1) := by decide +kernel
theorem dX5_look_65 : decode cX5_look 65 = .ok (.invokevirtual 119, 3) := by decide +kernel
theorem dX5_look_68 : decode cX5_look 68 = .ok (.ireturn, 1) := by decide +kernel
theorem dX5_look_69 : decode cX5_look 69 = .ok (.aload_n 0, 1) := by decide +kernel
theorem dX5_look_70 : decode cX5_look 70 = .ok (.getfield 28, 3) := by decide +kernel
theorem dX5_look_73 : decode cX5_look 73 = .ok (.iload_n 1, 1) := by decide +kernel
theorem dX5_look_74 : decode cX5_look 74 = .ok (.invokevirtual 104, 3) := by decide +kernel
theorem dX5_look_77 : decode cX5_look 77 = .ok (.ireturn, 1) := by decide +kernel
theorem dX5_look_78 : decode cX5_look 78 = .ok (.aload_n 0, 1) := by decide +kernel
theorem dX5_look_79 : decode cX5_look 79 = .ok (.getfield 28, 3) := by decide +kernel
theorem dX5_look_82 : decode cX5_look 82 = .ok (.iload_n 1, 1) := by decide +kernel
theorem dX5_look_83 : decode cX5_look 83 = .ok (.invokevirtual 122, 3) := by decide +kernel
theorem dX5_look_86 : decode cX5_look 86 = .ok (.ireturn, 1) := by decide +kernel
theorem dX5_look_87 : decode cX5_look 87 = .ok (.aload_n 0, 1) := by decide +kernel
theorem dX5_look_88 : decode cX5_look 88 = .ok (.getfield 28, 3) := by decide +kernel
theorem dX5_look_91 : decode cX5_look 91 = .ok (.iload_n 1, 1) := by decide +kernel
theorem dX5_look_92 : decode cX5_look 92 = .ok (.invokevirtual 125, 3) := by decide +kernel
theorem dX5_look_95 : decode cX5_look 95 = .ok (.ireturn, 1) := by decide +kernel
theorem dX5_look_96 : decode cX5_look 96 = .ok (.aload_n 0, 1) := by decide +kernel
theorem dX5_look_97 : decode cX5_look 97 = .ok (.getfield 28, 3) := by decide +kernel
theorem dX5_look_100 : decode cX5_look 100 = .ok (.iload_n 1, 1) := by decide +kernel
theorem dX5_look_101 : decode cX5_look 101 = .ok (.invokevirtual 128, 3) := by decide +kernel
theorem dX5_look_104 : decode cX5_look 104 = .ok (.ireturn, 1) := by decide +kernel
theorem dX5_look_105 : decode cX5_look 105 = .ok (.aload_n 0, 1) := by decide +kernel
theorem dX5_look_106 : decode cX5_look 106 = .ok (.iload_n 1, 1) := by decide +kernel
theorem dX5_look_107 : decode cX5_look 107 = .ok (.invokevirtual 131, 3) := by decide +kernel
theorem dX5_look_110 : decode cX5_look 110 = .ok (.ifCond .eq 7, 3) := by decide +kernel
theorem dX5_look_113 : decode cX5_look 113 = .ok (.iconst 1, 1) := by decide +kernel
theorem dX5_look_114 : decode cX5_look 114 = .ok (.goto 4, 3) := by decide +kernel
theorem dX5_look_117 : decode cX5_look 117 = .ok (.iconst 0, 1) := by decide +kernel
theorem dX5_look_118 : decode cX5_look 118 = .ok (.ireturn, 1) := by decide +kernel
theorem dX5_look_119 : decode cX5_look 119 = .ok (.new 134, 3) := by decide +kernel
theorem dX5_look_122 : decode cX5_look 122 = .ok (.dup, 1) := by decide +kernel
theorem dX5_look_123 : decode cX5_look 123 = .ok (.ldc 136, 2) := by decide +kernel
theorem dX5_look_125 : decode cX5_look 125 = .ok (.invokespecial 138, 3) := by decide +kernel
theorem dX5_look_128 : decode cX5_look 128 = .ok (.athrow, 1) := by decide +kernel
theorem dX5_richest_0 : decode cX5_richest 0 = .ok (.aload_n 0, 1) := by decide +kernel
theorem dX5_richest_1 : decode cX5_richest 1 = .ok (.getfield 28, 3) := by decide +kernel
theorem dX5_richest_4 : decode cX5_richest 4 = .ok (.iload_n 1, 1) := by decide +kernel
theorem dX5_richest_5 : decode cX5_richest 5 = .ok (.invokevirtual 139, 3) := by decide +kernel
theorem dX5_richest_8 : decode cX5_richest 8 = .ok (.ireturn, 1) := by decide +kernel
theorem dX5_place_0 : decode cX5_place 0 = .ok (.aload_n 0, 1) := by decide +kernel
theorem dX5_place_1 : decode cX5_place 1 = .ok (.getfield 45, 3) := by decide +kernel
theorem dX5_place_4 : decode cX5_place 4 = .ok (.iload_n 1, 1) := by decide +kernel
theorem dX5_place_5 : decode cX5_place 5 = .ok (.invokevirtual 142, 3) := by decide +kernel
theorem dX5_place_8 : decode cX5_place 8 = .ok (.ifCond .ne 6, 3) := by decide +kernel
theorem dX5_place_11 : decode cX5_place 11 = .ok (.bipush (-2), 2) := by decide +kernel
theorem dX5_place_13 : decode cX5_place 13 = .ok (.ireturn, 1) := by decide +kernel
theorem dX5_place_14 : decode cX5_place 14 = .ok (.iload_n 2, 1) := by decide +kernel
theorem dX5_place_15 : decode cX5_place 15 = .ok (.lookupswitch 43 #[(0, 25), (1, 34)], 25) := by decide +kernel
theorem dX5_place_40 : decode cX5_place 40 = .ok (.aload_n 0, 1) := by decide +kernel
theorem dX5_place_41 : decode cX5_place 41 = .ok (.getfield 45, 3) := by decide +kernel
theorem dX5_place_44 : decode cX5_place 44 = .ok (.iload_n 1, 1) := by decide +kernel
theorem dX5_place_45 : decode cX5_place 45 = .ok (.invokevirtual 145, 3) := by decide +kernel
theorem dX5_place_48 : decode cX5_place 48 = .ok (.ireturn, 1) := by decide +kernel
theorem dX5_place_49 : decode cX5_place 49 = .ok (.aload_n 0, 1) := by decide +kernel
theorem dX5_place_50 : decode cX5_place 50 = .ok (.getfield 28, 3) := by decide +kernel
theorem dX5_place_53 : decode cX5_place 53 = .ok (.iload_n 1, 1) := by decide +kernel
theorem dX5_place_54 : decode cX5_place 54 = .ok (.invokevirtual 148, 3) := by decide +kernel
theorem dX5_place_57 : decode cX5_place 57 = .ok (.ireturn, 1) := by decide +kernel
theorem dX5_place_58 : decode cX5_place 58 = .ok (.bipush (-2), 2) := by decide +kernel
theorem dX5_place_60 : decode cX5_place 60 = .ok (.ireturn, 1) := by decide +kernel
theorem dX5_begin_0 : decode cX5_begin 0 = .ok (.aload_n 0, 1) := by decide +kernel
theorem dX5_begin_1 : decode cX5_begin 1 = .ok (.getfield 52, 3) := by decide +kernel
theorem dX5_begin_4 : decode cX5_begin 4 = .ok (.ifCond .ne 12, 3) := by decide +kernel
theorem dX5_begin_7 : decode cX5_begin 7 = .ok (.aload_n 0, 1) := by decide +kernel
theorem dX5_begin_8 : decode cX5_begin 8 = .ok (.getfield 56, 3) := by decide +kernel
theorem dX5_begin_11 : decode cX5_begin 11 = .ok (.bipush 40, 2) := by decide +kernel
theorem dX5_begin_13 : decode cX5_begin 13 = .ok (.if_icmp .lt 5, 3) := by decide +kernel
theorem dX5_begin_16 : decode cX5_begin 16 = .ok (.iconst (-1), 1) := by decide +kernel
theorem dX5_begin_17 : decode cX5_begin 17 = .ok (.ireturn, 1) := by decide +kernel
theorem dX5_begin_18 : decode cX5_begin 18 = .ok (.aload_n 0, 1) := by decide +kernel
theorem dX5_begin_19 : decode cX5_begin 19 = .ok (.getfield 56, 3) := by decide +kernel
theorem dX5_begin_22 : decode cX5_begin 22 = .ok (.istore_n 1, 1) := by decide +kernel
theorem dX5_begin_23 : decode cX5_begin 23 = .ok (.aload_n 0, 1) := by decide +kernel
theorem dX5_begin_24 : decode cX5_begin 24 = .ok (.dup, 1) := by decide +kernel
theorem dX5_begin_25 : decode cX5_begin 25 = .ok (.getfield 56, 3) := by decide +kernel
theorem dX5_begin_28 : decode cX5_begin 28 = .ok (.iconst 1, 1) := by decide +kernel
theorem dX5_begin_29 : decode cX5_begin 29 = .ok (.iadd, 1) := by decide +kernel
theorem dX5_begin_30 : decode cX5_begin 30 = .ok (.putfield 56, 3) := by decide +kernel
theorem dX5_begin_33 : decode cX5_begin 33 = .ok (.aload_n 0, 1) := by decide +kernel
theorem dX5_begin_34 : decode cX5_begin 34 = .ok (.iconst 1, 1) := by decide +kernel
theorem dX5_begin_35 : decode cX5_begin 35 = .ok (.putfield 52, 3) := by decide +kernel
theorem dX5_begin_38 : decode cX5_begin 38 = .ok (.aload_n 0, 1) := by decide +kernel
theorem dX5_begin_39 : decode cX5_begin 39 = .ok (.iconst 0, 1) := by decide +kernel
theorem dX5_begin_40 : decode cX5_begin 40 = .ok (.putfield 60, 3) := by decide +kernel
theorem dX5_begin_43 : decode cX5_begin 43 = .ok (.aload_n 0, 1) := by decide +kernel
theorem dX5_begin_44 : decode cX5_begin 44 = .ok (.getfield 38, 3) := by decide +kernel
theorem dX5_begin_47 : decode cX5_begin 47 = .ok (.invokevirtual 151, 3) := by decide +kernel
theorem dX5_begin_50 : decode cX5_begin 50 = .ok (.aload_n 0, 1) := by decide +kernel
theorem dX5_begin_51 : decode cX5_begin 51 = .ok (.getfield 28, 3) := by decide +kernel
theorem dX5_begin_54 : decode cX5_begin 54 = .ok (.aload_n 0, 1) := by decide +kernel
theorem dX5_begin_55 : decode cX5_begin 55 = .ok (.getfield 45, 3) := by decide +kernel
theorem dX5_begin_58 : decode cX5_begin 58 = .ok (.iload_n 1, 1) := by decide +kernel
theorem dX5_begin_59 : decode cX5_begin 59 = .ok (.invokevirtual 152, 3) := by decide +kernel
theorem dX5_begin_62 : decode cX5_begin 62 = .ok (.ireturn, 1) := by decide +kernel
theorem dX5_pass_0 : decode cX5_pass 0 = .ok (.aload_n 0, 1) := by decide +kernel
theorem dX5_pass_1 : decode cX5_pass 1 = .ok (.getfield 52, 3) := by decide +kernel
theorem dX5_pass_4 : decode cX5_pass 4 = .ok (.ifCond .eq 26, 3) := by decide +kernel
theorem dX5_pass_7 : decode cX5_pass 7 = .ok (.iload_n 1, 1) := by decide +kernel
theorem dX5_pass_8 : decode cX5_pass 8 = .ok (.ifCond .lt 22, 3) := by decide +kernel
theorem dX5_pass_11 : decode cX5_pass 11 = .ok (.iload_n 1, 1) := by decide +kernel
theorem dX5_pass_12 : decode cX5_pass 12 = .ok (.sipush 400, 3) := by decide +kernel
theorem dX5_pass_15 : decode cX5_pass 15 = .ok (.if_icmp .gt 15, 3) := by decide +kernel
theorem dX5_pass_18 : decode cX5_pass 18 = .ok (.aload_n 0, 1) := by decide +kernel
theorem dX5_pass_19 : decode cX5_pass 19 = .ok (.getfield 60, 3) := by decide +kernel
theorem dX5_pass_22 : decode cX5_pass 22 = .ok (.iload_n 1, 1) := by decide +kernel
theorem dX5_pass_23 : decode cX5_pass 23 = .ok (.iadd, 1) := by decide +kernel
theorem dX5_pass_24 : decode cX5_pass 24 = .ok (.sipush 400, 3) := by decide +kernel
theorem dX5_pass_27 : decode cX5_pass 27 = .ok (.if_icmp .le 5, 3) := by decide +kernel
theorem dX5_pass_30 : decode cX5_pass 30 = .ok (.iconst (-1), 1) := by decide +kernel
theorem dX5_pass_31 : decode cX5_pass 31 = .ok (.ireturn, 1) := by decide +kernel
theorem dX5_pass_32 : decode cX5_pass 32 = .ok (.aload_n 0, 1) := by decide +kernel
theorem dX5_pass_33 : decode cX5_pass 33 = .ok (.dup, 1) := by decide +kernel
theorem dX5_pass_34 : decode cX5_pass 34 = .ok (.getfield 60, 3) := by decide +kernel
theorem dX5_pass_37 : decode cX5_pass 37 = .ok (.iload_n 1, 1) := by decide +kernel
theorem dX5_pass_38 : decode cX5_pass 38 = .ok (.iadd, 1) := by decide +kernel
theorem dX5_pass_39 : decode cX5_pass 39 = .ok (.putfield 60, 3) := by decide +kernel
theorem dX5_pass_42 : decode cX5_pass 42 = .ok (.aload_n 0, 1) := by decide +kernel
theorem dX5_pass_43 : decode cX5_pass 43 = .ok (.getfield 38, 3) := by decide +kernel
theorem dX5_pass_46 : decode cX5_pass 46 = .ok (.aload_n 0, 1) := by decide +kernel
theorem dX5_pass_47 : decode cX5_pass 47 = .ok (.getfield 60, 3) := by decide +kernel
theorem dX5_pass_50 : decode cX5_pass 50 = .ok (.aload_n 0, 1) := by decide +kernel
theorem dX5_pass_51 : decode cX5_pass 51 = .ok (.getfield 28, 3) := by decide +kernel
theorem dX5_pass_54 : decode cX5_pass 54 = .ok (.invokevirtual 156, 3) := by decide +kernel
theorem dX5_pass_57 : decode cX5_pass 57 = .ok (.aload_n 0, 1) := by decide +kernel
theorem dX5_pass_58 : decode cX5_pass 58 = .ok (.getfield 60, 3) := by decide +kernel
theorem dX5_pass_61 : decode cX5_pass 61 = .ok (.ireturn, 1) := by decide +kernel
theorem dX5_challenge_0 : decode cX5_challenge 0 = .ok (.aload_n 0, 1) := by decide +kernel
theorem dX5_challenge_1 : decode cX5_challenge 1 = .ok (.getfield 52, 3) := by decide +kernel
theorem dX5_challenge_4 : decode cX5_challenge 4 = .ok (.ifCond .eq 35, 3) := by decide +kernel
theorem dX5_challenge_7 : decode cX5_challenge 7 = .ok (.aload_n 0, 1) := by decide +kernel
theorem dX5_challenge_8 : decode cX5_challenge 8 = .ok (.getfield 38, 3) := by decide +kernel
theorem dX5_challenge_11 : decode cX5_challenge 11 = .ok (.invokevirtual 160, 3) := by decide +kernel
theorem dX5_challenge_14 : decode cX5_challenge 14 = .ok (.ifCond .eq 25, 3) := by decide +kernel
theorem dX5_challenge_17 : decode cX5_challenge 17 = .ok (.aload_n 0, 1) := by decide +kernel
theorem dX5_challenge_18 : decode cX5_challenge 18 = .ok (.getfield 28, 3) := by decide +kernel
theorem dX5_challenge_21 : decode cX5_challenge 21 = .ok (.iload_n 1, 1) := by decide +kernel
theorem dX5_challenge_22 : decode cX5_challenge 22 = .ok (.invokevirtual 101, 3) := by decide +kernel
theorem dX5_challenge_25 : decode cX5_challenge 25 = .ok (.ifCond .eq 14, 3) := by decide +kernel
theorem dX5_challenge_28 : decode cX5_challenge 28 = .ok (.aload_n 0, 1) := by decide +kernel
theorem dX5_challenge_29 : decode cX5_challenge 29 = .ok (.getfield 28, 3) := by decide +kernel
theorem dX5_challenge_32 : decode cX5_challenge 32 = .ok (.iload_n 2, 1) := by decide +kernel
theorem dX5_challenge_33 : decode cX5_challenge 33 = .ok (.invokevirtual 101, 3) := by decide +kernel
theorem dX5_challenge_36 : decode cX5_challenge 36 = .ok (.ifCond .ne 5, 3) := by decide +kernel
theorem dX5_challenge_39 : decode cX5_challenge 39 = .ok (.iconst (-1), 1) := by decide +kernel
theorem dX5_challenge_40 : decode cX5_challenge 40 = .ok (.ireturn, 1) := by decide +kernel
theorem dX5_challenge_41 : decode cX5_challenge 41 = .ok (.aload_n 0, 1) := by decide +kernel
theorem dX5_challenge_42 : decode cX5_challenge 42 = .ok (.getfield 28, 3) := by decide +kernel
theorem dX5_challenge_45 : decode cX5_challenge 45 = .ok (.iload_n 1, 1) := by decide +kernel
theorem dX5_challenge_46 : decode cX5_challenge 46 = .ok (.invokevirtual 122, 3) := by decide +kernel
theorem dX5_challenge_49 : decode cX5_challenge 49 = .ok (.istore_n 3, 1) := by decide +kernel
theorem dX5_challenge_50 : decode cX5_challenge 50 = .ok (.iload_n 3, 1) := by decide +kernel
theorem dX5_challenge_51 : decode cX5_challenge 51 = .ok (.iconst (-1), 1) := by decide +kernel
theorem dX5_challenge_52 : decode cX5_challenge 52 = .ok (.if_icmp .eq 33, 3) := by decide +kernel
theorem dX5_challenge_55 : decode cX5_challenge 55 = .ok (.aload_n 0, 1) := by decide +kernel
theorem dX5_challenge_56 : decode cX5_challenge 56 = .ok (.iload_n 2, 1) := by decide +kernel
theorem dX5_challenge_57 : decode cX5_challenge 57 = .ok (.invokevirtual 131, 3) := by decide +kernel
theorem dX5_challenge_60 : decode cX5_challenge 60 = .ok (.ifCond .eq 25, 3) := by decide +kernel
theorem dX5_challenge_63 : decode cX5_challenge 63 = .ok (.aload_n 0, 1) := by decide +kernel
theorem dX5_challenge_64 : decode cX5_challenge 64 = .ok (.getfield 38, 3) := by decide +kernel
theorem dX5_challenge_67 : decode cX5_challenge 67 = .ok (.iload_n 1, 1) := by decide +kernel
theorem dX5_challenge_68 : decode cX5_challenge 68 = .ok (.invokevirtual 163, 3) := by decide +kernel
theorem dX5_challenge_71 : decode cX5_challenge 71 = .ok (.ifCond .ne 14, 3) := by decide +kernel
theorem dX5_challenge_74 : decode cX5_challenge 74 = .ok (.aload_n 0, 1) := by decide +kernel
theorem dX5_challenge_75 : decode cX5_challenge 75 = .ok (.getfield 38, 3) := by decide +kernel
theorem dX5_challenge_78 : decode cX5_challenge 78 = .ok (.iload_n 2, 1) := by decide +kernel
theorem dX5_challenge_79 : decode cX5_challenge 79 = .ok (.invokevirtual 163, 3) := by decide +kernel
theorem dX5_challenge_82 : decode cX5_challenge 82 = .ok (.ifCond .eq 5, 3) := by decide +kernel
theorem dX5_challenge_85 : decode cX5_challenge 85 = .ok (.iconst (-1), 1) := by decide +kernel
theorem dX5_challenge_86 : decode cX5_challenge 86 = .ok (.ireturn, 1) := by decide +kernel
theorem dX5_challenge_87 : decode cX5_challenge 87 = .ok (.aload_n 0, 1) := by decide +kernel
theorem dX5_challenge_88 : decode cX5_challenge 88 = .ok (.getfield 28, 3) := by decide +kernel
theorem dX5_challenge_91 : decode cX5_challenge 91 = .ok (.iload_n 2, 1) := by decide +kernel
theorem dX5_challenge_92 : decode cX5_challenge 92 = .ok (.iload_n 3, 1) := by decide +kernel
theorem dX5_challenge_93 : decode cX5_challenge 93 = .ok (.invokevirtual 166, 3) := by decide +kernel
theorem dX5_challenge_96 : decode cX5_challenge 96 = .ok (.ifCond .eq 6, 3) := by decide +kernel
theorem dX5_challenge_99 : decode cX5_challenge 99 = .ok (.bipush (-3), 2) := by decide +kernel
theorem dX5_challenge_101 : decode cX5_challenge 101 = .ok (.ireturn, 1) := by decide +kernel
theorem dX5_challenge_102 : decode cX5_challenge 102 = .ok (.aload_n 0, 1) := by decide +kernel
theorem dX5_challenge_103 : decode cX5_challenge 103 = .ok (.getfield 38, 3) := by decide +kernel
theorem dX5_challenge_106 : decode cX5_challenge 106 = .ok (.iload_n 1, 1) := by decide +kernel
theorem dX5_challenge_107 : decode cX5_challenge 107 = .ok (.iload_n 2, 1) := by decide +kernel
theorem dX5_challenge_108 : decode cX5_challenge 108 = .ok (.iload_n 3, 1) := by decide +kernel
theorem dX5_challenge_109 : decode cX5_challenge 109 = .ok (.aload_n 0, 1) := by decide +kernel
theorem dX5_challenge_110 : decode cX5_challenge 110 = .ok (.getfield 60, 3) := by decide +kernel
theorem dX5_challenge_113 : decode cX5_challenge 113 = .ok (.aload_n 0, 1) := by decide +kernel
theorem dX5_challenge_114 : decode cX5_challenge 114 = .ok (.getfield 45, 3) := by decide +kernel
theorem dX5_challenge_117 : decode cX5_challenge 117 = .ok (.iconst 2, 1) := by decide +kernel
theorem dX5_challenge_118 : decode cX5_challenge 118 = .ok (.invokevirtual 170, 3) := by decide +kernel
theorem dX5_challenge_121 : decode cX5_challenge 121 = .ok (.invokevirtual 173, 3) := by decide +kernel
theorem dX5_challenge_124 : decode cX5_challenge 124 = .ok (.ireturn, 1) := by decide +kernel
theorem dX5_answer_0 : decode cX5_answer 0 = .ok (.aload_n 0, 1) := by decide +kernel
theorem dX5_answer_1 : decode cX5_answer 1 = .ok (.getfield 38, 3) := by decide +kernel
theorem dX5_answer_4 : decode cX5_answer 4 = .ok (.iload_n 1, 1) := by decide +kernel
theorem dX5_answer_5 : decode cX5_answer 5 = .ok (.invokevirtual 176, 3) := by decide +kernel
theorem dX5_answer_8 : decode cX5_answer 8 = .ok (.ifCond .eq 5, 3) := by decide +kernel
theorem dX5_answer_11 : decode cX5_answer 11 = .ok (.iconst 0, 1) := by decide +kernel
theorem dX5_answer_12 : decode cX5_answer 12 = .ok (.ireturn, 1) := by decide +kernel
theorem dX5_answer_13 : decode cX5_answer 13 = .ok (.iload_n 2, 1) := by decide +kernel
theorem dX5_answer_14 : decode cX5_answer 14 = .ok (.ifCond .eq 18, 3) := by decide +kernel
theorem dX5_answer_17 : decode cX5_answer 17 = .ok (.aload_n 0, 1) := by decide +kernel
theorem dX5_answer_18 : decode cX5_answer 18 = .ok (.getfield 38, 3) := by decide +kernel
theorem dX5_answer_21 : decode cX5_answer 21 = .ok (.iload_n 1, 1) := by decide +kernel
theorem dX5_answer_22 : decode cX5_answer 22 = .ok (.aload_n 0, 1) := by decide +kernel
theorem dX5_answer_23 : decode cX5_answer 23 = .ok (.getfield 28, 3) := by decide +kernel
theorem dX5_answer_26 : decode cX5_answer 26 = .ok (.invokevirtual 179, 3) := by decide +kernel
theorem dX5_answer_29 : decode cX5_answer 29 = .ok (.goto 24, 3) := by decide +kernel
theorem dX5_answer_32 : decode cX5_answer 32 = .ok (.aload_n 0, 1) := by decide +kernel
theorem dX5_answer_33 : decode cX5_answer 33 = .ok (.getfield 38, 3) := by decide +kernel
theorem dX5_answer_36 : decode cX5_answer 36 = .ok (.iload_n 1, 1) := by decide +kernel
theorem dX5_answer_37 : decode cX5_answer 37 = .ok (.aload_n 0, 1) := by decide +kernel
theorem dX5_answer_38 : decode cX5_answer 38 = .ok (.getfield 60, 3) := by decide +kernel
theorem dX5_answer_41 : decode cX5_answer 41 = .ok (.aload_n 0, 1) := by decide +kernel
theorem dX5_answer_42 : decode cX5_answer 42 = .ok (.getfield 45, 3) := by decide +kernel
theorem dX5_answer_45 : decode cX5_answer 45 = .ok (.iconst 3, 1) := by decide +kernel
theorem dX5_answer_46 : decode cX5_answer 46 = .ok (.invokevirtual 170, 3) := by decide +kernel
theorem dX5_answer_49 : decode cX5_answer 49 = .ok (.iadd, 1) := by decide +kernel
theorem dX5_answer_50 : decode cX5_answer 50 = .ok (.invokevirtual 182, 3) := by decide +kernel
theorem dX5_answer_53 : decode cX5_answer 53 = .ok (.iconst 1, 1) := by decide +kernel
theorem dX5_answer_54 : decode cX5_answer 54 = .ok (.ireturn, 1) := by decide +kernel
theorem dX5_swear_0 : decode cX5_swear 0 = .ok (.aload_n 0, 1) := by decide +kernel
theorem dX5_swear_1 : decode cX5_swear 1 = .ok (.getfield 38, 3) := by decide +kernel
theorem dX5_swear_4 : decode cX5_swear 4 = .ok (.iload_n 1, 1) := by decide +kernel
theorem dX5_swear_5 : decode cX5_swear 5 = .ok (.invokevirtual 176, 3) := by decide +kernel
theorem dX5_swear_8 : decode cX5_swear 8 = .ok (.iconst 1, 1) := by decide +kernel
theorem dX5_swear_9 : decode cX5_swear 9 = .ok (.if_icmp .ne 15, 3) := by decide +kernel
theorem dX5_swear_12 : decode cX5_swear 12 = .ok (.aload_n 0, 1) := by decide +kernel
theorem dX5_swear_13 : decode cX5_swear 13 = .ok (.getfield 38, 3) := by decide +kernel
theorem dX5_swear_16 : decode cX5_swear 16 = .ok (.iload_n 1, 1) := by decide +kernel
theorem dX5_swear_17 : decode cX5_swear 17 = .ok (.iload_n 2, 1) := by decide +kernel
theorem dX5_swear_18 : decode cX5_swear 18 = .ok (.invokevirtual 185, 3) := by decide +kernel
theorem dX5_swear_21 : decode cX5_swear 21 = .ok (.ifCond .eq 5, 3) := by decide +kernel
theorem dX5_swear_24 : decode cX5_swear 24 = .ok (.iconst 0, 1) := by decide +kernel
theorem dX5_swear_25 : decode cX5_swear 25 = .ok (.ireturn, 1) := by decide +kernel
theorem dX5_swear_26 : decode cX5_swear 26 = .ok (.aload_n 0, 1) := by decide +kernel
theorem dX5_swear_27 : decode cX5_swear 27 = .ok (.getfield 38, 3) := by decide +kernel
theorem dX5_swear_30 : decode cX5_swear 30 = .ok (.iload_n 1, 1) := by decide +kernel
theorem dX5_swear_31 : decode cX5_swear 31 = .ok (.iload_n 2, 1) := by decide +kernel
theorem dX5_swear_32 : decode cX5_swear 32 = .ok (.aload_n 0, 1) := by decide +kernel
theorem dX5_swear_33 : decode cX5_swear 33 = .ok (.getfield 28, 3) := by decide +kernel
theorem dX5_swear_36 : decode cX5_swear 36 = .ok (.invokevirtual 189, 3) := by decide +kernel
theorem dX5_swear_39 : decode cX5_swear 39 = .ok (.iconst 1, 1) := by decide +kernel
theorem dX5_swear_40 : decode cX5_swear 40 = .ok (.ireturn, 1) := by decide +kernel
theorem dX5_told_0 : decode cX5_told 0 = .ok (.iload_n 2, 1) := by decide +kernel
theorem dX5_told_1 : decode cX5_told 1 = .ok (.tableswitch 93 0 5 #[39, 48, 57, 66, 75, 84], 39) := by decide +kernel
theorem dX5_told_40 : decode cX5_told 40 = .ok (.aload_n 0, 1) := by decide +kernel
theorem dX5_told_41 : decode cX5_told 41 = .ok (.getfield 38, 3) := by decide +kernel
theorem dX5_told_44 : decode cX5_told 44 = .ok (.iload_n 1, 1) := by decide +kernel
theorem dX5_told_45 : decode cX5_told 45 = .ok (.invokevirtual 193, 3) := by decide +kernel
theorem dX5_told_48 : decode cX5_told 48 = .ok (.ireturn, 1) := by decide +kernel
theorem dX5_told_49 : decode cX5_told 49 = .ok (.aload_n 0, 1) := by decide +kernel
theorem dX5_told_50 : decode cX5_told 50 = .ok (.getfield 38, 3) := by decide +kernel
theorem dX5_told_53 : decode cX5_told 53 = .ok (.iload_n 1, 1) := by decide +kernel
theorem dX5_told_54 : decode cX5_told 54 = .ok (.invokevirtual 196, 3) := by decide +kernel
theorem dX5_told_57 : decode cX5_told 57 = .ok (.ireturn, 1) := by decide +kernel
theorem dX5_told_58 : decode cX5_told 58 = .ok (.aload_n 0, 1) := by decide +kernel
theorem dX5_told_59 : decode cX5_told 59 = .ok (.getfield 38, 3) := by decide +kernel
theorem dX5_told_62 : decode cX5_told 62 = .ok (.iload_n 1, 1) := by decide +kernel
theorem dX5_told_63 : decode cX5_told 63 = .ok (.invokevirtual 199, 3) := by decide +kernel
theorem dX5_told_66 : decode cX5_told 66 = .ok (.ireturn, 1) := by decide +kernel
theorem dX5_told_67 : decode cX5_told 67 = .ok (.aload_n 0, 1) := by decide +kernel
theorem dX5_told_68 : decode cX5_told 68 = .ok (.getfield 38, 3) := by decide +kernel
theorem dX5_told_71 : decode cX5_told 71 = .ok (.iload_n 1, 1) := by decide +kernel
theorem dX5_told_72 : decode cX5_told 72 = .ok (.invokevirtual 202, 3) := by decide +kernel
theorem dX5_told_75 : decode cX5_told 75 = .ok (.ireturn, 1) := by decide +kernel
theorem dX5_told_76 : decode cX5_told 76 = .ok (.aload_n 0, 1) := by decide +kernel
theorem dX5_told_77 : decode cX5_told 77 = .ok (.getfield 38, 3) := by decide +kernel
theorem dX5_told_80 : decode cX5_told 80 = .ok (.iload_n 1, 1) := by decide +kernel
theorem dX5_told_81 : decode cX5_told 81 = .ok (.invokevirtual 176, 3) := by decide +kernel
theorem dX5_told_84 : decode cX5_told 84 = .ok (.ireturn, 1) := by decide +kernel
theorem dX5_told_85 : decode cX5_told 85 = .ok (.aload_n 0, 1) := by decide +kernel
theorem dX5_told_86 : decode cX5_told 86 = .ok (.getfield 38, 3) := by decide +kernel
theorem dX5_told_89 : decode cX5_told 89 = .ok (.iload_n 1, 1) := by decide +kernel
theorem dX5_told_90 : decode cX5_told 90 = .ok (.invokevirtual 205, 3) := by decide +kernel
theorem dX5_told_93 : decode cX5_told 93 = .ok (.ireturn, 1) := by decide +kernel
theorem dX5_told_94 : decode cX5_told 94 = .ok (.iconst (-1), 1) := by decide +kernel
theorem dX5_told_95 : decode cX5_told 95 = .ok (.ireturn, 1) := by decide +kernel
theorem dX5_end_0 : decode cX5_end 0 = .ok (.aload_n 0, 1) := by decide +kernel
theorem dX5_end_1 : decode cX5_end 1 = .ok (.getfield 52, 3) := by decide +kernel
theorem dX5_end_4 : decode cX5_end 4 = .ok (.ifCond .ne 5, 3) := by decide +kernel
theorem dX5_end_7 : decode cX5_end 7 = .ok (.iconst (-1), 1) := by decide +kernel
theorem dX5_end_8 : decode cX5_end 8 = .ok (.ireturn, 1) := by decide +kernel
theorem dX5_end_9 : decode cX5_end 9 = .ok (.aload_n 0, 1) := by decide +kernel
theorem dX5_end_10 : decode cX5_end 10 = .ok (.getfield 38, 3) := by decide +kernel
theorem dX5_end_13 : decode cX5_end 13 = .ok (.aload_n 0, 1) := by decide +kernel
theorem dX5_end_14 : decode cX5_end 14 = .ok (.getfield 28, 3) := by decide +kernel
theorem dX5_end_17 : decode cX5_end 17 = .ok (.invokevirtual 208, 3) := by decide +kernel
theorem dX5_end_20 : decode cX5_end 20 = .ok (.aload_n 0, 1) := by decide +kernel
theorem dX5_end_21 : decode cX5_end 21 = .ok (.getfield 28, 3) := by decide +kernel
theorem dX5_end_24 : decode cX5_end 24 = .ok (.aload_n 0, 1) := by decide +kernel
theorem dX5_end_25 : decode cX5_end 25 = .ok (.getfield 45, 3) := by decide +kernel
theorem dX5_end_28 : decode cX5_end 28 = .ok (.aload_n 0, 1) := by decide +kernel
theorem dX5_end_29 : decode cX5_end 29 = .ok (.getfield 56, 3) := by decide +kernel
theorem dX5_end_32 : decode cX5_end 32 = .ok (.iconst 1, 1) := by decide +kernel
theorem dX5_end_33 : decode cX5_end 33 = .ok (.isub, 1) := by decide +kernel
theorem dX5_end_34 : decode cX5_end 34 = .ok (.invokevirtual 212, 3) := by decide +kernel
theorem dX5_end_37 : decode cX5_end 37 = .ok (.istore_n 1, 1) := by decide +kernel
theorem dX5_end_38 : decode cX5_end 38 = .ok (.aload_n 0, 1) := by decide +kernel
theorem dX5_end_39 : decode cX5_end 39 = .ok (.dup, 1) := by decide +kernel
theorem dX5_end_40 : decode cX5_end 40 = .ok (.getfield 63, 3) := by decide +kernel
theorem dX5_end_43 : decode cX5_end 43 = .ok (.iload_n 1, 1) := by decide +kernel
theorem dX5_end_44 : decode cX5_end 44 = .ok (.iadd, 1) := by decide +kernel
theorem dX5_end_45 : decode cX5_end 45 = .ok (.putfield 63, 3) := by decide +kernel
theorem dX5_end_48 : decode cX5_end 48 = .ok (.aload_n 0, 1) := by decide +kernel
theorem dX5_end_49 : decode cX5_end 49 = .ok (.iconst 0, 1) := by decide +kernel
theorem dX5_end_50 : decode cX5_end 50 = .ok (.putfield 52, 3) := by decide +kernel
theorem dX5_end_53 : decode cX5_end 53 = .ok (.iload_n 1, 1) := by decide +kernel
theorem dX5_end_54 : decode cX5_end 54 = .ok (.ireturn, 1) := by decide +kernel
theorem dX5_part_0 : decode cX5_part 0 = .ok (.aload_n 0, 1) := by decide +kernel
theorem dX5_part_1 : decode cX5_part 1 = .ok (.getfield 45, 3) := by decide +kernel
theorem dX5_part_4 : decode cX5_part 4 = .ok (.iload_n 1, 1) := by decide +kernel
theorem dX5_part_5 : decode cX5_part 5 = .ok (.invokevirtual 142, 3) := by decide +kernel
theorem dX5_part_8 : decode cX5_part 8 = .ok (.ifCond .eq 15, 3) := by decide +kernel
theorem dX5_part_11 : decode cX5_part 11 = .ok (.aload_n 0, 1) := by decide +kernel
theorem dX5_part_12 : decode cX5_part 12 = .ok (.getfield 28, 3) := by decide +kernel
theorem dX5_part_15 : decode cX5_part 15 = .ok (.iload_n 1, 1) := by decide +kernel
theorem dX5_part_16 : decode cX5_part 16 = .ok (.invokevirtual 148, 3) := by decide +kernel
theorem dX5_part_19 : decode cX5_part 19 = .ok (.iconst (-1), 1) := by decide +kernel
theorem dX5_part_20 : decode cX5_part 20 = .ok (.if_icmp .ne 5, 3) := by decide +kernel
theorem dX5_part_23 : decode cX5_part 23 = .ok (.iconst (-1), 1) := by decide +kernel
theorem dX5_part_24 : decode cX5_part 24 = .ok (.ireturn, 1) := by decide +kernel
theorem dX5_part_25 : decode cX5_part 25 = .ok (.aload_n 0, 1) := by decide +kernel
theorem dX5_part_26 : decode cX5_part 26 = .ok (.getfield 28, 3) := by decide +kernel
theorem dX5_part_29 : decode cX5_part 29 = .ok (.aload_n 0, 1) := by decide +kernel
theorem dX5_part_30 : decode cX5_part 30 = .ok (.getfield 45, 3) := by decide +kernel
theorem dX5_part_33 : decode cX5_part 33 = .ok (.iload_n 1, 1) := by decide +kernel
theorem dX5_part_34 : decode cX5_part 34 = .ok (.invokevirtual 215, 3) := by decide +kernel
theorem dX5_part_37 : decode cX5_part 37 = .ok (.ireturn, 1) := by decide +kernel
theorem dX5_gain_0 : decode cX5_gain 0 = .ok (.aload_n 0, 1) := by decide +kernel
theorem dX5_gain_1 : decode cX5_gain 1 = .ok (.getfield 28, 3) := by decide +kernel
theorem dX5_gain_4 : decode cX5_gain 4 = .ok (.iload_n 1, 1) := by decide +kernel
theorem dX5_gain_5 : decode cX5_gain 5 = .ok (.invokevirtual 101, 3) := by decide +kernel
theorem dX5_gain_8 : decode cX5_gain 8 = .ok (.ifCond .eq 31, 3) := by decide +kernel
theorem dX5_gain_11 : decode cX5_gain 11 = .ok (.aload_n 0, 1) := by decide +kernel
theorem dX5_gain_12 : decode cX5_gain 12 = .ok (.getfield 28, 3) := by decide +kernel
theorem dX5_gain_15 : decode cX5_gain 15 = .ok (.iload_n 2, 1) := by decide +kernel
theorem dX5_gain_16 : decode cX5_gain 16 = .ok (.invokevirtual 101, 3) := by decide +kernel
theorem dX5_gain_19 : decode cX5_gain 19 = .ok (.ifCond .eq 20, 3) := by decide +kernel
theorem dX5_gain_22 : decode cX5_gain 22 = .ok (.iload_n 1, 1) := by decide +kernel
theorem dX5_gain_23 : decode cX5_gain 23 = .ok (.iload_n 2, 1) := by decide +kernel
theorem dX5_gain_24 : decode cX5_gain 24 = .ok (.if_icmp .eq 15, 3) := by decide +kernel
theorem dX5_gain_27 : decode cX5_gain 27 = .ok (.aload_n 0, 1) := by decide +kernel
theorem dX5_gain_28 : decode cX5_gain 28 = .ok (.getfield 28, 3) := by decide +kernel
theorem dX5_gain_31 : decode cX5_gain 31 = .ok (.iload_n 1, 1) := by decide +kernel
theorem dX5_gain_32 : decode cX5_gain 32 = .ok (.invokevirtual 122, 3) := by decide +kernel
theorem dX5_gain_35 : decode cX5_gain 35 = .ok (.iconst (-1), 1) := by decide +kernel
theorem dX5_gain_36 : decode cX5_gain 36 = .ok (.if_icmp .ne 6, 3) := by decide +kernel
theorem dX5_gain_39 : decode cX5_gain 39 = .ok (.ldc 220, 2) := by decide +kernel
theorem dX5_gain_41 : decode cX5_gain 41 = .ok (.ireturn, 1) := by decide +kernel
theorem dX5_gain_42 : decode cX5_gain 42 = .ok (.aload_n 0, 1) := by decide +kernel
theorem dX5_gain_43 : decode cX5_gain 43 = .ok (.getfield 28, 3) := by decide +kernel
theorem dX5_gain_46 : decode cX5_gain 46 = .ok (.aload_n 0, 1) := by decide +kernel
theorem dX5_gain_47 : decode cX5_gain 47 = .ok (.getfield 45, 3) := by decide +kernel
theorem dX5_gain_50 : decode cX5_gain 50 = .ok (.aload_n 0, 1) := by decide +kernel
theorem dX5_gain_51 : decode cX5_gain 51 = .ok (.getfield 28, 3) := by decide +kernel
theorem dX5_gain_54 : decode cX5_gain 54 = .ok (.iload_n 1, 1) := by decide +kernel
theorem dX5_gain_55 : decode cX5_gain 55 = .ok (.invokevirtual 122, 3) := by decide +kernel
theorem dX5_gain_58 : decode cX5_gain 58 = .ok (.invokevirtual 215, 3) := by decide +kernel
theorem dX5_gain_61 : decode cX5_gain 61 = .ok (.istore_n 3, 1) := by decide +kernel
theorem dX5_gain_62 : decode cX5_gain 62 = .ok (.aload_n 0, 1) := by decide +kernel
theorem dX5_gain_63 : decode cX5_gain 63 = .ok (.getfield 28, 3) := by decide +kernel
theorem dX5_gain_66 : decode cX5_gain 66 = .ok (.iload_n 1, 1) := by decide +kernel
theorem dX5_gain_67 : decode cX5_gain 67 = .ok (.invokevirtual 221, 3) := by decide +kernel
theorem dX5_gain_70 : decode cX5_gain 70 = .ok (.istore 4, 2) := by decide +kernel
theorem dX5_gain_72 : decode cX5_gain 72 = .ok (.aload_n 0, 1) := by decide +kernel
theorem dX5_gain_73 : decode cX5_gain 73 = .ok (.getfield 28, 3) := by decide +kernel
theorem dX5_gain_76 : decode cX5_gain 76 = .ok (.iload_n 2, 1) := by decide +kernel
theorem dX5_gain_77 : decode cX5_gain 77 = .ok (.invokevirtual 221, 3) := by decide +kernel
theorem dX5_gain_80 : decode cX5_gain 80 = .ok (.istore 5, 2) := by decide +kernel
theorem dX5_gain_82 : decode cX5_gain 82 = .ok (.iload 5, 2) := by decide +kernel
theorem dX5_gain_84 : decode cX5_gain 84 = .ok (.iload_n 3, 1) := by decide +kernel
theorem dX5_gain_85 : decode cX5_gain 85 = .ok (.isub, 1) := by decide +kernel
theorem dX5_gain_86 : decode cX5_gain 86 = .ok (.iload 4, 2) := by decide +kernel
theorem dX5_gain_88 : decode cX5_gain 88 = .ok (.if_icmp .lt 7, 3) := by decide +kernel
theorem dX5_gain_91 : decode cX5_gain 91 = .ok (.iconst 1, 1) := by decide +kernel
theorem dX5_gain_92 : decode cX5_gain 92 = .ok (.goto 4, 3) := by decide +kernel
theorem dX5_gain_95 : decode cX5_gain 95 = .ok (.iconst 0, 1) := by decide +kernel
theorem dX5_gain_96 : decode cX5_gain 96 = .ok (.istore 6, 2) := by decide +kernel
theorem dX5_gain_98 : decode cX5_gain 98 = .ok (.iload 6, 2) := by decide +kernel
theorem dX5_gain_100 : decode cX5_gain 100 = .ok (.ifCond .eq 8, 3) := by decide +kernel
theorem dX5_gain_103 : decode cX5_gain 103 = .ok (.iload 4, 2) := by decide +kernel
theorem dX5_gain_105 : decode cX5_gain 105 = .ok (.goto 7, 3) := by decide +kernel
theorem dX5_gain_108 : decode cX5_gain 108 = .ok (.iload 5, 2) := by decide +kernel
theorem dX5_gain_110 : decode cX5_gain 110 = .ok (.iload_n 3, 1) := by decide +kernel
theorem dX5_gain_111 : decode cX5_gain 111 = .ok (.isub, 1) := by decide +kernel
theorem dX5_gain_112 : decode cX5_gain 112 = .ok (.istore 7, 2) := by decide +kernel
theorem dX5_gain_114 : decode cX5_gain 114 = .ok (.iload 4, 2) := by decide +kernel
theorem dX5_gain_116 : decode cX5_gain 116 = .ok (.iload_n 3, 1) := by decide +kernel
theorem dX5_gain_117 : decode cX5_gain 117 = .ok (.isub, 1) := by decide +kernel
theorem dX5_gain_118 : decode cX5_gain 118 = .ok (.istore 8, 2) := by decide +kernel
theorem dX5_gain_120 : decode cX5_gain 120 = .ok (.iload 7, 2) := by decide +kernel
theorem dX5_gain_122 : decode cX5_gain 122 = .ok (.iload 8, 2) := by decide +kernel
theorem dX5_gain_124 : decode cX5_gain 124 = .ok (.isub, 1) := by decide +kernel
theorem dX5_gain_125 : decode cX5_gain 125 = .ok (.ireturn, 1) := by decide +kernel
theorem dX5_ahead_0 : decode cX5_ahead 0 = .ok (.iload_n 1, 1) := by decide +kernel
theorem dX5_ahead_1 : decode cX5_ahead 1 = .ok (.ifCond .lt 9, 3) := by decide +kernel
theorem dX5_ahead_4 : decode cX5_ahead 4 = .ok (.iload_n 1, 1) := by decide +kernel
theorem dX5_ahead_5 : decode cX5_ahead 5 = .ok (.bipush 20, 2) := by decide +kernel
theorem dX5_ahead_7 : decode cX5_ahead 7 = .ok (.if_icmp .le 5, 3) := by decide +kernel
theorem dX5_ahead_10 : decode cX5_ahead 10 = .ok (.iconst (-1), 1) := by decide +kernel
theorem dX5_ahead_11 : decode cX5_ahead 11 = .ok (.ireturn, 1) := by decide +kernel
theorem dX5_ahead_12 : decode cX5_ahead 12 = .ok (.aload_n 0, 1) := by decide +kernel
theorem dX5_ahead_13 : decode cX5_ahead 13 = .ok (.getfield 32, 3) := by decide +kernel
theorem dX5_ahead_16 : decode cX5_ahead 16 = .ok (.aload_n 0, 1) := by decide +kernel
theorem dX5_ahead_17 : decode cX5_ahead 17 = .ok (.getfield 28, 3) := by decide +kernel
theorem dX5_ahead_20 : decode cX5_ahead 20 = .ok (.invokevirtual 224, 3) := by decide +kernel
theorem dX5_ahead_23 : decode cX5_ahead 23 = .ok (.aload_n 0, 1) := by decide +kernel
theorem dX5_ahead_24 : decode cX5_ahead 24 = .ok (.getfield 52, 3) := by decide +kernel
theorem dX5_ahead_27 : decode cX5_ahead 27 = .ok (.ifCond .eq 32, 3) := by decide +kernel
theorem dX5_ahead_30 : decode cX5_ahead 30 = .ok (.aload_n 0, 1) := by decide +kernel
theorem dX5_ahead_31 : decode cX5_ahead 31 = .ok (.getfield 38, 3) := by decide +kernel
theorem dX5_ahead_34 : decode cX5_ahead 34 = .ok (.aload_n 0, 1) := by decide +kernel
theorem dX5_ahead_35 : decode cX5_ahead 35 = .ok (.getfield 32, 3) := by decide +kernel
theorem dX5_ahead_38 : decode cX5_ahead 38 = .ok (.invokevirtual 227, 3) := by decide +kernel
theorem dX5_ahead_41 : decode cX5_ahead 41 = .ok (.aload_n 0, 1) := by decide +kernel
theorem dX5_ahead_42 : decode cX5_ahead 42 = .ok (.getfield 32, 3) := by decide +kernel
theorem dX5_ahead_45 : decode cX5_ahead 45 = .ok (.aload_n 0, 1) := by decide +kernel
theorem dX5_ahead_46 : decode cX5_ahead 46 = .ok (.getfield 45, 3) := by decide +kernel
theorem dX5_ahead_49 : decode cX5_ahead 49 = .ok (.aload_n 0, 1) := by decide +kernel
theorem dX5_ahead_50 : decode cX5_ahead 50 = .ok (.getfield 56, 3) := by decide +kernel
theorem dX5_ahead_53 : decode cX5_ahead 53 = .ok (.iconst 1, 1) := by decide +kernel
theorem dX5_ahead_54 : decode cX5_ahead 54 = .ok (.isub, 1) := by decide +kernel
theorem dX5_ahead_55 : decode cX5_ahead 55 = .ok (.invokevirtual 212, 3) := by decide +kernel
theorem dX5_ahead_58 : decode cX5_ahead 58 = .ok (.pop, 1) := by decide +kernel
theorem dX5_ahead_59 : decode cX5_ahead 59 = .ok (.iconst 0, 1) := by decide +kernel
theorem dX5_ahead_60 : decode cX5_ahead 60 = .ok (.istore_n 2, 1) := by decide +kernel
theorem dX5_ahead_61 : decode cX5_ahead 61 = .ok (.iload_n 2, 1) := by decide +kernel
theorem dX5_ahead_62 : decode cX5_ahead 62 = .ok (.iload_n 1, 1) := by decide +kernel
theorem dX5_ahead_63 : decode cX5_ahead 63 = .ok (.if_icmp .ge 45, 3) := by decide +kernel
theorem dX5_ahead_66 : decode cX5_ahead 66 = .ok (.aload_n 0, 1) := by decide +kernel
theorem dX5_ahead_67 : decode cX5_ahead 67 = .ok (.getfield 32, 3) := by decide +kernel
theorem dX5_ahead_70 : decode cX5_ahead 70 = .ok (.aload_n 0, 1) := by decide +kernel
theorem dX5_ahead_71 : decode cX5_ahead 71 = .ok (.getfield 45, 3) := by decide +kernel
theorem dX5_ahead_74 : decode cX5_ahead 74 = .ok (.aload_n 0, 1) := by decide +kernel
theorem dX5_ahead_75 : decode cX5_ahead 75 = .ok (.getfield 56, 3) := by decide +kernel
theorem dX5_ahead_78 : decode cX5_ahead 78 = .ok (.iload_n 2, 1) := by decide +kernel
theorem dX5_ahead_79 : decode cX5_ahead 79 = .ok (.iadd, 1) := by decide +kernel
theorem dX5_ahead_80 : decode cX5_ahead 80 = .ok (.invokevirtual 152, 3) := by decide +kernel
theorem dX5_ahead_83 : decode cX5_ahead 83 = .ok (.pop, 1) := by decide +kernel
theorem dX5_ahead_84 : decode cX5_ahead 84 = .ok (.aload_n 0, 1) := by decide +kernel
theorem dX5_ahead_85 : decode cX5_ahead 85 = .ok (.getfield 32, 3) := by decide +kernel
theorem dX5_ahead_88 : decode cX5_ahead 88 = .ok (.aload_n 0, 1) := by decide +kernel
theorem dX5_ahead_89 : decode cX5_ahead 89 = .ok (.getfield 45, 3) := by decide +kernel
theorem dX5_ahead_92 : decode cX5_ahead 92 = .ok (.aload_n 0, 1) := by decide +kernel
theorem dX5_ahead_93 : decode cX5_ahead 93 = .ok (.getfield 56, 3) := by decide +kernel
theorem dX5_ahead_96 : decode cX5_ahead 96 = .ok (.iload_n 2, 1) := by decide +kernel
theorem dX5_ahead_97 : decode cX5_ahead 97 = .ok (.iadd, 1) := by decide +kernel
theorem dX5_ahead_98 : decode cX5_ahead 98 = .ok (.invokevirtual 212, 3) := by decide +kernel
theorem dX5_ahead_101 : decode cX5_ahead 101 = .ok (.pop, 1) := by decide +kernel
theorem dX5_ahead_102 : decode cX5_ahead 102 = .ok (.iinc 2 1, 3) := by decide +kernel
theorem dX5_ahead_105 : decode cX5_ahead 105 = .ok (.goto (-44), 3) := by decide +kernel
theorem dX5_ahead_108 : decode cX5_ahead 108 = .ok (.aload_n 0, 1) := by decide +kernel
theorem dX5_ahead_109 : decode cX5_ahead 109 = .ok (.getfield 32, 3) := by decide +kernel
theorem dX5_ahead_112 : decode cX5_ahead 112 = .ok (.aload_n 0, 1) := by decide +kernel
theorem dX5_ahead_113 : decode cX5_ahead 113 = .ok (.getfield 45, 3) := by decide +kernel
theorem dX5_ahead_116 : decode cX5_ahead 116 = .ok (.aload_n 0, 1) := by decide +kernel
theorem dX5_ahead_117 : decode cX5_ahead 117 = .ok (.getfield 56, 3) := by decide +kernel
theorem dX5_ahead_120 : decode cX5_ahead 120 = .ok (.iload_n 1, 1) := by decide +kernel
theorem dX5_ahead_121 : decode cX5_ahead 121 = .ok (.iadd, 1) := by decide +kernel
theorem dX5_ahead_122 : decode cX5_ahead 122 = .ok (.invokevirtual 152, 3) := by decide +kernel
theorem dX5_ahead_125 : decode cX5_ahead 125 = .ok (.ireturn, 1) := by decide +kernel
theorem dX5_count_0 : decode cX5_count 0 = .ok (.iload_n 1, 1) := by decide +kernel
theorem dX5_count_1 : decode cX5_count 1 = .ok (.tableswitch 89 0 5 #[39, 47, 55, 60, 76, 84], 39) := by decide +kernel
theorem dX5_count_40 : decode cX5_count 40 = .ok (.aload_n 0, 1) := by decide +kernel
theorem dX5_count_41 : decode cX5_count 41 = .ok (.getfield 28, 3) := by decide +kernel
theorem dX5_count_44 : decode cX5_count 44 = .ok (.invokevirtual 230, 3) := by decide +kernel
theorem dX5_count_47 : decode cX5_count 47 = .ok (.ireturn, 1) := by decide +kernel
theorem dX5_count_48 : decode cX5_count 48 = .ok (.aload_n 0, 1) := by decide +kernel
theorem dX5_count_49 : decode cX5_count 49 = .ok (.getfield 45, 3) := by decide +kernel
theorem dX5_count_52 : decode cX5_count 52 = .ok (.invokevirtual 85, 3) := by decide +kernel
theorem dX5_count_55 : decode cX5_count 55 = .ok (.ireturn, 1) := by decide +kernel
theorem dX5_count_56 : decode cX5_count 56 = .ok (.aload_n 0, 1) := by decide +kernel
theorem dX5_count_57 : decode cX5_count 57 = .ok (.getfield 56, 3) := by decide +kernel
theorem dX5_count_60 : decode cX5_count 60 = .ok (.ireturn, 1) := by decide +kernel
theorem dX5_count_61 : decode cX5_count 61 = .ok (.aload_n 0, 1) := by decide +kernel
theorem dX5_count_62 : decode cX5_count 62 = .ok (.getfield 52, 3) := by decide +kernel
theorem dX5_count_65 : decode cX5_count 65 = .ok (.ifCond .eq 10, 3) := by decide +kernel
theorem dX5_count_68 : decode cX5_count 68 = .ok (.aload_n 0, 1) := by decide +kernel
theorem dX5_count_69 : decode cX5_count 69 = .ok (.getfield 60, 3) := by decide +kernel
theorem dX5_count_72 : decode cX5_count 72 = .ok (.goto 4, 3) := by decide +kernel
theorem dX5_count_75 : decode cX5_count 75 = .ok (.iconst (-1), 1) := by decide +kernel
theorem dX5_count_76 : decode cX5_count 76 = .ok (.ireturn, 1) := by decide +kernel
theorem dX5_count_77 : decode cX5_count 77 = .ok (.aload_n 0, 1) := by decide +kernel
theorem dX5_count_78 : decode cX5_count 78 = .ok (.getfield 38, 3) := by decide +kernel
theorem dX5_count_81 : decode cX5_count 81 = .ok (.invokevirtual 233, 3) := by decide +kernel
theorem dX5_count_84 : decode cX5_count 84 = .ok (.ireturn, 1) := by decide +kernel
theorem dX5_count_85 : decode cX5_count 85 = .ok (.aload_n 0, 1) := by decide +kernel
theorem dX5_count_86 : decode cX5_count 86 = .ok (.getfield 63, 3) := by decide +kernel
theorem dX5_count_89 : decode cX5_count 89 = .ok (.ireturn, 1) := by decide +kernel
theorem dX5_count_90 : decode cX5_count 90 = .ok (.iconst (-1), 1) := by decide +kernel
theorem dX5_count_91 : decode cX5_count 91 = .ok (.ireturn, 1) := by decide +kernel
theorem dX5_areCoins_0 : decode cX5_areCoins 0 = .ok (.iload_n 0, 1) := by decide +kernel
theorem dX5_areCoins_1 : decode cX5_areCoins 1 = .ok (.ifCond .lt 13, 3) := by decide +kernel
theorem dX5_areCoins_4 : decode cX5_areCoins 4 = .ok (.iload_n 0, 1) := by decide +kernel
theorem dX5_areCoins_5 : decode cX5_areCoins 5 = .ok (.ldc 234, 2) := by decide +kernel
theorem dX5_areCoins_7 : decode cX5_areCoins 7 = .ok (.if_icmp .gt 7, 3) := by decide +kernel
theorem dX5_areCoins_10 : decode cX5_areCoins 10 = .ok (.iconst 1, 1) := by decide +kernel
theorem dX5_areCoins_11 : decode cX5_areCoins 11 = .ok (.goto 4, 3) := by decide +kernel
theorem dX5_areCoins_14 : decode cX5_areCoins 14 = .ok (.iconst 0, 1) := by decide +kernel
theorem dX5_areCoins_15 : decode cX5_areCoins 15 = .ok (.ireturn, 1) := by decide +kernel
theorem dX5_isFitNow_0 : decode cX5_isFitNow 0 = .ok (.aload_n 0, 1) := by decide +kernel
theorem dX5_isFitNow_1 : decode cX5_isFitNow 1 = .ok (.getfield 52, 3) := by decide +kernel
theorem dX5_isFitNow_4 : decode cX5_isFitNow 4 = .ok (.ifCond .eq 28, 3) := by decide +kernel
theorem dX5_isFitNow_7 : decode cX5_isFitNow 7 = .ok (.aload_n 0, 1) := by decide +kernel
theorem dX5_isFitNow_8 : decode cX5_isFitNow 8 = .ok (.getfield 28, 3) := by decide +kernel
theorem dX5_isFitNow_11 : decode cX5_isFitNow 11 = .ok (.iload_n 1, 1) := by decide +kernel
theorem dX5_isFitNow_12 : decode cX5_isFitNow 12 = .ok (.aload_n 0, 1) := by decide +kernel
theorem dX5_isFitNow_13 : decode cX5_isFitNow 13 = .ok (.getfield 45, 3) := by decide +kernel
theorem dX5_isFitNow_16 : decode cX5_isFitNow 16 = .ok (.aload_n 0, 1) := by decide +kernel
theorem dX5_isFitNow_17 : decode cX5_isFitNow 17 = .ok (.getfield 56, 3) := by decide +kernel
theorem dX5_isFitNow_20 : decode cX5_isFitNow 20 = .ok (.iconst 1, 1) := by decide +kernel
theorem dX5_isFitNow_21 : decode cX5_isFitNow 21 = .ok (.isub, 1) := by decide +kernel
theorem dX5_isFitNow_22 : decode cX5_isFitNow 22 = .ok (.invokevirtual 235, 3) := by decide +kernel
theorem dX5_isFitNow_25 : decode cX5_isFitNow 25 = .ok (.ifCond .eq 7, 3) := by decide +kernel
theorem dX5_isFitNow_28 : decode cX5_isFitNow 28 = .ok (.iconst 1, 1) := by decide +kernel
theorem dX5_isFitNow_29 : decode cX5_isFitNow 29 = .ok (.goto 4, 3) := by decide +kernel
theorem dX5_isFitNow_32 : decode cX5_isFitNow 32 = .ok (.iconst 0, 1) := by decide +kernel
theorem dX5_isFitNow_33 : decode cX5_isFitNow 33 = .ok (.ireturn, 1) := by decide +kernel
theorem dX6_init_0 : decode cX6_init 0 = .ok (.aload_n 0, 1) := by decide +kernel
theorem dX6_init_1 : decode cX6_init 1 = .ok (.invokespecial 1, 3) := by decide +kernel
theorem dX6_init_4 : decode cX6_init 4 = .ok (.aload_n 0, 1) := by decide +kernel
theorem dX6_init_5 : decode cX6_init 5 = .ok (.sipush 600, 3) := by decide +kernel
theorem dX6_init_8 : decode cX6_init 8 = .ok (.newarray .int, 2) := by decide +kernel
theorem dX6_init_10 : decode cX6_init 10 = .ok (.putfield 7, 3) := by decide +kernel
theorem dX6_init_13 : decode cX6_init 13 = .ok (.aload_n 0, 1) := by decide +kernel
theorem dX6_init_14 : decode cX6_init 14 = .ok (.bipush 12, 2) := by decide +kernel
theorem dX6_init_16 : decode cX6_init 16 = .ok (.newarray .int, 2) := by decide +kernel
theorem dX6_init_18 : decode cX6_init 18 = .ok (.putfield 13, 3) := by decide +kernel
theorem dX6_init_21 : decode cX6_init 21 = .ok (.aload_n 0, 1) := by decide +kernel
theorem dX6_init_22 : decode cX6_init 22 = .ok (.bipush 12, 2) := by decide +kernel
theorem dX6_init_24 : decode cX6_init 24 = .ok (.newarray .int, 2) := by decide +kernel
theorem dX6_init_26 : decode cX6_init 26 = .ok (.putfield 16, 3) := by decide +kernel
theorem dX6_init_29 : decode cX6_init 29 = .ok (.aload_n 0, 1) := by decide +kernel
theorem dX6_init_30 : decode cX6_init 30 = .ok (.bipush 8, 2) := by decide +kernel
theorem dX6_init_32 : decode cX6_init 32 = .ok (.newarray .int, 2) := by decide +kernel
theorem dX6_init_34 : decode cX6_init 34 = .ok (.putfield 19, 3) := by decide +kernel
theorem dX6_init_37 : decode cX6_init 37 = .ok (.aload_n 0, 1) := by decide +kernel
theorem dX6_init_38 : decode cX6_init 38 = .ok (.bipush 24, 2) := by decide +kernel
theorem dX6_init_40 : decode cX6_init 40 = .ok (.newarray .int, 2) := by decide +kernel
theorem dX6_init_42 : decode cX6_init 42 = .ok (.putfield 22, 3) := by decide +kernel
theorem dX6_init_45 : decode cX6_init 45 = .ok (.aload_n 0, 1) := by decide +kernel
theorem dX6_init_46 : decode cX6_init 46 = .ok (.iconst (-1), 1) := by decide +kernel
theorem dX6_init_47 : decode cX6_init 47 = .ok (.putfield 25, 3) := by decide +kernel
theorem dX6_init_50 : decode cX6_init 50 = .ok (.aload_n 0, 1) := by decide +kernel
theorem dX6_init_51 : decode cX6_init 51 = .ok (.bipush 24, 2) := by decide +kernel
theorem dX6_init_53 : decode cX6_init 53 = .ok (.newarray .int, 2) := by decide +kernel
theorem dX6_init_55 : decode cX6_init 55 = .ok (.putfield 29, 3) := by decide +kernel
theorem dX6_init_58 : decode cX6_init 58 = .ok (.aload_n 0, 1) := by decide +kernel
theorem dX6_init_59 : decode cX6_init 59 = .ok (.bipush 24, 2) := by decide +kernel
theorem dX6_init_61 : decode cX6_init 61 = .ok (.newarray .int, 2) := by decide +kernel
theorem dX6_init_63 : decode cX6_init 63 = .ok (.putfield 32, 3) := by decide +kernel
theorem dX6_init_66 : decode cX6_init 66 = .ok (.aload_n 0, 1) := by decide +kernel
theorem dX6_init_67 : decode cX6_init 67 = .ok (.bipush 24, 2) := by decide +kernel
theorem dX6_init_69 : decode cX6_init 69 = .ok (.newarray .int, 2) := by decide +kernel
theorem dX6_init_71 : decode cX6_init 71 = .ok (.putfield 35, 3) := by decide +kernel
theorem dX6_init_74 : decode cX6_init 74 = .ok (.aload_n 0, 1) := by decide +kernel
theorem dX6_init_75 : decode cX6_init 75 = .ok (.bipush 12, 2) := by decide +kernel
theorem dX6_init_77 : decode cX6_init 77 = .ok (.newarray .int, 2) := by decide +kernel
theorem dX6_init_79 : decode cX6_init 79 = .ok (.putfield 38, 3) := by decide +kernel
theorem dX6_init_82 : decode cX6_init 82 = .ok (.aload_n 0, 1) := by decide +kernel
theorem dX6_init_83 : decode cX6_init 83 = .ok (.bipush 48, 2) := by decide +kernel
theorem dX6_init_85 : decode cX6_init 85 = .ok (.newarray .int, 2) := by decide +kernel
theorem dX6_init_87 : decode cX6_init 87 = .ok (.putfield 41, 3) := by decide +kernel
theorem dX6_init_90 : decode cX6_init 90 = .ok (.aload_n 0, 1) := by decide +kernel
theorem dX6_init_91 : decode cX6_init 91 = .ok (.sipush 288, 3) := by decide +kernel
theorem dX6_init_94 : decode cX6_init 94 = .ok (.newarray .boolean, 2) := by decide +kernel
theorem dX6_init_96 : decode cX6_init 96 = .ok (.putfield 44, 3) := by decide +kernel
theorem dX6_init_99 : decode cX6_init 99 = .ok (.aload_n 0, 1) := by decide +kernel
theorem dX6_init_100 : decode cX6_init 100 = .ok (.bipush 40, 2) := by decide +kernel
theorem dX6_init_102 : decode cX6_init 102 = .ok (.newarray .int, 2) := by decide +kernel
theorem dX6_init_104 : decode cX6_init 104 = .ok (.putfield 48, 3) := by decide +kernel
theorem dX6_init_107 : decode cX6_init 107 = .ok (.aload_n 0, 1) := by decide +kernel
theorem dX6_init_108 : decode cX6_init 108 = .ok (.bipush 40, 2) := by decide +kernel
theorem dX6_init_110 : decode cX6_init 110 = .ok (.newarray .int, 2) := by decide +kernel
theorem dX6_init_112 : decode cX6_init 112 = .ok (.putfield 51, 3) := by decide +kernel
theorem dX6_init_115 : decode cX6_init 115 = .ok (.aload_n 0, 1) := by decide +kernel
theorem dX6_init_116 : decode cX6_init 116 = .ok (.bipush 40, 2) := by decide +kernel
theorem dX6_init_118 : decode cX6_init 118 = .ok (.newarray .int, 2) := by decide +kernel
theorem dX6_init_120 : decode cX6_init 120 = .ok (.putfield 54, 3) := by decide +kernel
theorem dX6_init_123 : decode cX6_init 123 = .ok (.aload_n 0, 1) := by decide +kernel
theorem dX6_init_124 : decode cX6_init 124 = .ok (.bipush 40, 2) := by decide +kernel
theorem dX6_init_126 : decode cX6_init 126 = .ok (.newarray .int, 2) := by decide +kernel
theorem dX6_init_128 : decode cX6_init 128 = .ok (.putfield 57, 3) := by decide +kernel
theorem dX6_init_131 : decode cX6_init 131 = .ok (.aload_n 0, 1) := by decide +kernel
