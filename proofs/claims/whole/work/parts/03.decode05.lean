theorem dX5_dateOfCount_5 : decode cX5_dateOfCount 5 = .ok (.aload_n 0, 1) := by decide +kernel
theorem dX5_dateOfCount_6 : decode cX5_dateOfCount 6 = .ok (.iload_n 2, 1) := by decide +kernel
theorem dX5_dateOfCount_7 : decode cX5_dateOfCount 7 = .ok (.iconst 1, 1) := by decide +kernel
theorem dX5_dateOfCount_8 : decode cX5_dateOfCount 8 = .ok (.iadd, 1) := by decide +kernel
theorem dX5_dateOfCount_9 : decode cX5_dateOfCount 9 = .ok (.invokevirtual 151, 3) := by decide +kernel
theorem dX5_dateOfCount_12 : decode cX5_dateOfCount 12 = .ok (.iload_n 1, 1) := by decide +kernel
theorem dX5_dateOfCount_13 : decode cX5_dateOfCount 13 = .ok (.if_icmp .gt 9, 3) := by decide +kernel
theorem dX5_dateOfCount_16 : decode cX5_dateOfCount 16 = .ok (.iinc 2 1, 3) := by decide +kernel
theorem dX5_dateOfCount_19 : decode cX5_dateOfCount 19 = .ok (.goto (-14), 3) := by decide +kernel
theorem dX5_dateOfCount_22 : decode cX5_dateOfCount 22 = .ok (.sipush 1000, 3) := by decide +kernel
theorem dX5_dateOfCount_25 : decode cX5_dateOfCount 25 = .ok (.iload_n 2, 1) := by decide +kernel
theorem dX5_dateOfCount_26 : decode cX5_dateOfCount 26 = .ok (.imul, 1) := by decide +kernel
theorem dX5_dateOfCount_27 : decode cX5_dateOfCount 27 = .ok (.iload_n 1, 1) := by decide +kernel
theorem dX5_dateOfCount_28 : decode cX5_dateOfCount 28 = .ok (.iadd, 1) := by decide +kernel
theorem dX5_dateOfCount_29 : decode cX5_dateOfCount 29 = .ok (.aload_n 0, 1) := by decide +kernel
theorem dX5_dateOfCount_30 : decode cX5_dateOfCount 30 = .ok (.iload_n 2, 1) := by decide +kernel
theorem dX5_dateOfCount_31 : decode cX5_dateOfCount 31 = .ok (.invokevirtual 151, 3) := by decide +kernel
theorem dX5_dateOfCount_34 : decode cX5_dateOfCount 34 = .ok (.isub, 1) := by decide +kernel
theorem dX5_dateOfCount_35 : decode cX5_dateOfCount 35 = .ok (.ireturn, 1) := by decide +kernel
theorem dX5_dateOfDay_0 : decode cX5_dateOfDay 0 = .ok (.aload_n 0, 1) := by decide +kernel
theorem dX5_dateOfDay_1 : decode cX5_dateOfDay 1 = .ok (.aload_n 0, 1) := by decide +kernel
theorem dX5_dateOfDay_2 : decode cX5_dateOfDay 2 = .ok (.iload_n 1, 1) := by decide +kernel
theorem dX5_dateOfDay_3 : decode cX5_dateOfDay 3 = .ok (.invokevirtual 145, 3) := by decide +kernel
theorem dX5_dateOfDay_6 : decode cX5_dateOfDay 6 = .ok (.invokevirtual 154, 3) := by decide +kernel
theorem dX5_dateOfDay_9 : decode cX5_dateOfDay 9 = .ok (.ireturn, 1) := by decide +kernel
theorem dX5_dateIn_0 : decode cX5_dateIn 0 = .ok (.aload_n 0, 1) := by decide +kernel
theorem dX5_dateIn_1 : decode cX5_dateIn 1 = .ok (.iload_n 1, 1) := by decide +kernel
theorem dX5_dateIn_2 : decode cX5_dateIn 2 = .ok (.invokevirtual 141, 3) := by decide +kernel
theorem dX5_dateIn_5 : decode cX5_dateIn 5 = .ok (.aload_n 0, 1) := by decide +kernel
theorem dX5_dateIn_6 : decode cX5_dateIn 6 = .ok (.iload_n 2, 1) := by decide +kernel
theorem dX5_dateIn_7 : decode cX5_dateIn 7 = .ok (.invokevirtual 157, 3) := by decide +kernel
theorem dX5_dateIn_10 : decode cX5_dateIn 10 = .ok (.ireturn, 1) := by decide +kernel
theorem dX5_dayOfDate_0 : decode cX5_dayOfDate 0 = .ok (.iload_n 1, 1) := by decide +kernel
theorem dX5_dayOfDate_1 : decode cX5_dayOfDate 1 = .ok (.sipush 1000, 3) := by decide +kernel
theorem dX5_dayOfDate_4 : decode cX5_dayOfDate 4 = .ok (.idiv, 1) := by decide +kernel
theorem dX5_dayOfDate_5 : decode cX5_dayOfDate 5 = .ok (.istore_n 2, 1) := by decide +kernel
theorem dX5_dayOfDate_6 : decode cX5_dayOfDate 6 = .ok (.iload_n 1, 1) := by decide +kernel
theorem dX5_dayOfDate_7 : decode cX5_dayOfDate 7 = .ok (.sipush 1000, 3) := by decide +kernel
theorem dX5_dayOfDate_10 : decode cX5_dayOfDate 10 = .ok (.irem, 1) := by decide +kernel
theorem dX5_dayOfDate_11 : decode cX5_dayOfDate 11 = .ok (.istore_n 3, 1) := by decide +kernel
theorem dX5_dayOfDate_12 : decode cX5_dayOfDate 12 = .ok (.iload_n 1, 1) := by decide +kernel
theorem dX5_dayOfDate_13 : decode cX5_dayOfDate 13 = .ok (.ifCond .lt 19, 3) := by decide +kernel
theorem dX5_dayOfDate_16 : decode cX5_dayOfDate 16 = .ok (.iload_n 2, 1) := by decide +kernel
theorem dX5_dayOfDate_17 : decode cX5_dayOfDate 17 = .ok (.sipush 300, 3) := by decide +kernel
theorem dX5_dayOfDate_20 : decode cX5_dayOfDate 20 = .ok (.if_icmp .gt 12, 3) := by decide +kernel
theorem dX5_dayOfDate_23 : decode cX5_dayOfDate 23 = .ok (.iload_n 3, 1) := by decide +kernel
theorem dX5_dayOfDate_24 : decode cX5_dayOfDate 24 = .ok (.aload_n 0, 1) := by decide +kernel
theorem dX5_dayOfDate_25 : decode cX5_dayOfDate 25 = .ok (.iload_n 2, 1) := by decide +kernel
theorem dX5_dayOfDate_26 : decode cX5_dayOfDate 26 = .ok (.invokevirtual 160, 3) := by decide +kernel
theorem dX5_dayOfDate_29 : decode cX5_dayOfDate 29 = .ok (.if_icmp .lt 6, 3) := by decide +kernel
theorem dX5_dayOfDate_32 : decode cX5_dayOfDate 32 = .ok (.bipush (-9), 2) := by decide +kernel
theorem dX5_dayOfDate_34 : decode cX5_dayOfDate 34 = .ok (.ireturn, 1) := by decide +kernel
theorem dX5_dayOfDate_35 : decode cX5_dayOfDate 35 = .ok (.aload_n 0, 1) := by decide +kernel
theorem dX5_dayOfDate_36 : decode cX5_dayOfDate 36 = .ok (.iload_n 2, 1) := by decide +kernel
theorem dX5_dayOfDate_37 : decode cX5_dayOfDate 37 = .ok (.invokevirtual 151, 3) := by decide +kernel
theorem dX5_dayOfDate_40 : decode cX5_dayOfDate 40 = .ok (.iload_n 3, 1) := by decide +kernel
theorem dX5_dayOfDate_41 : decode cX5_dayOfDate 41 = .ok (.iadd, 1) := by decide +kernel
theorem dX5_dayOfDate_42 : decode cX5_dayOfDate 42 = .ok (.istore 4, 2) := by decide +kernel
theorem dX5_dayOfDate_44 : decode cX5_dayOfDate 44 = .ok (.iload 4, 2) := by decide +kernel
theorem dX5_dayOfDate_46 : decode cX5_dayOfDate 46 = .ok (.istore 5, 2) := by decide +kernel
theorem dX5_dayOfDate_48 : decode cX5_dayOfDate 48 = .ok (.aload_n 0, 1) := by decide +kernel
theorem dX5_dayOfDate_49 : decode cX5_dayOfDate 49 = .ok (.invokevirtual 148, 3) := by decide +kernel
theorem dX5_dayOfDate_52 : decode cX5_dayOfDate 52 = .ok (.ifCond .eq 79, 3) := by decide +kernel
theorem dX5_dayOfDate_55 : decode cX5_dayOfDate 55 = .ok (.iload 4, 2) := by decide +kernel
theorem dX5_dayOfDate_57 : decode cX5_dayOfDate 57 = .ok (.aload_n 0, 1) := by decide +kernel
theorem dX5_dayOfDate_58 : decode cX5_dayOfDate 58 = .ok (.getfield 131, 3) := by decide +kernel
theorem dX5_dayOfDate_61 : decode cX5_dayOfDate 61 = .ok (.if_icmp .lt 70, 3) := by decide +kernel
theorem dX5_dayOfDate_64 : decode cX5_dayOfDate 64 = .ok (.iload 4, 2) := by decide +kernel
theorem dX5_dayOfDate_66 : decode cX5_dayOfDate 66 = .ok (.aload_n 0, 1) := by decide +kernel
theorem dX5_dayOfDate_67 : decode cX5_dayOfDate 67 = .ok (.getfield 134, 3) := by decide +kernel
theorem dX5_dayOfDate_70 : decode cX5_dayOfDate 70 = .ok (.isub, 1) := by decide +kernel
theorem dX5_dayOfDate_71 : decode cX5_dayOfDate 71 = .ok (.istore 5, 2) := by decide +kernel
theorem dX5_dayOfDate_73 : decode cX5_dayOfDate 73 = .ok (.iload 5, 2) := by decide +kernel
theorem dX5_dayOfDate_75 : decode cX5_dayOfDate 75 = .ok (.aload_n 0, 1) := by decide +kernel
theorem dX5_dayOfDate_76 : decode cX5_dayOfDate 76 = .ok (.getfield 131, 3) := by decide +kernel
theorem dX5_dayOfDate_79 : decode cX5_dayOfDate 79 = .ok (.if_icmp .ge 6, 3) := by decide +kernel
theorem dX5_dayOfDate_82 : decode cX5_dayOfDate 82 = .ok (.bipush (-9), 2) := by decide +kernel
theorem dX5_dayOfDate_84 : decode cX5_dayOfDate 84 = .ok (.ireturn, 1) := by decide +kernel
theorem dX5_dayOfDate_85 : decode cX5_dayOfDate 85 = .ok (.aload_n 0, 1) := by decide +kernel
theorem dX5_dayOfDate_86 : decode cX5_dayOfDate 86 = .ok (.getfield 125, 3) := by decide +kernel
theorem dX5_dayOfDate_89 : decode cX5_dayOfDate 89 = .ok (.iconst 5, 1) := by decide +kernel
theorem dX5_dayOfDate_90 : decode cX5_dayOfDate 90 = .ok (.if_icmp .ne 41, 3) := by decide +kernel
theorem dX5_dayOfDate_93 : decode cX5_dayOfDate 93 = .ok (.iload 5, 2) := by decide +kernel
theorem dX5_dayOfDate_95 : decode cX5_dayOfDate 95 = .ok (.aload_n 0, 1) := by decide +kernel
theorem dX5_dayOfDate_96 : decode cX5_dayOfDate 96 = .ok (.getfield 131, 3) := by decide +kernel
theorem dX5_dayOfDate_99 : decode cX5_dayOfDate 99 = .ok (.sipush 1000, 3) := by decide +kernel
theorem dX5_dayOfDate_102 : decode cX5_dayOfDate 102 = .ok (.iadd, 1) := by decide +kernel
theorem dX5_dayOfDate_103 : decode cX5_dayOfDate 103 = .ok (.if_icmp .lt 28, 3) := by decide +kernel
theorem dX5_dayOfDate_106 : decode cX5_dayOfDate 106 = .ok (.iload 5, 2) := by decide +kernel
theorem dX5_dayOfDate_108 : decode cX5_dayOfDate 108 = .ok (.aload_n 0, 1) := by decide +kernel
theorem dX5_dayOfDate_109 : decode cX5_dayOfDate 109 = .ok (.getfield 134, 3) := by decide +kernel
theorem dX5_dayOfDate_112 : decode cX5_dayOfDate 112 = .ok (.isub, 1) := by decide +kernel
theorem dX5_dayOfDate_113 : decode cX5_dayOfDate 113 = .ok (.istore 5, 2) := by decide +kernel
theorem dX5_dayOfDate_115 : decode cX5_dayOfDate 115 = .ok (.iload 5, 2) := by decide +kernel
theorem dX5_dayOfDate_117 : decode cX5_dayOfDate 117 = .ok (.aload_n 0, 1) := by decide +kernel
theorem dX5_dayOfDate_118 : decode cX5_dayOfDate 118 = .ok (.getfield 131, 3) := by decide +kernel
theorem dX5_dayOfDate_121 : decode cX5_dayOfDate 121 = .ok (.sipush 1000, 3) := by decide +kernel
theorem dX5_dayOfDate_124 : decode cX5_dayOfDate 124 = .ok (.iadd, 1) := by decide +kernel
theorem dX5_dayOfDate_125 : decode cX5_dayOfDate 125 = .ok (.if_icmp .ge 6, 3) := by decide +kernel
theorem dX5_dayOfDate_128 : decode cX5_dayOfDate 128 = .ok (.bipush (-9), 2) := by decide +kernel
theorem dX5_dayOfDate_130 : decode cX5_dayOfDate 130 = .ok (.ireturn, 1) := by decide +kernel
theorem dX5_dayOfDate_131 : decode cX5_dayOfDate 131 = .ok (.iload 5, 2) := by decide +kernel
theorem dX5_dayOfDate_133 : decode cX5_dayOfDate 133 = .ok (.sipush 19999, 3) := by decide +kernel
theorem dX5_dayOfDate_136 : decode cX5_dayOfDate 136 = .ok (.if_icmp .gt 8, 3) := by decide +kernel
theorem dX5_dayOfDate_139 : decode cX5_dayOfDate 139 = .ok (.iload 5, 2) := by decide +kernel
theorem dX5_dayOfDate_141 : decode cX5_dayOfDate 141 = .ok (.goto 5, 3) := by decide +kernel
theorem dX5_dayOfDate_144 : decode cX5_dayOfDate 144 = .ok (.bipush (-9), 2) := by decide +kernel
theorem dX5_dayOfDate_146 : decode cX5_dayOfDate 146 = .ok (.ireturn, 1) := by decide +kernel
theorem dX5_dayIn_0 : decode cX5_dayIn 0 = .ok (.aload_n 0, 1) := by decide +kernel
theorem dX5_dayIn_1 : decode cX5_dayIn 1 = .ok (.iload_n 1, 1) := by decide +kernel
theorem dX5_dayIn_2 : decode cX5_dayIn 2 = .ok (.invokevirtual 141, 3) := by decide +kernel
theorem dX5_dayIn_5 : decode cX5_dayIn 5 = .ok (.aload_n 0, 1) := by decide +kernel
theorem dX5_dayIn_6 : decode cX5_dayIn 6 = .ok (.iload_n 2, 1) := by decide +kernel
theorem dX5_dayIn_7 : decode cX5_dayIn 7 = .ok (.invokevirtual 163, 3) := by decide +kernel
theorem dX5_dayIn_10 : decode cX5_dayIn 10 = .ok (.ireturn, 1) := by decide +kernel
theorem dX5_townOf_0 : decode cX5_townOf 0 = .ok (.iload_n 2, 1) := by decide +kernel
theorem dX5_townOf_1 : decode cX5_townOf 1 = .ok (.ifCond .ne 12, 3) := by decide +kernel
theorem dX5_townOf_4 : decode cX5_townOf 4 = .ok (.aload_n 0, 1) := by decide +kernel
theorem dX5_townOf_5 : decode cX5_townOf 5 = .ok (.getfield 32, 3) := by decide +kernel
theorem dX5_townOf_8 : decode cX5_townOf 8 = .ok (.iload_n 1, 1) := by decide +kernel
theorem dX5_townOf_9 : decode cX5_townOf 9 = .ok (.iaload, 1) := by decide +kernel
theorem dX5_townOf_10 : decode cX5_townOf 10 = .ok (.goto 54, 3) := by decide +kernel
theorem dX5_townOf_13 : decode cX5_townOf 13 = .ok (.iload_n 2, 1) := by decide +kernel
theorem dX5_townOf_14 : decode cX5_townOf 14 = .ok (.iconst 1, 1) := by decide +kernel
theorem dX5_townOf_15 : decode cX5_townOf 15 = .ok (.if_icmp .ne 12, 3) := by decide +kernel
theorem dX5_townOf_18 : decode cX5_townOf 18 = .ok (.aload_n 0, 1) := by decide +kernel
theorem dX5_townOf_19 : decode cX5_townOf 19 = .ok (.getfield 35, 3) := by decide +kernel
theorem dX5_townOf_22 : decode cX5_townOf 22 = .ok (.iload_n 1, 1) := by decide +kernel
theorem dX5_townOf_23 : decode cX5_townOf 23 = .ok (.iaload, 1) := by decide +kernel
theorem dX5_townOf_24 : decode cX5_townOf 24 = .ok (.goto 40, 3) := by decide +kernel
theorem dX5_townOf_27 : decode cX5_townOf 27 = .ok (.iload_n 2, 1) := by decide +kernel
theorem dX5_townOf_28 : decode cX5_townOf 28 = .ok (.iconst 2, 1) := by decide +kernel
theorem dX5_townOf_29 : decode cX5_townOf 29 = .ok (.if_icmp .ne 12, 3) := by decide +kernel
theorem dX5_townOf_32 : decode cX5_townOf 32 = .ok (.aload_n 0, 1) := by decide +kernel
theorem dX5_townOf_33 : decode cX5_townOf 33 = .ok (.getfield 38, 3) := by decide +kernel
theorem dX5_townOf_36 : decode cX5_townOf 36 = .ok (.iload_n 1, 1) := by decide +kernel
theorem dX5_townOf_37 : decode cX5_townOf 37 = .ok (.iaload, 1) := by decide +kernel
theorem dX5_townOf_38 : decode cX5_townOf 38 = .ok (.goto 26, 3) := by decide +kernel
theorem dX5_townOf_41 : decode cX5_townOf 41 = .ok (.iload_n 2, 1) := by decide +kernel
theorem dX5_townOf_42 : decode cX5_townOf 42 = .ok (.iconst 3, 1) := by decide +kernel
theorem dX5_townOf_43 : decode cX5_townOf 43 = .ok (.if_icmp .ne 12, 3) := by decide +kernel
theorem dX5_townOf_46 : decode cX5_townOf 46 = .ok (.aload_n 0, 1) := by decide +kernel
theorem dX5_townOf_47 : decode cX5_townOf 47 = .ok (.getfield 41, 3) := by decide +kernel
theorem dX5_townOf_50 : decode cX5_townOf 50 = .ok (.iload_n 1, 1) := by decide +kernel
theorem dX5_townOf_51 : decode cX5_townOf 51 = .ok (.iaload, 1) := by decide +kernel
theorem dX5_townOf_52 : decode cX5_townOf 52 = .ok (.goto 12, 3) := by decide +kernel
theorem dX5_townOf_55 : decode cX5_townOf 55 = .ok (.aload_n 0, 1) := by decide +kernel
theorem dX5_townOf_56 : decode cX5_townOf 56 = .ok (.iload_n 1, 1) := by decide +kernel
theorem dX5_townOf_57 : decode cX5_townOf 57 = .ok (.aload_n 0, 1) := by decide +kernel
theorem dX5_townOf_58 : decode cX5_townOf 58 = .ok (.getfield 119, 3) := by decide +kernel
theorem dX5_townOf_61 : decode cX5_townOf 61 = .ok (.invokevirtual 166, 3) := by decide +kernel
theorem dX5_townOf_64 : decode cX5_townOf 64 = .ok (.ireturn, 1) := by decide +kernel
theorem dX5_town_0 : decode cX5_town 0 = .ok (.aload_n 0, 1) := by decide +kernel
theorem dX5_town_1 : decode cX5_town 1 = .ok (.iload_n 1, 1) := by decide +kernel
theorem dX5_town_2 : decode cX5_town 2 = .ok (.invokevirtual 169, 3) := by decide +kernel
theorem dX5_town_5 : decode cX5_town 5 = .ok (.ifCond .eq 26, 3) := by decide +kernel
theorem dX5_town_8 : decode cX5_town 8 = .ok (.iload_n 2, 1) := by decide +kernel
theorem dX5_town_9 : decode cX5_town 9 = .ok (.iconst 0, 1) := by decide +kernel
theorem dX5_town_10 : decode cX5_town 10 = .ok (.iconst 4, 1) := by decide +kernel
theorem dX5_town_11 : decode cX5_town 11 = .ok (.invokestatic 60, 3) := by decide +kernel
theorem dX5_town_14 : decode cX5_town 14 = .ok (.ifCond .eq 17, 3) := by decide +kernel
theorem dX5_town_17 : decode cX5_town 17 = .ok (.aload_n 0, 1) := by decide +kernel
theorem dX5_town_18 : decode cX5_town 18 = .ok (.aload_n 0, 1) := by decide +kernel
theorem dX5_town_19 : decode cX5_town 19 = .ok (.iload_n 1, 1) := by decide +kernel
theorem dX5_town_20 : decode cX5_town 20 = .ok (.iload_n 2, 1) := by decide +kernel
theorem dX5_town_21 : decode cX5_town 21 = .ok (.invokevirtual 172, 3) := by decide +kernel
theorem dX5_town_24 : decode cX5_town 24 = .ok (.iconst 1, 1) := by decide +kernel
theorem dX5_town_25 : decode cX5_town 25 = .ok (.invokevirtual 86, 3) := by decide +kernel
theorem dX5_town_28 : decode cX5_town 28 = .ok (.goto 4, 3) := by decide +kernel
theorem dX5_town_31 : decode cX5_town 31 = .ok (.iconst (-1), 1) := by decide +kernel
theorem dX5_town_32 : decode cX5_town 32 = .ok (.ireturn, 1) := by decide +kernel
theorem dX5_isA_0 : decode cX5_isA 0 = .ok (.aload_n 0, 1) := by decide +kernel
theorem dX5_isA_1 : decode cX5_isA 1 = .ok (.getfield 32, 3) := by decide +kernel
theorem dX5_isA_4 : decode cX5_isA 4 = .ok (.iload_n 1, 1) := by decide +kernel
theorem dX5_isA_5 : decode cX5_isA 5 = .ok (.iaload, 1) := by decide +kernel
theorem dX5_isA_6 : decode cX5_isA 6 = .ok (.istore_n 3, 1) := by decide +kernel
theorem dX5_isA_7 : decode cX5_isA 7 = .ok (.iload_n 3, 1) := by decide +kernel
theorem dX5_isA_8 : decode cX5_isA 8 = .ok (.iload_n 2, 1) := by decide +kernel
theorem dX5_isA_9 : decode cX5_isA 9 = .ok (.if_icmp .eq 23, 3) := by decide +kernel
theorem dX5_isA_12 : decode cX5_isA 12 = .ok (.iload_n 2, 1) := by decide +kernel
theorem dX5_isA_13 : decode cX5_isA 13 = .ok (.iconst 1, 1) := by decide +kernel
theorem dX5_isA_14 : decode cX5_isA 14 = .ok (.if_icmp .ne 8, 3) := by decide +kernel
theorem dX5_isA_17 : decode cX5_isA 17 = .ok (.iload_n 3, 1) := by decide +kernel
theorem dX5_isA_18 : decode cX5_isA 18 = .ok (.iconst 4, 1) := by decide +kernel
theorem dX5_isA_19 : decode cX5_isA 19 = .ok (.if_icmp .eq 13, 3) := by decide +kernel
theorem dX5_isA_22 : decode cX5_isA 22 = .ok (.iload_n 2, 1) := by decide +kernel
theorem dX5_isA_23 : decode cX5_isA 23 = .ok (.iconst 2, 1) := by decide +kernel
theorem dX5_isA_24 : decode cX5_isA 24 = .ok (.if_icmp .ne 12, 3) := by decide +kernel
theorem dX5_isA_27 : decode cX5_isA 27 = .ok (.iload_n 3, 1) := by decide +kernel
theorem dX5_isA_28 : decode cX5_isA 28 = .ok (.iconst 5, 1) := by decide +kernel
theorem dX5_isA_29 : decode cX5_isA 29 = .ok (.if_icmp .ne 7, 3) := by decide +kernel
theorem dX5_isA_32 : decode cX5_isA 32 = .ok (.iconst 1, 1) := by decide +kernel
theorem dX5_isA_33 : decode cX5_isA 33 = .ok (.goto 4, 3) := by decide +kernel
theorem dX5_isA_36 : decode cX5_isA 36 = .ok (.iconst 0, 1) := by decide +kernel
theorem dX5_isA_37 : decode cX5_isA 37 = .ok (.ireturn, 1) := by decide +kernel
theorem dX5_marked_0 : decode cX5_marked 0 = .ok (.aload_n 0, 1) := by decide +kernel
theorem dX5_marked_1 : decode cX5_marked 1 = .ok (.iload_n 1, 1) := by decide +kernel
theorem dX5_marked_2 : decode cX5_marked 2 = .ok (.aload_n 0, 1) := by decide +kernel
theorem dX5_marked_3 : decode cX5_marked 3 = .ok (.getfield 119, 3) := by decide +kernel
theorem dX5_marked_6 : decode cX5_marked 6 = .ok (.invokevirtual 166, 3) := by decide +kernel
theorem dX5_marked_9 : decode cX5_marked 9 = .ok (.sipush 1000, 3) := by decide +kernel
theorem dX5_marked_12 : decode cX5_marked 12 = .ok (.idiv, 1) := by decide +kernel
theorem dX5_marked_13 : decode cX5_marked 13 = .ok (.istore_n 3, 1) := by decide +kernel
theorem dX5_marked_14 : decode cX5_marked 14 = .ok (.iload_n 2, 1) := by decide +kernel
theorem dX5_marked_15 : decode cX5_marked 15 = .ok (.tableswitch 84 1 4 #[29, 46, 60, 64], 29) := by decide +kernel
theorem dX5_marked_44 : decode cX5_marked 44 = .ok (.aload_n 0, 1) := by decide +kernel
theorem dX5_marked_45 : decode cX5_marked 45 = .ok (.getfield 128, 3) := by decide +kernel
theorem dX5_marked_48 : decode cX5_marked 48 = .ok (.iload_n 3, 1) := by decide +kernel
theorem dX5_marked_49 : decode cX5_marked 49 = .ok (.aload_n 0, 1) := by decide +kernel
theorem dX5_marked_50 : decode cX5_marked 50 = .ok (.getfield 128, 3) := by decide +kernel
theorem dX5_marked_53 : decode cX5_marked 53 = .ok (.irem, 1) := by decide +kernel
theorem dX5_marked_54 : decode cX5_marked 54 = .ok (.isub, 1) := by decide +kernel
theorem dX5_marked_55 : decode cX5_marked 55 = .ok (.aload_n 0, 1) := by decide +kernel
theorem dX5_marked_56 : decode cX5_marked 56 = .ok (.getfield 128, 3) := by decide +kernel
theorem dX5_marked_59 : decode cX5_marked 59 = .ok (.irem, 1) := by decide +kernel
theorem dX5_marked_60 : decode cX5_marked 60 = .ok (.ireturn, 1) := by decide +kernel
theorem dX5_marked_61 : decode cX5_marked 61 = .ok (.iconst 0, 1) := by decide +kernel
theorem dX5_marked_62 : decode cX5_marked 62 = .ok (.aload_n 0, 1) := by decide +kernel
theorem dX5_marked_63 : decode cX5_marked 63 = .ok (.getfield 131, 3) := by decide +kernel
theorem dX5_marked_66 : decode cX5_marked 66 = .ok (.aload_n 0, 1) := by decide +kernel
theorem dX5_marked_67 : decode cX5_marked 67 = .ok (.getfield 119, 3) := by decide +kernel
theorem dX5_marked_70 : decode cX5_marked 70 = .ok (.isub, 1) := by decide +kernel
theorem dX5_marked_71 : decode cX5_marked 71 = .ok (.invokestatic 175, 3) := by decide +kernel
theorem dX5_marked_74 : decode cX5_marked 74 = .ok (.ireturn, 1) := by decide +kernel
theorem dX5_marked_75 : decode cX5_marked 75 = .ok (.iload_n 3, 1) := by decide +kernel
theorem dX5_marked_76 : decode cX5_marked 76 = .ok (.iconst 1, 1) := by decide +kernel
theorem dX5_marked_77 : decode cX5_marked 77 = .ok (.iadd, 1) := by decide +kernel
theorem dX5_marked_78 : decode cX5_marked 78 = .ok (.ireturn, 1) := by decide +kernel
theorem dX5_marked_79 : decode cX5_marked 79 = .ok (.aload_n 0, 1) := by decide +kernel
theorem dX5_marked_80 : decode cX5_marked 80 = .ok (.getfield 119, 3) := by decide +kernel
theorem dX5_marked_83 : decode cX5_marked 83 = .ok (.aload_n 0, 1) := by decide +kernel
theorem dX5_marked_84 : decode cX5_marked 84 = .ok (.getfield 131, 3) := by decide +kernel
theorem dX5_marked_87 : decode cX5_marked 87 = .ok (.if_icmp .lt 10, 3) := by decide +kernel
theorem dX5_marked_90 : decode cX5_marked 90 = .ok (.aload_n 0, 1) := by decide +kernel
theorem dX5_marked_91 : decode cX5_marked 91 = .ok (.getfield 134, 3) := by decide +kernel
theorem dX5_marked_94 : decode cX5_marked 94 = .ok (.goto 4, 3) := by decide +kernel
theorem dX5_marked_97 : decode cX5_marked 97 = .ok (.iconst 0, 1) := by decide +kernel
theorem dX5_marked_98 : decode cX5_marked 98 = .ok (.ireturn, 1) := by decide +kernel
theorem dX5_marked_99 : decode cX5_marked 99 = .ok (.aload_n 0, 1) := by decide +kernel
theorem dX5_marked_100 : decode cX5_marked 100 = .ok (.getfield 134, 3) := by decide +kernel
theorem dX5_marked_103 : decode cX5_marked 103 = .ok (.ifCond .ne 7, 3) := by decide +kernel
theorem dX5_marked_106 : decode cX5_marked 106 = .ok (.iconst 0, 1) := by decide +kernel
theorem dX5_marked_107 : decode cX5_marked 107 = .ok (.goto 40, 3) := by decide +kernel
theorem dX5_marked_110 : decode cX5_marked 110 = .ok (.aload_n 0, 1) := by decide +kernel
theorem dX5_marked_111 : decode cX5_marked 111 = .ok (.getfield 119, 3) := by decide +kernel
theorem dX5_marked_114 : decode cX5_marked 114 = .ok (.aload_n 0, 1) := by decide +kernel
theorem dX5_marked_115 : decode cX5_marked 115 = .ok (.getfield 131, 3) := by decide +kernel
theorem dX5_marked_118 : decode cX5_marked 118 = .ok (.if_icmp .lt 7, 3) := by decide +kernel
theorem dX5_marked_121 : decode cX5_marked 121 = .ok (.iconst 1, 1) := by decide +kernel
theorem dX5_marked_122 : decode cX5_marked 122 = .ok (.goto 4, 3) := by decide +kernel
theorem dX5_marked_125 : decode cX5_marked 125 = .ok (.iconst 0, 1) := by decide +kernel
theorem dX5_marked_126 : decode cX5_marked 126 = .ok (.aload_n 0, 1) := by decide +kernel
theorem dX5_marked_127 : decode cX5_marked 127 = .ok (.getfield 119, 3) := by decide +kernel
theorem dX5_marked_130 : decode cX5_marked 130 = .ok (.aload_n 0, 1) := by decide +kernel
theorem dX5_marked_131 : decode cX5_marked 131 = .ok (.getfield 131, 3) := by decide +kernel
theorem dX5_marked_134 : decode cX5_marked 134 = .ok (.sipush 1000, 3) := by decide +kernel
theorem dX5_marked_137 : decode cX5_marked 137 = .ok (.iadd, 1) := by decide +kernel
theorem dX5_marked_138 : decode cX5_marked 138 = .ok (.if_icmp .lt 7, 3) := by decide +kernel
theorem dX5_marked_141 : decode cX5_marked 141 = .ok (.iconst 1, 1) := by decide +kernel
theorem dX5_marked_142 : decode cX5_marked 142 = .ok (.goto 4, 3) := by decide +kernel
theorem dX5_marked_145 : decode cX5_marked 145 = .ok (.iconst 0, 1) := by decide +kernel
theorem dX5_marked_146 : decode cX5_marked 146 = .ok (.iadd, 1) := by decide +kernel
theorem dX5_marked_147 : decode cX5_marked 147 = .ok (.ireturn, 1) := by decide +kernel
theorem dX5_mark_0 : decode cX5_mark 0 = .ok (.aload_n 0, 1) := by decide +kernel
theorem dX5_mark_1 : decode cX5_mark 1 = .ok (.iload_n 1, 1) := by decide +kernel
theorem dX5_mark_2 : decode cX5_mark 2 = .ok (.invokevirtual 169, 3) := by decide +kernel
theorem dX5_mark_5 : decode cX5_mark 5 = .ok (.ifCond .eq 12, 3) := by decide +kernel
theorem dX5_mark_8 : decode cX5_mark 8 = .ok (.iload_n 2, 1) := by decide +kernel
theorem dX5_mark_9 : decode cX5_mark 9 = .ok (.iconst 1, 1) := by decide +kernel
theorem dX5_mark_10 : decode cX5_mark 10 = .ok (.iconst 5, 1) := by decide +kernel
theorem dX5_mark_11 : decode cX5_mark 11 = .ok (.invokestatic 60, 3) := by decide +kernel
theorem dX5_mark_14 : decode cX5_mark 14 = .ok (.ifCond .ne 5, 3) := by decide +kernel
theorem dX5_mark_17 : decode cX5_mark 17 = .ok (.iconst (-1), 1) := by decide +kernel
theorem dX5_mark_18 : decode cX5_mark 18 = .ok (.ireturn, 1) := by decide +kernel
theorem dX5_mark_19 : decode cX5_mark 19 = .ok (.aload_n 0, 1) := by decide +kernel
theorem dX5_mark_20 : decode cX5_mark 20 = .ok (.iload_n 1, 1) := by decide +kernel
theorem dX5_mark_21 : decode cX5_mark 21 = .ok (.iload_n 2, 1) := by decide +kernel
theorem dX5_mark_22 : decode cX5_mark 22 = .ok (.invokevirtual 178, 3) := by decide +kernel
theorem dX5_mark_25 : decode cX5_mark 25 = .ok (.ifCond .eq 12, 3) := by decide +kernel
theorem dX5_mark_28 : decode cX5_mark 28 = .ok (.aload_n 0, 1) := by decide +kernel
theorem dX5_mark_29 : decode cX5_mark 29 = .ok (.iload_n 1, 1) := by decide +kernel
theorem dX5_mark_30 : decode cX5_mark 30 = .ok (.iload_n 2, 1) := by decide +kernel
theorem dX5_mark_31 : decode cX5_mark 31 = .ok (.invokevirtual 182, 3) := by decide +kernel
theorem dX5_mark_34 : decode cX5_mark 34 = .ok (.goto 8, 3) := by decide +kernel
theorem dX5_mark_37 : decode cX5_mark 37 = .ok (.aload_n 0, 1) := by decide +kernel
theorem dX5_mark_38 : decode cX5_mark 38 = .ok (.iconst 3, 1) := by decide +kernel
theorem dX5_mark_39 : decode cX5_mark 39 = .ok (.invokevirtual 68, 3) := by decide +kernel
theorem dX5_mark_42 : decode cX5_mark 42 = .ok (.ireturn, 1) := by decide +kernel
theorem dX5_order_0 : decode cX5_order 0 = .ok (.aload_n 0, 1) := by decide +kernel
theorem dX5_order_1 : decode cX5_order 1 = .ok (.iload_n 1, 1) := by decide +kernel
theorem dX5_order_2 : decode cX5_order 2 = .ok (.invokevirtual 169, 3) := by decide +kernel
theorem dX5_order_5 : decode cX5_order 5 = .ok (.ifCond .eq 14, 3) := by decide +kernel
theorem dX5_order_8 : decode cX5_order 8 = .ok (.iload_n 2, 1) := by decide +kernel
theorem dX5_order_9 : decode cX5_order 9 = .ok (.iconst 0, 1) := by decide +kernel
theorem dX5_order_10 : decode cX5_order 10 = .ok (.sipush 9999, 3) := by decide +kernel
theorem dX5_order_13 : decode cX5_order 13 = .ok (.invokestatic 60, 3) := by decide +kernel
theorem dX5_order_16 : decode cX5_order 16 = .ok (.ifCond .ne 5, 3) := by decide +kernel
theorem dX5_order_19 : decode cX5_order 19 = .ok (.iconst (-1), 1) := by decide +kernel
theorem dX5_order_20 : decode cX5_order 20 = .ok (.ireturn, 1) := by decide +kernel
theorem dX5_order_21 : decode cX5_order 21 = .ok (.aload_n 0, 1) := by decide +kernel
theorem dX5_order_22 : decode cX5_order 22 = .ok (.getfield 38, 3) := by decide +kernel
theorem dX5_order_25 : decode cX5_order 25 = .ok (.iload_n 1, 1) := by decide +kernel
theorem dX5_order_26 : decode cX5_order 26 = .ok (.iaload, 1) := by decide +kernel
theorem dX5_order_27 : decode cX5_order 27 = .ok (.istore_n 3, 1) := by decide +kernel
theorem dX5_order_28 : decode cX5_order 28 = .ok (.aload_n 0, 1) := by decide +kernel
theorem dX5_order_29 : decode cX5_order 29 = .ok (.getfield 38, 3) := by decide +kernel
theorem dX5_order_32 : decode cX5_order 32 = .ok (.iload_n 1, 1) := by decide +kernel
theorem dX5_order_33 : decode cX5_order 33 = .ok (.iload_n 2, 1) := by decide +kernel
theorem dX5_order_34 : decode cX5_order 34 = .ok (.iastore, 1) := by decide +kernel
theorem dX5_order_35 : decode cX5_order 35 = .ok (.iload_n 3, 1) := by decide +kernel
theorem dX5_order_36 : decode cX5_order 36 = .ok (.ireturn, 1) := by decide +kernel
theorem dX5_gap_0 : decode cX5_gap 0 = .ok (.aload_n 0, 1) := by decide +kernel
theorem dX5_gap_1 : decode cX5_gap 1 = .ok (.iload_n 1, 1) := by decide +kernel
theorem dX5_gap_2 : decode cX5_gap 2 = .ok (.invokevirtual 169, 3) := by decide +kernel
theorem dX5_gap_5 : decode cX5_gap 5 = .ok (.ifCond .eq 13, 3) := by decide +kernel
theorem dX5_gap_8 : decode cX5_gap 8 = .ok (.iload_n 2, 1) := by decide +kernel
theorem dX5_gap_9 : decode cX5_gap 9 = .ok (.iconst 0, 1) := by decide +kernel
theorem dX5_gap_10 : decode cX5_gap 10 = .ok (.bipush 9, 2) := by decide +kernel
theorem dX5_gap_12 : decode cX5_gap 12 = .ok (.invokestatic 60, 3) := by decide +kernel
theorem dX5_gap_15 : decode cX5_gap 15 = .ok (.ifCond .ne 5, 3) := by decide +kernel
theorem dX5_gap_18 : decode cX5_gap 18 = .ok (.iconst (-1), 1) := by decide +kernel
theorem dX5_gap_19 : decode cX5_gap 19 = .ok (.ireturn, 1) := by decide +kernel
theorem dX5_gap_20 : decode cX5_gap 20 = .ok (.aload_n 0, 1) := by decide +kernel
theorem dX5_gap_21 : decode cX5_gap 21 = .ok (.getfield 41, 3) := by decide +kernel
theorem dX5_gap_24 : decode cX5_gap 24 = .ok (.iload_n 1, 1) := by decide +kernel
theorem dX5_gap_25 : decode cX5_gap 25 = .ok (.iaload, 1) := by decide +kernel
theorem dX5_gap_26 : decode cX5_gap 26 = .ok (.istore_n 3, 1) := by decide +kernel
theorem dX5_gap_27 : decode cX5_gap 27 = .ok (.aload_n 0, 1) := by decide +kernel
theorem dX5_gap_28 : decode cX5_gap 28 = .ok (.getfield 41, 3) := by decide +kernel
theorem dX5_gap_31 : decode cX5_gap 31 = .ok (.iload_n 1, 1) := by decide +kernel
theorem dX5_gap_32 : decode cX5_gap 32 = .ok (.iload_n 2, 1) := by decide +kernel
theorem dX5_gap_33 : decode cX5_gap 33 = .ok (.iastore, 1) := by decide +kernel
theorem dX5_gap_34 : decode cX5_gap 34 = .ok (.iload_n 3, 1) := by decide +kernel
theorem dX5_gap_35 : decode cX5_gap 35 = .ok (.ireturn, 1) := by decide +kernel
theorem dX5_leap_0 : decode cX5_leap 0 = .ok (.aload_n 0, 1) := by decide +kernel
theorem dX5_leap_1 : decode cX5_leap 1 = .ok (.iload_n 1, 1) := by decide +kernel
theorem dX5_leap_2 : decode cX5_leap 2 = .ok (.invokevirtual 169, 3) := by decide +kernel
theorem dX5_leap_5 : decode cX5_leap 5 = .ok (.ifCond .eq 13, 3) := by decide +kernel
theorem dX5_leap_8 : decode cX5_leap 8 = .ok (.iload_n 2, 1) := by decide +kernel
theorem dX5_leap_9 : decode cX5_leap 9 = .ok (.iconst 2, 1) := by decide +kernel
theorem dX5_leap_10 : decode cX5_leap 10 = .ok (.bipush 9, 2) := by decide +kernel
theorem dX5_leap_12 : decode cX5_leap 12 = .ok (.invokestatic 60, 3) := by decide +kernel
theorem dX5_leap_15 : decode cX5_leap 15 = .ok (.ifCond .ne 5, 3) := by decide +kernel
theorem dX5_leap_18 : decode cX5_leap 18 = .ok (.iconst (-1), 1) := by decide +kernel
theorem dX5_leap_19 : decode cX5_leap 19 = .ok (.ireturn, 1) := by decide +kernel
theorem dX5_leap_20 : decode cX5_leap 20 = .ok (.aload_n 0, 1) := by decide +kernel
theorem dX5_leap_21 : decode cX5_leap 21 = .ok (.getfield 35, 3) := by decide +kernel
theorem dX5_leap_24 : decode cX5_leap 24 = .ok (.iload_n 1, 1) := by decide +kernel
theorem dX5_leap_25 : decode cX5_leap 25 = .ok (.iaload, 1) := by decide +kernel
theorem dX5_leap_26 : decode cX5_leap 26 = .ok (.istore_n 3, 1) := by decide +kernel
theorem dX5_leap_27 : decode cX5_leap 27 = .ok (.aload_n 0, 1) := by decide +kernel
theorem dX5_leap_28 : decode cX5_leap 28 = .ok (.getfield 35, 3) := by decide +kernel
theorem dX5_leap_31 : decode cX5_leap 31 = .ok (.iload_n 1, 1) := by decide +kernel
theorem dX5_leap_32 : decode cX5_leap 32 = .ok (.iload_n 2, 1) := by decide +kernel
theorem dX5_leap_33 : decode cX5_leap 33 = .ok (.iastore, 1) := by decide +kernel
theorem dX5_leap_34 : decode cX5_leap 34 = .ok (.iload_n 3, 1) := by decide +kernel
theorem dX5_leap_35 : decode cX5_leap 35 = .ok (.ireturn, 1) := by decide +kernel
theorem dX5_go_0 : decode cX5_go 0 = .ok (.iload_n 1, 1) := by decide +kernel
theorem dX5_go_1 : decode cX5_go 1 = .ok (.iconst 0, 1) := by decide +kernel
theorem dX5_go_2 : decode cX5_go 2 = .ok (.sipush 9999, 3) := by decide +kernel
theorem dX5_go_5 : decode cX5_go 5 = .ok (.invokestatic 60, 3) := by decide +kernel
theorem dX5_go_8 : decode cX5_go 8 = .ok (.ifCond .ne 5, 3) := by decide +kernel
theorem dX5_go_11 : decode cX5_go 11 = .ok (.iconst (-1), 1) := by decide +kernel
theorem dX5_go_12 : decode cX5_go 12 = .ok (.ireturn, 1) := by decide +kernel
theorem dX5_go_13 : decode cX5_go 13 = .ok (.aload_n 0, 1) := by decide +kernel
theorem dX5_go_14 : decode cX5_go 14 = .ok (.getfield 116, 3) := by decide +kernel
theorem dX5_go_17 : decode cX5_go 17 = .ok (.ifCond .ne 6, 3) := by decide +kernel
theorem dX5_go_20 : decode cX5_go 20 = .ok (.bipush (-4), 2) := by decide +kernel
theorem dX5_go_22 : decode cX5_go 22 = .ok (.ireturn, 1) := by decide +kernel
theorem dX5_go_23 : decode cX5_go 23 = .ok (.aload_n 0, 1) := by decide +kernel
theorem dX5_go_24 : decode cX5_go 24 = .ok (.getfield 119, 3) := by decide +kernel
theorem dX5_go_27 : decode cX5_go 27 = .ok (.iload_n 1, 1) := by decide +kernel
theorem dX5_go_28 : decode cX5_go 28 = .ok (.iadd, 1) := by decide +kernel
theorem dX5_go_29 : decode cX5_go 29 = .ok (.sipush 19999, 3) := by decide +kernel
theorem dX5_go_32 : decode cX5_go 32 = .ok (.if_icmp .le 6, 3) := by decide +kernel
theorem dX5_go_35 : decode cX5_go 35 = .ok (.bipush (-6), 2) := by decide +kernel
theorem dX5_go_37 : decode cX5_go 37 = .ok (.ireturn, 1) := by decide +kernel
theorem dX5_go_38 : decode cX5_go 38 = .ok (.aload_n 0, 1) := by decide +kernel
theorem dX5_go_39 : decode cX5_go 39 = .ok (.dup, 1) := by decide +kernel
theorem dX5_go_40 : decode cX5_go 40 = .ok (.getfield 119, 3) := by decide +kernel
theorem dX5_go_43 : decode cX5_go 43 = .ok (.iload_n 1, 1) := by decide +kernel
theorem dX5_go_44 : decode cX5_go 44 = .ok (.iadd, 1) := by decide +kernel
theorem dX5_go_45 : decode cX5_go 45 = .ok (.putfield 119, 3) := by decide +kernel
theorem dX5_go_48 : decode cX5_go 48 = .ok (.aload_n 0, 1) := by decide +kernel
theorem dX5_go_49 : decode cX5_go 49 = .ok (.getfield 119, 3) := by decide +kernel
theorem dX5_go_52 : decode cX5_go 52 = .ok (.ireturn, 1) := by decide +kernel
theorem dX5_back_0 : decode cX5_back 0 = .ok (.iload_n 1, 1) := by decide +kernel
theorem dX5_back_1 : decode cX5_back 1 = .ok (.iconst 0, 1) := by decide +kernel
theorem dX5_back_2 : decode cX5_back 2 = .ok (.aload_n 0, 1) := by decide +kernel
theorem dX5_back_3 : decode cX5_back 3 = .ok (.getfield 119, 3) := by decide +kernel
theorem dX5_back_6 : decode cX5_back 6 = .ok (.invokestatic 60, 3) := by decide +kernel
theorem dX5_back_9 : decode cX5_back 9 = .ok (.ifCond .ne 5, 3) := by decide +kernel
theorem dX5_back_12 : decode cX5_back 12 = .ok (.iconst (-1), 1) := by decide +kernel
theorem dX5_back_13 : decode cX5_back 13 = .ok (.ireturn, 1) := by decide +kernel
theorem dX5_back_14 : decode cX5_back 14 = .ok (.aload_n 0, 1) := by decide +kernel
theorem dX5_back_15 : decode cX5_back 15 = .ok (.dup, 1) := by decide +kernel
theorem dX5_back_16 : decode cX5_back 16 = .ok (.getfield 119, 3) := by decide +kernel
theorem dX5_back_19 : decode cX5_back 19 = .ok (.iload_n 1, 1) := by decide +kernel
theorem dX5_back_20 : decode cX5_back 20 = .ok (.isub, 1) := by decide +kernel
theorem dX5_back_21 : decode cX5_back 21 = .ok (.putfield 119, 3) := by decide +kernel
theorem dX5_back_24 : decode cX5_back 24 = .ok (.aload_n 0, 1) := by decide +kernel
theorem dX5_back_25 : decode cX5_back 25 = .ok (.getfield 119, 3) := by decide +kernel
theorem dX5_back_28 : decode cX5_back 28 = .ok (.ireturn, 1) := by decide +kernel
theorem dX5_keep_0 : decode cX5_keep 0 = .ok (.iload_n 1, 1) := by decide +kernel
theorem dX5_keep_1 : decode cX5_keep 1 = .ok (.iconst 0, 1) := by decide +kernel
theorem dX5_keep_2 : decode cX5_keep 2 = .ok (.iconst 2, 1) := by decide +kernel
theorem dX5_keep_3 : decode cX5_keep 3 = .ok (.invokestatic 60, 3) := by decide +kernel
theorem dX5_keep_6 : decode cX5_keep 6 = .ok (.ifCond .ne 5, 3) := by decide +kernel
theorem dX5_keep_9 : decode cX5_keep 9 = .ok (.iconst (-1), 1) := by decide +kernel
theorem dX5_keep_10 : decode cX5_keep 10 = .ok (.ireturn, 1) := by decide +kernel
theorem dX5_keep_11 : decode cX5_keep 11 = .ok (.aload_n 0, 1) := by decide +kernel
theorem dX5_keep_12 : decode cX5_keep 12 = .ok (.getfield 116, 3) := by decide +kernel
theorem dX5_keep_15 : decode cX5_keep 15 = .ok (.ifCond .ne 6, 3) := by decide +kernel
theorem dX5_keep_18 : decode cX5_keep 18 = .ok (.bipush (-4), 2) := by decide +kernel
theorem dX5_keep_20 : decode cX5_keep 20 = .ok (.ireturn, 1) := by decide +kernel
theorem dX5_keep_21 : decode cX5_keep 21 = .ok (.bipush 21, 2) := by decide +kernel
theorem dX5_keep_23 : decode cX5_keep 23 = .ok (.iload_n 1, 1) := by decide +kernel
theorem dX5_keep_24 : decode cX5_keep 24 = .ok (.imul, 1) := by decide +kernel
theorem dX5_keep_25 : decode cX5_keep 25 = .ok (.istore_n 2, 1) := by decide +kernel
theorem dX5_keep_26 : decode cX5_keep 26 = .ok (.aload_n 0, 1) := by decide +kernel
theorem dX5_keep_27 : decode cX5_keep 27 = .ok (.getfield 47, 3) := by decide +kernel
theorem dX5_keep_30 : decode cX5_keep 30 = .ok (.iload_n 2, 1) := by decide +kernel
theorem dX5_keep_31 : decode cX5_keep 31 = .ok (.aload_n 0, 1) := by decide +kernel
theorem dX5_keep_32 : decode cX5_keep 32 = .ok (.getfield 119, 3) := by decide +kernel
theorem dX5_keep_35 : decode cX5_keep 35 = .ok (.iastore, 1) := by decide +kernel
theorem dX5_keep_36 : decode cX5_keep 36 = .ok (.iconst 0, 1) := by decide +kernel
theorem dX5_keep_37 : decode cX5_keep 37 = .ok (.istore_n 3, 1) := by decide +kernel
theorem dX5_keep_38 : decode cX5_keep 38 = .ok (.iload_n 3, 1) := by decide +kernel
theorem dX5_keep_39 : decode cX5_keep 39 = .ok (.iconst 5, 1) := by decide +kernel
theorem dX5_keep_40 : decode cX5_keep 40 = .ok (.if_icmp .ge 59, 3) := by decide +kernel
theorem dX5_keep_43 : decode cX5_keep 43 = .ok (.aload_n 0, 1) := by decide +kernel
theorem dX5_keep_44 : decode cX5_keep 44 = .ok (.getfield 47, 3) := by decide +kernel
theorem dX5_keep_47 : decode cX5_keep 47 = .ok (.iload_n 2, 1) := by decide +kernel
theorem dX5_keep_48 : decode cX5_keep 48 = .ok (.iconst 1, 1) := by decide +kernel
theorem dX5_keep_49 : decode cX5_keep 49 = .ok (.iadd, 1) := by decide +kernel
theorem dX5_keep_50 : decode cX5_keep 50 = .ok (.iload_n 3, 1) := by decide +kernel
theorem dX5_keep_51 : decode cX5_keep 51 = .ok (.iadd, 1) := by decide +kernel
theorem dX5_keep_52 : decode cX5_keep 52 = .ok (.aload_n 0, 1) := by decide +kernel
theorem dX5_keep_53 : decode cX5_keep 53 = .ok (.getfield 35, 3) := by decide +kernel
theorem dX5_keep_56 : decode cX5_keep 56 = .ok (.iload_n 3, 1) := by decide +kernel
theorem dX5_keep_57 : decode cX5_keep 57 = .ok (.iaload, 1) := by decide +kernel
theorem dX5_keep_58 : decode cX5_keep 58 = .ok (.iastore, 1) := by decide +kernel
theorem dX5_keep_59 : decode cX5_keep 59 = .ok (.aload_n 0, 1) := by decide +kernel
theorem dX5_keep_60 : decode cX5_keep 60 = .ok (.getfield 47, 3) := by decide +kernel
theorem dX5_keep_63 : decode cX5_keep 63 = .ok (.iload_n 2, 1) := by decide +kernel
theorem dX5_keep_64 : decode cX5_keep 64 = .ok (.bipush 6, 2) := by decide +kernel
theorem dX5_keep_66 : decode cX5_keep 66 = .ok (.iadd, 1) := by decide +kernel
theorem dX5_keep_67 : decode cX5_keep 67 = .ok (.iload_n 3, 1) := by decide +kernel
theorem dX5_keep_68 : decode cX5_keep 68 = .ok (.iadd, 1) := by decide +kernel
theorem dX5_keep_69 : decode cX5_keep 69 = .ok (.aload_n 0, 1) := by decide +kernel
theorem dX5_keep_70 : decode cX5_keep 70 = .ok (.getfield 38, 3) := by decide +kernel
theorem dX5_keep_73 : decode cX5_keep 73 = .ok (.iload_n 3, 1) := by decide +kernel
theorem dX5_keep_74 : decode cX5_keep 74 = .ok (.iaload, 1) := by decide +kernel
theorem dX5_keep_75 : decode cX5_keep 75 = .ok (.iastore, 1) := by decide +kernel
theorem dX5_keep_76 : decode cX5_keep 76 = .ok (.aload_n 0, 1) := by decide +kernel
theorem dX5_keep_77 : decode cX5_keep 77 = .ok (.getfield 47, 3) := by decide +kernel
theorem dX5_keep_80 : decode cX5_keep 80 = .ok (.iload_n 2, 1) := by decide +kernel
theorem dX5_keep_81 : decode cX5_keep 81 = .ok (.bipush 11, 2) := by decide +kernel
theorem dX5_keep_83 : decode cX5_keep 83 = .ok (.iadd, 1) := by decide +kernel
theorem dX5_keep_84 : decode cX5_keep 84 = .ok (.iload_n 3, 1) := by decide +kernel
theorem dX5_keep_85 : decode cX5_keep 85 = .ok (.iadd, 1) := by decide +kernel
theorem dX5_keep_86 : decode cX5_keep 86 = .ok (.aload_n 0, 1) := by decide +kernel
theorem dX5_keep_87 : decode cX5_keep 87 = .ok (.getfield 41, 3) := by decide +kernel
theorem dX5_keep_90 : decode cX5_keep 90 = .ok (.iload_n 3, 1) := by decide +kernel
theorem dX5_keep_91 : decode cX5_keep 91 = .ok (.iaload, 1) := by decide +kernel
theorem dX5_keep_92 : decode cX5_keep 92 = .ok (.iastore, 1) := by decide +kernel
theorem dX5_keep_93 : decode cX5_keep 93 = .ok (.iinc 3 1, 3) := by decide +kernel
theorem dX5_keep_96 : decode cX5_keep 96 = .ok (.goto (-58), 3) := by decide +kernel
theorem dX5_keep_99 : decode cX5_keep 99 = .ok (.aload_n 0, 1) := by decide +kernel
theorem dX5_keep_100 : decode cX5_keep 100 = .ok (.getfield 119, 3) := by decide +kernel
theorem dX5_keep_103 : decode cX5_keep 103 = .ok (.ireturn, 1) := by decide +kernel
theorem dX5_on_0 : decode cX5_on 0 = .ok (.iload_n 1, 1) := by decide +kernel
theorem dX5_on_1 : decode cX5_on 1 = .ok (.iconst 0, 1) := by decide +kernel
theorem dX5_on_2 : decode cX5_on 2 = .ok (.iconst 2, 1) := by decide +kernel
theorem dX5_on_3 : decode cX5_on 3 = .ok (.invokestatic 60, 3) := by decide +kernel
theorem dX5_on_6 : decode cX5_on 6 = .ok (.ifCond .ne 5, 3) := by decide +kernel
theorem dX5_on_9 : decode cX5_on 9 = .ok (.iconst (-1), 1) := by decide +kernel
theorem dX5_on_10 : decode cX5_on 10 = .ok (.ireturn, 1) := by decide +kernel
theorem dX5_on_11 : decode cX5_on 11 = .ok (.bipush 21, 2) := by decide +kernel
theorem dX5_on_13 : decode cX5_on 13 = .ok (.iload_n 1, 1) := by decide +kernel
theorem dX5_on_14 : decode cX5_on 14 = .ok (.imul, 1) := by decide +kernel
theorem dX5_on_15 : decode cX5_on 15 = .ok (.istore_n 2, 1) := by decide +kernel
theorem dX5_on_16 : decode cX5_on 16 = .ok (.aload_n 0, 1) := by decide +kernel
theorem dX5_on_17 : decode cX5_on 17 = .ok (.getfield 47, 3) := by decide +kernel
theorem dX5_on_20 : decode cX5_on 20 = .ok (.iload_n 2, 1) := by decide +kernel
theorem dX5_on_21 : decode cX5_on 21 = .ok (.iaload, 1) := by decide +kernel
theorem dX5_on_22 : decode cX5_on 22 = .ok (.bipush (-9), 2) := by decide +kernel
theorem dX5_on_24 : decode cX5_on 24 = .ok (.if_icmp .ne 9, 3) := by decide +kernel
theorem dX5_on_27 : decode cX5_on 27 = .ok (.aload_n 0, 1) := by decide +kernel
theorem dX5_on_28 : decode cX5_on 28 = .ok (.iconst 1, 1) := by decide +kernel
theorem dX5_on_29 : decode cX5_on 29 = .ok (.invokevirtual 68, 3) := by decide +kernel
theorem dX5_on_32 : decode cX5_on 32 = .ok (.ireturn, 1) := by decide +kernel
theorem dX5_on_33 : decode cX5_on 33 = .ok (.aload_n 0, 1) := by decide +kernel
theorem dX5_on_34 : decode cX5_on 34 = .ok (.aload_n 0, 1) := by decide +kernel
theorem dX5_on_35 : decode cX5_on 35 = .ok (.getfield 47, 3) := by decide +kernel
theorem dX5_on_38 : decode cX5_on 38 = .ok (.iload_n 2, 1) := by decide +kernel
theorem dX5_on_39 : decode cX5_on 39 = .ok (.iaload, 1) := by decide +kernel
theorem dX5_on_40 : decode cX5_on 40 = .ok (.putfield 119, 3) := by decide +kernel
theorem dX5_on_43 : decode cX5_on 43 = .ok (.iconst 0, 1) := by decide +kernel
theorem dX5_on_44 : decode cX5_on 44 = .ok (.istore_n 3, 1) := by decide +kernel
theorem dX5_on_45 : decode cX5_on 45 = .ok (.iload_n 3, 1) := by decide +kernel
theorem dX5_on_46 : decode cX5_on 46 = .ok (.iconst 5, 1) := by decide +kernel
theorem dX5_on_47 : decode cX5_on 47 = .ok (.if_icmp .ge 59, 3) := by decide +kernel
theorem dX5_on_50 : decode cX5_on 50 = .ok (.aload_n 0, 1) := by decide +kernel
theorem dX5_on_51 : decode cX5_on 51 = .ok (.getfield 35, 3) := by decide +kernel
theorem dX5_on_54 : decode cX5_on 54 = .ok (.iload_n 3, 1) := by decide +kernel
theorem dX5_on_55 : decode cX5_on 55 = .ok (.aload_n 0, 1) := by decide +kernel
theorem dX5_on_56 : decode cX5_on 56 = .ok (.getfield 47, 3) := by decide +kernel
theorem dX5_on_59 : decode cX5_on 59 = .ok (.iload_n 2, 1) := by decide +kernel
theorem dX5_on_60 : decode cX5_on 60 = .ok (.iconst 1, 1) := by decide +kernel
theorem dX5_on_61 : decode cX5_on 61 = .ok (.iadd, 1) := by decide +kernel
theorem dX5_on_62 : decode cX5_on 62 = .ok (.iload_n 3, 1) := by decide +kernel
theorem dX5_on_63 : decode cX5_on 63 = .ok (.iadd, 1) := by decide +kernel
theorem dX5_on_64 : decode cX5_on 64 = .ok (.iaload, 1) := by decide +kernel
theorem dX5_on_65 : decode cX5_on 65 = .ok (.iastore, 1) := by decide +kernel
theorem dX5_on_66 : decode cX5_on 66 = .ok (.aload_n 0, 1) := by decide +kernel
theorem dX5_on_67 : decode cX5_on 67 = .ok (.getfield 38, 3) := by decide +kernel
theorem dX5_on_70 : decode cX5_on 70 = .ok (.iload_n 3, 1) := by decide +kernel
theorem dX5_on_71 : decode cX5_on 71 = .ok (.aload_n 0, 1) := by decide +kernel
theorem dX5_on_72 : decode cX5_on 72 = .ok (.getfield 47, 3) := by decide +kernel
theorem dX5_on_75 : decode cX5_on 75 = .ok (.iload_n 2, 1) := by decide +kernel
theorem dX5_on_76 : decode cX5_on 76 = .ok (.bipush 6, 2) := by decide +kernel
theorem dX5_on_78 : decode cX5_on 78 = .ok (.iadd, 1) := by decide +kernel
theorem dX5_on_79 : decode cX5_on 79 = .ok (.iload_n 3, 1) := by decide +kernel
theorem dX5_on_80 : decode cX5_on 80 = .ok (.iadd, 1) := by decide +kernel
theorem dX5_on_81 : decode cX5_on 81 = .ok (.iaload, 1) := by decide +kernel
theorem dX5_on_82 : decode cX5_on 82 = .ok (.iastore, 1) := by decide +kernel
theorem dX5_on_83 : decode cX5_on 83 = .ok (.aload_n 0, 1) := by decide +kernel
theorem dX5_on_84 : decode cX5_on 84 = .ok (.getfield 41, 3) := by decide +kernel
theorem dX5_on_87 : decode cX5_on 87 = .ok (.iload_n 3, 1) := by decide +kernel
theorem dX5_on_88 : decode cX5_on 88 = .ok (.aload_n 0, 1) := by decide +kernel
theorem dX5_on_89 : decode cX5_on 89 = .ok (.getfield 47, 3) := by decide +kernel
theorem dX5_on_92 : decode cX5_on 92 = .ok (.iload_n 2, 1) := by decide +kernel
theorem dX5_on_93 : decode cX5_on 93 = .ok (.bipush 11, 2) := by decide +kernel
theorem dX5_on_95 : decode cX5_on 95 = .ok (.iadd, 1) := by decide +kernel
theorem dX5_on_96 : decode cX5_on 96 = .ok (.iload_n 3, 1) := by decide +kernel
theorem dX5_on_97 : decode cX5_on 97 = .ok (.iadd, 1) := by decide +kernel
theorem dX5_on_98 : decode cX5_on 98 = .ok (.iaload, 1) := by decide +kernel
theorem dX5_on_99 : decode cX5_on 99 = .ok (.iastore, 1) := by decide +kernel
theorem dX5_on_100 : decode cX5_on 100 = .ok (.iinc 3 1, 3) := by decide +kernel
theorem dX5_on_103 : decode cX5_on 103 = .ok (.goto (-58), 3) := by decide +kernel
theorem dX5_on_106 : decode cX5_on 106 = .ok (.aload_n 0, 1) := by decide +kernel
theorem dX5_on_107 : decode cX5_on 107 = .ok (.getfield 119, 3) := by decide +kernel
theorem dX5_on_110 : decode cX5_on 110 = .ok (.ireturn, 1) := by decide +kernel
theorem dX5_date_0 : decode cX5_date 0 = .ok (.aload_n 0, 1) := by decide +kernel
theorem dX5_date_1 : decode cX5_date 1 = .ok (.iload_n 1, 1) := by decide +kernel
theorem dX5_date_2 : decode cX5_date 2 = .ok (.invokevirtual 169, 3) := by decide +kernel
theorem dX5_date_5 : decode cX5_date 5 = .ok (.ifCond .eq 19, 3) := by decide +kernel
theorem dX5_date_8 : decode cX5_date 8 = .ok (.iload_n 2, 1) := by decide +kernel
theorem dX5_date_9 : decode cX5_date 9 = .ok (.invokestatic 122, 3) := by decide +kernel
theorem dX5_date_12 : decode cX5_date 12 = .ok (.ifCond .eq 12, 3) := by decide +kernel
theorem dX5_date_15 : decode cX5_date 15 = .ok (.aload_n 0, 1) := by decide +kernel
theorem dX5_date_16 : decode cX5_date 16 = .ok (.iload_n 1, 1) := by decide +kernel
theorem dX5_date_17 : decode cX5_date 17 = .ok (.iload_n 2, 1) := by decide +kernel
theorem dX5_date_18 : decode cX5_date 18 = .ok (.invokevirtual 166, 3) := by decide +kernel
theorem dX5_date_21 : decode cX5_date 21 = .ok (.goto 4, 3) := by decide +kernel
theorem dX5_date_24 : decode cX5_date 24 = .ok (.iconst (-1), 1) := by decide +kernel
theorem dX5_date_25 : decode cX5_date 25 = .ok (.ireturn, 1) := by decide +kernel
theorem dX5_day_0 : decode cX5_day 0 = .ok (.aload_n 0, 1) := by decide +kernel
theorem dX5_day_1 : decode cX5_day 1 = .ok (.iload_n 1, 1) := by decide +kernel
theorem dX5_day_2 : decode cX5_day 2 = .ok (.invokevirtual 169, 3) := by decide +kernel
theorem dX5_day_5 : decode cX5_day 5 = .ok (.ifCond .eq 7, 3) := by decide +kernel
theorem dX5_day_8 : decode cX5_day 8 = .ok (.iload_n 2, 1) := by decide +kernel
theorem dX5_day_9 : decode cX5_day 9 = .ok (.ifCond .ge 5, 3) := by decide +kernel
theorem dX5_day_12 : decode cX5_day 12 = .ok (.iconst (-1), 1) := by decide +kernel
theorem dX5_day_13 : decode cX5_day 13 = .ok (.ireturn, 1) := by decide +kernel
theorem dX5_day_14 : decode cX5_day 14 = .ok (.aload_n 0, 1) := by decide +kernel
theorem dX5_day_15 : decode cX5_day 15 = .ok (.iload_n 1, 1) := by decide +kernel
theorem dX5_day_16 : decode cX5_day 16 = .ok (.iload_n 2, 1) := by decide +kernel
theorem dX5_day_17 : decode cX5_day 17 = .ok (.invokevirtual 185, 3) := by decide +kernel
theorem dX5_day_20 : decode cX5_day 20 = .ok (.istore_n 3, 1) := by decide +kernel
theorem dX5_day_21 : decode cX5_day 21 = .ok (.iload_n 3, 1) := by decide +kernel
theorem dX5_day_22 : decode cX5_day 22 = .ok (.bipush (-9), 2) := by decide +kernel
theorem dX5_day_24 : decode cX5_day 24 = .ok (.if_icmp .ne 11, 3) := by decide +kernel
theorem dX5_day_27 : decode cX5_day 27 = .ok (.aload_n 0, 1) := by decide +kernel
theorem dX5_day_28 : decode cX5_day 28 = .ok (.iconst 4, 1) := by decide +kernel
theorem dX5_day_29 : decode cX5_day 29 = .ok (.invokevirtual 68, 3) := by decide +kernel
theorem dX5_day_32 : decode cX5_day 32 = .ok (.goto 4, 3) := by decide +kernel
theorem dX5_day_35 : decode cX5_day 35 = .ok (.iload_n 3, 1) := by decide +kernel
theorem dX5_day_36 : decode cX5_day 36 = .ok (.ireturn, 1) := by decide +kernel
theorem dX5_year_0 : decode cX5_year 0 = .ok (.aload_n 0, 1) := by decide +kernel
theorem dX5_year_1 : decode cX5_year 1 = .ok (.iload_n 1, 1) := by decide +kernel
theorem dX5_year_2 : decode cX5_year 2 = .ok (.invokevirtual 169, 3) := by decide +kernel
theorem dX5_year_5 : decode cX5_year 5 = .ok (.ifCond .eq 14, 3) := by decide +kernel
theorem dX5_year_8 : decode cX5_year 8 = .ok (.iload_n 2, 1) := by decide +kernel
theorem dX5_year_9 : decode cX5_year 9 = .ok (.iconst 0, 1) := by decide +kernel
theorem dX5_year_10 : decode cX5_year 10 = .ok (.sipush 250, 3) := by decide +kernel
theorem dX5_year_13 : decode cX5_year 13 = .ok (.invokestatic 60, 3) := by decide +kernel
theorem dX5_year_16 : decode cX5_year 16 = .ok (.ifCond .ne 5, 3) := by decide +kernel
theorem dX5_year_19 : decode cX5_year 19 = .ok (.iconst (-1), 1) := by decide +kernel
theorem dX5_year_20 : decode cX5_year 20 = .ok (.ireturn, 1) := by decide +kernel
theorem dX5_year_21 : decode cX5_year 21 = .ok (.aload_n 0, 1) := by decide +kernel
theorem dX5_year_22 : decode cX5_year 22 = .ok (.iload_n 1, 1) := by decide +kernel
theorem dX5_year_23 : decode cX5_year 23 = .ok (.invokevirtual 141, 3) := by decide +kernel
theorem dX5_year_26 : decode cX5_year 26 = .ok (.iconst 0, 1) := by decide +kernel
theorem dX5_year_27 : decode cX5_year 27 = .ok (.istore_n 3, 1) := by decide +kernel
theorem dX5_year_28 : decode cX5_year 28 = .ok (.iconst 0, 1) := by decide +kernel
theorem dX5_year_29 : decode cX5_year 29 = .ok (.istore 4, 2) := by decide +kernel
theorem dX5_year_31 : decode cX5_year 31 = .ok (.iload 4, 2) := by decide +kernel
theorem dX5_year_33 : decode cX5_year 33 = .ok (.aload_n 0, 1) := by decide +kernel
theorem dX5_year_34 : decode cX5_year 34 = .ok (.iload_n 2, 1) := by decide +kernel
theorem dX5_year_35 : decode cX5_year 35 = .ok (.invokevirtual 160, 3) := by decide +kernel
theorem dX5_year_38 : decode cX5_year 38 = .ok (.if_icmp .ge 34, 3) := by decide +kernel
theorem dX5_year_41 : decode cX5_year 41 = .ok (.iload_n 3, 1) := by decide +kernel
theorem dX5_year_42 : decode cX5_year 42 = .ok (.aload_n 0, 1) := by decide +kernel
theorem dX5_year_43 : decode cX5_year 43 = .ok (.sipush 1000, 3) := by decide +kernel
theorem dX5_year_46 : decode cX5_year 46 = .ok (.iload_n 2, 1) := by decide +kernel
theorem dX5_year_47 : decode cX5_year 47 = .ok (.imul, 1) := by decide +kernel
theorem dX5_year_48 : decode cX5_year 48 = .ok (.iload 4, 2) := by decide +kernel
theorem dX5_year_50 : decode cX5_year 50 = .ok (.iadd, 1) := by decide +kernel
theorem dX5_year_51 : decode cX5_year 51 = .ok (.invokevirtual 163, 3) := by decide +kernel
theorem dX5_year_54 : decode cX5_year 54 = .ok (.bipush (-9), 2) := by decide +kernel
theorem dX5_year_56 : decode cX5_year 56 = .ok (.if_icmp .ne 7, 3) := by decide +kernel
theorem dX5_year_59 : decode cX5_year 59 = .ok (.iconst 0, 1) := by decide +kernel
theorem dX5_year_60 : decode cX5_year 60 = .ok (.goto 4, 3) := by decide +kernel
theorem dX5_year_63 : decode cX5_year 63 = .ok (.iconst 1, 1) := by decide +kernel
theorem dX5_year_64 : decode cX5_year 64 = .ok (.iadd, 1) := by decide +kernel
theorem dX5_year_65 : decode cX5_year 65 = .ok (.istore_n 3, 1) := by decide +kernel
theorem dX5_year_66 : decode cX5_year 66 = .ok (.iinc 4 1, 3) := by decide +kernel
theorem dX5_year_69 : decode cX5_year 69 = .ok (.goto (-38), 3) := by decide +kernel
theorem dX5_year_72 : decode cX5_year 72 = .ok (.aload_n 0, 1) := by decide +kernel
theorem dX5_year_73 : decode cX5_year 73 = .ok (.iload_n 3, 1) := by decide +kernel
theorem dX5_year_74 : decode cX5_year 74 = .ok (.aload_n 0, 1) := by decide +kernel
theorem dX5_year_75 : decode cX5_year 75 = .ok (.iload_n 2, 1) := by decide +kernel
theorem dX5_year_76 : decode cX5_year 76 = .ok (.invokevirtual 160, 3) := by decide +kernel
theorem dX5_year_79 : decode cX5_year 79 = .ok (.invokevirtual 86, 3) := by decide +kernel
theorem dX5_year_82 : decode cX5_year 82 = .ok (.ireturn, 1) := by decide +kernel
theorem dX5_same_0 : decode cX5_same 0 = .ok (.aload_n 0, 1) := by decide +kernel
theorem dX5_same_1 : decode cX5_same 1 = .ok (.iload_n 1, 1) := by decide +kernel
theorem dX5_same_2 : decode cX5_same 2 = .ok (.invokevirtual 169, 3) := by decide +kernel
theorem dX5_same_5 : decode cX5_same 5 = .ok (.ifCond .eq 15, 3) := by decide +kernel
theorem dX5_same_8 : decode cX5_same 8 = .ok (.aload_n 0, 1) := by decide +kernel
theorem dX5_same_9 : decode cX5_same 9 = .ok (.iload_n 3, 1) := by decide +kernel
theorem dX5_same_10 : decode cX5_same 10 = .ok (.invokevirtual 169, 3) := by decide +kernel
theorem dX5_same_13 : decode cX5_same 13 = .ok (.ifCond .eq 7, 3) := by decide +kernel
theorem dX5_same_16 : decode cX5_same 16 = .ok (.iload_n 2, 1) := by decide +kernel
theorem dX5_same_17 : decode cX5_same 17 = .ok (.ifCond .ge 5, 3) := by decide +kernel
theorem dX5_same_20 : decode cX5_same 20 = .ok (.iconst (-1), 1) := by decide +kernel
theorem dX5_same_21 : decode cX5_same 21 = .ok (.ireturn, 1) := by decide +kernel
theorem dX5_same_22 : decode cX5_same 22 = .ok (.aload_n 0, 1) := by decide +kernel
theorem dX5_same_23 : decode cX5_same 23 = .ok (.iload_n 1, 1) := by decide +kernel
theorem dX5_same_24 : decode cX5_same 24 = .ok (.iload_n 2, 1) := by decide +kernel
theorem dX5_same_25 : decode cX5_same 25 = .ok (.invokevirtual 185, 3) := by decide +kernel
theorem dX5_same_28 : decode cX5_same 28 = .ok (.istore 4, 2) := by decide +kernel
theorem dX5_same_30 : decode cX5_same 30 = .ok (.iload 4, 2) := by decide +kernel
theorem dX5_same_32 : decode cX5_same 32 = .ok (.bipush (-9), 2) := by decide +kernel
theorem dX5_same_34 : decode cX5_same 34 = .ok (.if_icmp .ne 11, 3) := by decide +kernel
theorem dX5_same_37 : decode cX5_same 37 = .ok (.aload_n 0, 1) := by decide +kernel
theorem dX5_same_38 : decode cX5_same 38 = .ok (.iconst 4, 1) := by decide +kernel
theorem dX5_same_39 : decode cX5_same 39 = .ok (.invokevirtual 68, 3) := by decide +kernel
theorem dX5_same_42 : decode cX5_same 42 = .ok (.goto 10, 3) := by decide +kernel
theorem dX5_same_45 : decode cX5_same 45 = .ok (.aload_n 0, 1) := by decide +kernel
theorem dX5_same_46 : decode cX5_same 46 = .ok (.iload_n 3, 1) := by decide +kernel
theorem dX5_same_47 : decode cX5_same 47 = .ok (.iload 4, 2) := by decide +kernel
theorem dX5_same_49 : decode cX5_same 49 = .ok (.invokevirtual 166, 3) := by decide +kernel
theorem dX5_same_52 : decode cX5_same 52 = .ok (.ireturn, 1) := by decide +kernel
theorem dX5_between_0 : decode cX5_between 0 = .ok (.aload_n 0, 1) := by decide +kernel
theorem dX5_between_1 : decode cX5_between 1 = .ok (.iload_n 1, 1) := by decide +kernel
theorem dX5_between_2 : decode cX5_between 2 = .ok (.invokevirtual 169, 3) := by decide +kernel
theorem dX5_between_5 : decode cX5_between 5 = .ok (.ifCond .eq 11, 3) := by decide +kernel
theorem dX5_between_8 : decode cX5_between 8 = .ok (.iload_n 2, 1) := by decide +kernel
theorem dX5_between_9 : decode cX5_between 9 = .ok (.ifCond .lt 7, 3) := by decide +kernel
theorem dX5_between_12 : decode cX5_between 12 = .ok (.iload_n 3, 1) := by decide +kernel
theorem dX5_between_13 : decode cX5_between 13 = .ok (.ifCond .ge 5, 3) := by decide +kernel
theorem dX5_between_16 : decode cX5_between 16 = .ok (.iconst (-1), 1) := by decide +kernel
theorem dX5_between_17 : decode cX5_between 17 = .ok (.ireturn, 1) := by decide +kernel
theorem dX5_between_18 : decode cX5_between 18 = .ok (.aload_n 0, 1) := by decide +kernel
theorem dX5_between_19 : decode cX5_between 19 = .ok (.iload_n 1, 1) := by decide +kernel
theorem dX5_between_20 : decode cX5_between 20 = .ok (.iload_n 2, 1) := by decide +kernel
theorem dX5_between_21 : decode cX5_between 21 = .ok (.invokevirtual 185, 3) := by decide +kernel
theorem dX5_between_24 : decode cX5_between 24 = .ok (.istore 4, 2) := by decide +kernel
theorem dX5_between_26 : decode cX5_between 26 = .ok (.aload_n 0, 1) := by decide +kernel
theorem dX5_between_27 : decode cX5_between 27 = .ok (.iload_n 1, 1) := by decide +kernel
theorem dX5_between_28 : decode cX5_between 28 = .ok (.iload_n 3, 1) := by decide +kernel
theorem dX5_between_29 : decode cX5_between 29 = .ok (.invokevirtual 185, 3) := by decide +kernel
theorem dX5_between_32 : decode cX5_between 32 = .ok (.istore 5, 2) := by decide +kernel
theorem dX5_between_34 : decode cX5_between 34 = .ok (.iload 4, 2) := by decide +kernel
theorem dX5_between_36 : decode cX5_between 36 = .ok (.bipush (-9), 2) := by decide +kernel
theorem dX5_between_38 : decode cX5_between 38 = .ok (.if_icmp .eq 10, 3) := by decide +kernel
theorem dX5_between_41 : decode cX5_between 41 = .ok (.iload 5, 2) := by decide +kernel
theorem dX5_between_43 : decode cX5_between 43 = .ok (.bipush (-9), 2) := by decide +kernel
theorem dX5_between_45 : decode cX5_between 45 = .ok (.if_icmp .ne 11, 3) := by decide +kernel
theorem dX5_between_48 : decode cX5_between 48 = .ok (.aload_n 0, 1) := by decide +kernel
theorem dX5_between_49 : decode cX5_between 49 = .ok (.iconst 4, 1) := by decide +kernel
theorem dX5_between_50 : decode cX5_between 50 = .ok (.invokevirtual 68, 3) := by decide +kernel
theorem dX5_between_53 : decode cX5_between 53 = .ok (.goto 13, 3) := by decide +kernel
theorem dX5_between_56 : decode cX5_between 56 = .ok (.aload_n 0, 1) := by decide +kernel
theorem dX5_between_57 : decode cX5_between 57 = .ok (.iload 5, 2) := by decide +kernel
theorem dX5_between_59 : decode cX5_between 59 = .ok (.iload 4, 2) := by decide +kernel
theorem dX5_between_61 : decode cX5_between 61 = .ok (.isub, 1) := by decide +kernel
theorem dX5_between_62 : decode cX5_between 62 = .ok (.iconst 1, 1) := by decide +kernel
theorem dX5_between_63 : decode cX5_between 63 = .ok (.invokevirtual 86, 3) := by decide +kernel
theorem dX5_between_66 : decode cX5_between 66 = .ok (.ireturn, 1) := by decide +kernel
theorem dX5_where_0 : decode cX5_where 0 = .ok (.iload_n 1, 1) := by decide +kernel
theorem dX5_where_1 : decode cX5_where 1 = .ok (.invokestatic 122, 3) := by decide +kernel
theorem dX5_where_4 : decode cX5_where 4 = .ok (.ifCond .eq 7, 3) := by decide +kernel
theorem dX5_where_7 : decode cX5_where 7 = .ok (.iload_n 2, 1) := by decide +kernel
theorem dX5_where_8 : decode cX5_where 8 = .ok (.ifCond .ge 5, 3) := by decide +kernel
theorem dX5_where_11 : decode cX5_where 11 = .ok (.iconst (-1), 1) := by decide +kernel
theorem dX5_where_12 : decode cX5_where 12 = .ok (.ireturn, 1) := by decide +kernel
theorem dX5_where_13 : decode cX5_where 13 = .ok (.iconst 0, 1) := by decide +kernel
theorem dX5_where_14 : decode cX5_where 14 = .ok (.istore_n 3, 1) := by decide +kernel
theorem dX5_where_15 : decode cX5_where 15 = .ok (.iconst 0, 1) := by decide +kernel
theorem dX5_where_16 : decode cX5_where 16 = .ok (.istore 4, 2) := by decide +kernel
theorem dX5_where_18 : decode cX5_where 18 = .ok (.iconst 0, 1) := by decide +kernel
theorem dX5_where_19 : decode cX5_where 19 = .ok (.istore 5, 2) := by decide +kernel
theorem dX5_where_21 : decode cX5_where 21 = .ok (.iload 5, 2) := by decide +kernel
theorem dX5_where_23 : decode cX5_where 23 = .ok (.aload_n 0, 1) := by decide +kernel
theorem dX5_where_24 : decode cX5_where 24 = .ok (.getfield 116, 3) := by decide +kernel
theorem dX5_where_27 : decode cX5_where 27 = .ok (.if_icmp .ge 58, 3) := by decide +kernel
theorem dX5_where_30 : decode cX5_where 30 = .ok (.aload_n 0, 1) := by decide +kernel
theorem dX5_where_31 : decode cX5_where 31 = .ok (.iload 5, 2) := by decide +kernel
theorem dX5_where_33 : decode cX5_where 33 = .ok (.iload_n 1, 1) := by decide +kernel
theorem dX5_where_34 : decode cX5_where 34 = .ok (.invokevirtual 166, 3) := by decide +kernel
theorem dX5_where_37 : decode cX5_where 37 = .ok (.iload_n 2, 1) := by decide +kernel
theorem dX5_where_38 : decode cX5_where 38 = .ok (.if_icmp .ne 7, 3) := by decide +kernel
theorem dX5_where_41 : decode cX5_where 41 = .ok (.iconst 1, 1) := by decide +kernel
theorem dX5_where_42 : decode cX5_where 42 = .ok (.goto 4, 3) := by decide +kernel
theorem dX5_where_45 : decode cX5_where 45 = .ok (.iconst 0, 1) := by decide +kernel
theorem dX5_where_46 : decode cX5_where 46 = .ok (.istore 6, 2) := by decide +kernel
theorem dX5_where_48 : decode cX5_where 48 = .ok (.iload_n 3, 1) := by decide +kernel
theorem dX5_where_49 : decode cX5_where 49 = .ok (.iload 6, 2) := by decide +kernel
theorem dX5_where_51 : decode cX5_where 51 = .ok (.ifCond .eq 10, 3) := by decide +kernel
theorem dX5_where_54 : decode cX5_where 54 = .ok (.iconst 1, 1) := by decide +kernel
theorem dX5_where_55 : decode cX5_where 55 = .ok (.iload 5, 2) := by decide +kernel
theorem dX5_where_57 : decode cX5_where 57 = .ok (.ishl, 1) := by decide +kernel
theorem dX5_where_58 : decode cX5_where 58 = .ok (.goto 4, 3) := by decide +kernel
theorem dX5_where_61 : decode cX5_where 61 = .ok (.iconst 0, 1) := by decide +kernel
theorem dX5_where_62 : decode cX5_where 62 = .ok (.ior, 1) := by decide +kernel
theorem dX5_where_63 : decode cX5_where 63 = .ok (.istore_n 3, 1) := by decide +kernel
theorem dX5_where_64 : decode cX5_where 64 = .ok (.iload 4, 2) := by decide +kernel
theorem dX5_where_66 : decode cX5_where 66 = .ok (.iload 6, 2) := by decide +kernel
theorem dX5_where_68 : decode cX5_where 68 = .ok (.ifCond .eq 7, 3) := by decide +kernel
theorem dX5_where_71 : decode cX5_where 71 = .ok (.iconst 1, 1) := by decide +kernel
theorem dX5_where_72 : decode cX5_where 72 = .ok (.goto 4, 3) := by decide +kernel
theorem dX5_where_75 : decode cX5_where 75 = .ok (.iconst 0, 1) := by decide +kernel
theorem dX5_where_76 : decode cX5_where 76 = .ok (.iadd, 1) := by decide +kernel
theorem dX5_where_77 : decode cX5_where 77 = .ok (.istore 4, 2) := by decide +kernel
theorem dX5_where_79 : decode cX5_where 79 = .ok (.iinc 5 1, 3) := by decide +kernel
theorem dX5_where_82 : decode cX5_where 82 = .ok (.goto (-61), 3) := by decide +kernel
theorem dX5_where_85 : decode cX5_where 85 = .ok (.aload_n 0, 1) := by decide +kernel
theorem dX5_where_86 : decode cX5_where 86 = .ok (.iload_n 3, 1) := by decide +kernel
theorem dX5_where_87 : decode cX5_where 87 = .ok (.iload 4, 2) := by decide +kernel
theorem dX5_where_89 : decode cX5_where 89 = .ok (.invokevirtual 86, 3) := by decide +kernel
theorem dX5_where_92 : decode cX5_where 92 = .ok (.ireturn, 1) := by decide +kernel
theorem dX5_left_0 : decode cX5_left 0 = .ok (.aload_n 0, 1) := by decide +kernel
theorem dX5_left_1 : decode cX5_left 1 = .ok (.iload_n 1, 1) := by decide +kernel
theorem dX5_left_2 : decode cX5_left 2 = .ok (.invokevirtual 169, 3) := by decide +kernel
theorem dX5_left_5 : decode cX5_left 5 = .ok (.ifCond .eq 10, 3) := by decide +kernel
theorem dX5_left_8 : decode cX5_left 8 = .ok (.iload_n 2, 1) := by decide +kernel
theorem dX5_left_9 : decode cX5_left 9 = .ok (.invokestatic 64, 3) := by decide +kernel
theorem dX5_left_12 : decode cX5_left 12 = .ok (.ifCond .ne 5, 3) := by decide +kernel
theorem dX5_left_15 : decode cX5_left 15 = .ok (.iconst (-1), 1) := by decide +kernel
theorem dX5_left_16 : decode cX5_left 16 = .ok (.ireturn, 1) := by decide +kernel
theorem dX5_left_17 : decode cX5_left 17 = .ok (.aload_n 0, 1) := by decide +kernel
theorem dX5_left_18 : decode cX5_left 18 = .ok (.iload_n 1, 1) := by decide +kernel
theorem dX5_left_19 : decode cX5_left 19 = .ok (.invokevirtual 141, 3) := by decide +kernel
theorem dX5_left_22 : decode cX5_left 22 = .ok (.aload_n 0, 1) := by decide +kernel
theorem dX5_left_23 : decode cX5_left 23 = .ok (.invokevirtual 148, 3) := by decide +kernel
theorem dX5_left_26 : decode cX5_left 26 = .ok (.ifCond .ne 7, 3) := by decide +kernel
theorem dX5_left_29 : decode cX5_left 29 = .ok (.iconst 0, 1) := by decide +kernel
theorem dX5_left_30 : decode cX5_left 30 = .ok (.goto 24, 3) := by decide +kernel
theorem dX5_left_33 : decode cX5_left 33 = .ok (.aload_n 0, 1) := by decide +kernel
theorem dX5_left_34 : decode cX5_left 34 = .ok (.getfield 125, 3) := by decide +kernel
theorem dX5_left_37 : decode cX5_left 37 = .ok (.iconst 5, 1) := by decide +kernel
theorem dX5_left_38 : decode cX5_left 38 = .ok (.if_icmp .ne 12, 3) := by decide +kernel
theorem dX5_left_41 : decode cX5_left 41 = .ok (.iconst 2, 1) := by decide +kernel
theorem dX5_left_42 : decode cX5_left 42 = .ok (.aload_n 0, 1) := by decide +kernel
theorem dX5_left_43 : decode cX5_left 43 = .ok (.getfield 134, 3) := by decide +kernel
theorem dX5_left_46 : decode cX5_left 46 = .ok (.imul, 1) := by decide +kernel
theorem dX5_left_47 : decode cX5_left 47 = .ok (.goto 7, 3) := by decide +kernel
theorem dX5_left_50 : decode cX5_left 50 = .ok (.aload_n 0, 1) := by decide +kernel
theorem dX5_left_51 : decode cX5_left 51 = .ok (.getfield 134, 3) := by decide +kernel
theorem dX5_left_54 : decode cX5_left 54 = .ok (.istore_n 3, 1) := by decide +kernel
theorem dX5_left_55 : decode cX5_left 55 = .ok (.aload_n 0, 1) := by decide +kernel
theorem dX5_left_56 : decode cX5_left 56 = .ok (.iload_n 2, 1) := by decide +kernel
theorem dX5_left_57 : decode cX5_left 57 = .ok (.iload_n 3, 1) := by decide +kernel
theorem dX5_left_58 : decode cX5_left 58 = .ok (.invokevirtual 188, 3) := by decide +kernel
theorem dX5_left_61 : decode cX5_left 61 = .ok (.pop, 1) := by decide +kernel
theorem dX5_left_62 : decode cX5_left 62 = .ok (.iconst 0, 1) := by decide +kernel
theorem dX5_left_63 : decode cX5_left 63 = .ok (.istore 4, 2) := by decide +kernel
theorem dX5_left_65 : decode cX5_left 65 = .ok (.iload 4, 2) := by decide +kernel
theorem dX5_left_67 : decode cX5_left 67 = .ok (.iload_n 3, 1) := by decide +kernel
theorem dX5_left_68 : decode cX5_left 68 = .ok (.if_icmp .ge 44, 3) := by decide +kernel
theorem dX5_left_71 : decode cX5_left 71 = .ok (.aload_n 0, 1) := by decide +kernel
theorem dX5_left_72 : decode cX5_left 72 = .ok (.iload_n 2, 1) := by decide +kernel
theorem dX5_left_73 : decode cX5_left 73 = .ok (.iload 4, 2) := by decide +kernel
theorem dX5_left_75 : decode cX5_left 75 = .ok (.aload_n 0, 1) := by decide +kernel
theorem dX5_left_76 : decode cX5_left 76 = .ok (.aload_n 0, 1) := by decide +kernel
theorem dX5_left_77 : decode cX5_left 77 = .ok (.getfield 131, 3) := by decide +kernel
theorem dX5_left_80 : decode cX5_left 80 = .ok (.iload 4, 2) := by decide +kernel
theorem dX5_left_82 : decode cX5_left 82 = .ok (.iadd, 1) := by decide +kernel
theorem dX5_left_83 : decode cX5_left 83 = .ok (.iload 4, 2) := by decide +kernel
theorem dX5_left_85 : decode cX5_left 85 = .ok (.aload_n 0, 1) := by decide +kernel
theorem dX5_left_86 : decode cX5_left 86 = .ok (.getfield 134, 3) := by decide +kernel
theorem dX5_left_89 : decode cX5_left 89 = .ok (.if_icmp .ge 7, 3) := by decide +kernel
theorem dX5_left_92 : decode cX5_left 92 = .ok (.iconst 0, 1) := by decide +kernel
theorem dX5_left_93 : decode cX5_left 93 = .ok (.goto 6, 3) := by decide +kernel
theorem dX5_left_96 : decode cX5_left 96 = .ok (.sipush 1000, 3) := by decide +kernel
theorem dX5_left_99 : decode cX5_left 99 = .ok (.iadd, 1) := by decide +kernel
theorem dX5_left_100 : decode cX5_left 100 = .ok (.invokevirtual 154, 3) := by decide +kernel
theorem dX5_left_103 : decode cX5_left 103 = .ok (.invokevirtual 75, 3) := by decide +kernel
theorem dX5_left_106 : decode cX5_left 106 = .ok (.iinc 4 1, 3) := by decide +kernel
theorem dX5_left_109 : decode cX5_left 109 = .ok (.goto (-44), 3) := by decide +kernel
theorem dX5_left_112 : decode cX5_left 112 = .ok (.iload_n 3, 1) := by decide +kernel
theorem dX5_left_113 : decode cX5_left 113 = .ok (.ireturn, 1) := by decide +kernel
theorem dX5_dates_0 : decode cX5_dates 0 = .ok (.aload_n 0, 1) := by decide +kernel
theorem dX5_dates_1 : decode cX5_dates 1 = .ok (.iload_n 1, 1) := by decide +kernel
theorem dX5_dates_2 : decode cX5_dates 2 = .ok (.invokevirtual 169, 3) := by decide +kernel
theorem dX5_dates_5 : decode cX5_dates 5 = .ok (.ifCond .eq 27, 3) := by decide +kernel
theorem dX5_dates_8 : decode cX5_dates 8 = .ok (.iload_n 2, 1) := by decide +kernel
theorem dX5_dates_9 : decode cX5_dates 9 = .ok (.iload_n 3, 1) := by decide +kernel
theorem dX5_dates_10 : decode cX5_dates 10 = .ok (.invokestatic 191, 3) := by decide +kernel
theorem dX5_dates_13 : decode cX5_dates 13 = .ok (.ifCond .eq 19, 3) := by decide +kernel
theorem dX5_dates_16 : decode cX5_dates 16 = .ok (.iload_n 3, 1) := by decide +kernel
theorem dX5_dates_17 : decode cX5_dates 17 = .ok (.iload_n 2, 1) := by decide +kernel
theorem dX5_dates_18 : decode cX5_dates 18 = .ok (.isub, 1) := by decide +kernel
theorem dX5_dates_19 : decode cX5_dates 19 = .ok (.bipush 40, 2) := by decide +kernel
theorem dX5_dates_21 : decode cX5_dates 21 = .ok (.if_icmp .ge 11, 3) := by decide +kernel
theorem dX5_dates_24 : decode cX5_dates 24 = .ok (.iload 4, 2) := by decide +kernel
theorem dX5_dates_26 : decode cX5_dates 26 = .ok (.invokestatic 64, 3) := by decide +kernel
theorem dX5_dates_29 : decode cX5_dates 29 = .ok (.ifCond .ne 5, 3) := by decide +kernel
theorem dX5_dates_32 : decode cX5_dates 32 = .ok (.iconst (-1), 1) := by decide +kernel
theorem dX5_dates_33 : decode cX5_dates 33 = .ok (.ireturn, 1) := by decide +kernel
theorem dX5_dates_34 : decode cX5_dates 34 = .ok (.aload_n 0, 1) := by decide +kernel
theorem dX5_dates_35 : decode cX5_dates 35 = .ok (.iload 4, 2) := by decide +kernel
theorem dX5_dates_37 : decode cX5_dates 37 = .ok (.iload_n 3, 1) := by decide +kernel
theorem dX5_dates_38 : decode cX5_dates 38 = .ok (.iload_n 2, 1) := by decide +kernel
theorem dX5_dates_39 : decode cX5_dates 39 = .ok (.isub, 1) := by decide +kernel
theorem dX5_dates_40 : decode cX5_dates 40 = .ok (.iconst 1, 1) := by decide +kernel
theorem dX5_dates_41 : decode cX5_dates 41 = .ok (.iadd, 1) := by decide +kernel
theorem dX5_dates_42 : decode cX5_dates 42 = .ok (.invokevirtual 188, 3) := by decide +kernel
theorem dX5_dates_45 : decode cX5_dates 45 = .ok (.pop, 1) := by decide +kernel
theorem dX5_dates_46 : decode cX5_dates 46 = .ok (.iload_n 2, 1) := by decide +kernel
theorem dX5_dates_47 : decode cX5_dates 47 = .ok (.istore 5, 2) := by decide +kernel
theorem dX5_dates_49 : decode cX5_dates 49 = .ok (.iload 5, 2) := by decide +kernel
theorem dX5_dates_51 : decode cX5_dates 51 = .ok (.iload_n 3, 1) := by decide +kernel
theorem dX5_dates_52 : decode cX5_dates 52 = .ok (.if_icmp .gt 26, 3) := by decide +kernel
theorem dX5_dates_55 : decode cX5_dates 55 = .ok (.aload_n 0, 1) := by decide +kernel
theorem dX5_dates_56 : decode cX5_dates 56 = .ok (.iload 4, 2) := by decide +kernel
theorem dX5_dates_58 : decode cX5_dates 58 = .ok (.iload 5, 2) := by decide +kernel
theorem dX5_dates_60 : decode cX5_dates 60 = .ok (.iload_n 2, 1) := by decide +kernel
theorem dX5_dates_61 : decode cX5_dates 61 = .ok (.isub, 1) := by decide +kernel
theorem dX5_dates_62 : decode cX5_dates 62 = .ok (.aload_n 0, 1) := by decide +kernel
theorem dX5_dates_63 : decode cX5_dates 63 = .ok (.iload_n 1, 1) := by decide +kernel
theorem dX5_dates_64 : decode cX5_dates 64 = .ok (.iload 5, 2) := by decide +kernel
theorem dX5_dates_66 : decode cX5_dates 66 = .ok (.invokevirtual 166, 3) := by decide +kernel
theorem dX5_dates_69 : decode cX5_dates 69 = .ok (.invokevirtual 75, 3) := by decide +kernel
theorem dX5_dates_72 : decode cX5_dates 72 = .ok (.iinc 5 1, 3) := by decide +kernel
theorem dX5_dates_75 : decode cX5_dates 75 = .ok (.goto (-26), 3) := by decide +kernel
theorem dX5_dates_78 : decode cX5_dates 78 = .ok (.iload_n 3, 1) := by decide +kernel
theorem dX5_dates_79 : decode cX5_dates 79 = .ok (.iload_n 2, 1) := by decide +kernel
theorem dX5_dates_80 : decode cX5_dates 80 = .ok (.isub, 1) := by decide +kernel
theorem dX5_dates_81 : decode cX5_dates 81 = .ok (.iconst 1, 1) := by decide +kernel
theorem dX5_dates_82 : decode cX5_dates 82 = .ok (.iadd, 1) := by decide +kernel
theorem dX5_dates_83 : decode cX5_dates 83 = .ok (.ireturn, 1) := by decide +kernel
theorem dX5_ageOf_0 : decode cX5_ageOf 0 = .ok (.iconst 0, 1) := by decide +kernel
theorem dX5_ageOf_1 : decode cX5_ageOf 1 = .ok (.istore_n 2, 1) := by decide +kernel
theorem dX5_ageOf_2 : decode cX5_ageOf 2 = .ok (.iload_n 1, 1) := by decide +kernel
theorem dX5_ageOf_3 : decode cX5_ageOf 3 = .ok (.sipush 1000, 3) := by decide +kernel
theorem dX5_ageOf_6 : decode cX5_ageOf 6 = .ok (.iadd, 1) := by decide +kernel
theorem dX5_ageOf_7 : decode cX5_ageOf 7 = .ok (.istore_n 3, 1) := by decide +kernel
theorem dX5_ageOf_8 : decode cX5_ageOf 8 = .ok (.iload_n 3, 1) := by decide +kernel
theorem dX5_ageOf_9 : decode cX5_ageOf 9 = .ok (.ldc 194, 2) := by decide +kernel
theorem dX5_ageOf_11 : decode cX5_ageOf 11 = .ok (.if_icmp .ge 43, 3) := by decide +kernel
theorem dX5_ageOf_14 : decode cX5_ageOf 14 = .ok (.aload_n 0, 1) := by decide +kernel
theorem dX5_ageOf_15 : decode cX5_ageOf 15 = .ok (.iload_n 3, 1) := by decide +kernel
theorem dX5_ageOf_16 : decode cX5_ageOf 16 = .ok (.invokevirtual 163, 3) := by decide +kernel
theorem dX5_ageOf_19 : decode cX5_ageOf 19 = .ok (.istore 4, 2) := by decide +kernel
theorem dX5_ageOf_21 : decode cX5_ageOf 21 = .ok (.iload_n 2, 1) := by decide +kernel
theorem dX5_ageOf_22 : decode cX5_ageOf 22 = .ok (.iload 4, 2) := by decide +kernel
theorem dX5_ageOf_24 : decode cX5_ageOf 24 = .ok (.bipush (-9), 2) := by decide +kernel
theorem dX5_ageOf_26 : decode cX5_ageOf 26 = .ok (.if_icmp .eq 16, 3) := by decide +kernel
theorem dX5_ageOf_29 : decode cX5_ageOf 29 = .ok (.iload 4, 2) := by decide +kernel
theorem dX5_ageOf_31 : decode cX5_ageOf 31 = .ok (.aload_n 0, 1) := by decide +kernel
theorem dX5_ageOf_32 : decode cX5_ageOf 32 = .ok (.getfield 119, 3) := by decide +kernel
theorem dX5_ageOf_35 : decode cX5_ageOf 35 = .ok (.if_icmp .gt 7, 3) := by decide +kernel
theorem dX5_ageOf_38 : decode cX5_ageOf 38 = .ok (.iconst 1, 1) := by decide +kernel
theorem dX5_ageOf_39 : decode cX5_ageOf 39 = .ok (.goto 4, 3) := by decide +kernel
theorem dX5_ageOf_42 : decode cX5_ageOf 42 = .ok (.iconst 0, 1) := by decide +kernel
theorem dX5_ageOf_43 : decode cX5_ageOf 43 = .ok (.iadd, 1) := by decide +kernel
theorem dX5_ageOf_44 : decode cX5_ageOf 44 = .ok (.istore_n 2, 1) := by decide +kernel
theorem dX5_ageOf_45 : decode cX5_ageOf 45 = .ok (.iinc 3 1000, 6) := by decide +kernel
theorem dX5_ageOf_51 : decode cX5_ageOf 51 = .ok (.goto (-43), 3) := by decide +kernel
theorem dX5_ageOf_54 : decode cX5_ageOf 54 = .ok (.iload_n 2, 1) := by decide +kernel
theorem dX5_ageOf_55 : decode cX5_ageOf 55 = .ok (.ireturn, 1) := by decide +kernel
theorem dX5_age_0 : decode cX5_age 0 = .ok (.aload_n 0, 1) := by decide +kernel
theorem dX5_age_1 : decode cX5_age 1 = .ok (.iload_n 1, 1) := by decide +kernel
theorem dX5_age_2 : decode cX5_age 2 = .ok (.invokevirtual 169, 3) := by decide +kernel
theorem dX5_age_5 : decode cX5_age 5 = .ok (.ifCond .eq 7, 3) := by decide +kernel
theorem dX5_age_8 : decode cX5_age 8 = .ok (.iload_n 2, 1) := by decide +kernel
theorem dX5_age_9 : decode cX5_age 9 = .ok (.ifCond .ge 5, 3) := by decide +kernel
theorem dX5_age_12 : decode cX5_age 12 = .ok (.iconst (-1), 1) := by decide +kernel
theorem dX5_age_13 : decode cX5_age 13 = .ok (.ireturn, 1) := by decide +kernel
theorem dX5_age_14 : decode cX5_age 14 = .ok (.aload_n 0, 1) := by decide +kernel
theorem dX5_age_15 : decode cX5_age 15 = .ok (.iload_n 1, 1) := by decide +kernel
theorem dX5_age_16 : decode cX5_age 16 = .ok (.iload_n 2, 1) := by decide +kernel
theorem dX5_age_17 : decode cX5_age 17 = .ok (.invokevirtual 185, 3) := by decide +kernel
theorem dX5_age_20 : decode cX5_age 20 = .ok (.istore_n 3, 1) := by decide +kernel
theorem dX5_age_21 : decode cX5_age 21 = .ok (.iload_n 3, 1) := by decide +kernel
