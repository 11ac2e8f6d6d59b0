theorem dX4_digest_4 : decode cX4_digest 4 = .ok (.iconst 0, 1) := by decide +kernel
theorem dX4_digest_5 : decode cX4_digest 5 = .ok (.istore_n 3, 1) := by decide +kernel
theorem dX4_digest_6 : decode cX4_digest 6 = .ok (.iload_n 3, 1) := by decide +kernel
theorem dX4_digest_7 : decode cX4_digest 7 = .ok (.bipush 6, 2) := by decide +kernel
theorem dX4_digest_9 : decode cX4_digest 9 = .ok (.if_icmp .gt 22, 3) := by decide +kernel
theorem dX4_digest_12 : decode cX4_digest 12 = .ok (.ldc2_w 303, 3) := by decide +kernel
theorem dX4_digest_15 : decode cX4_digest 15 = .ok (.lload_n 1, 1) := by decide +kernel
theorem dX4_digest_16 : decode cX4_digest 16 = .ok (.lmul, 1) := by decide +kernel
theorem dX4_digest_17 : decode cX4_digest 17 = .ok (.aload_n 0, 1) := by decide +kernel
theorem dX4_digest_18 : decode cX4_digest 18 = .ok (.iload_n 3, 1) := by decide +kernel
theorem dX4_digest_19 : decode cX4_digest 19 = .ok (.invokevirtual 305, 3) := by decide +kernel
theorem dX4_digest_22 : decode cX4_digest 22 = .ok (.i2l, 1) := by decide +kernel
theorem dX4_digest_23 : decode cX4_digest 23 = .ok (.ladd, 1) := by decide +kernel
theorem dX4_digest_24 : decode cX4_digest 24 = .ok (.lstore_n 1, 1) := by decide +kernel
theorem dX4_digest_25 : decode cX4_digest 25 = .ok (.iinc 3 1, 3) := by decide +kernel
theorem dX4_digest_28 : decode cX4_digest 28 = .ok (.goto (-22), 3) := by decide +kernel
theorem dX4_digest_31 : decode cX4_digest 31 = .ok (.iconst 0, 1) := by decide +kernel
theorem dX4_digest_32 : decode cX4_digest 32 = .ok (.istore_n 3, 1) := by decide +kernel
theorem dX4_digest_33 : decode cX4_digest 33 = .ok (.iload_n 3, 1) := by decide +kernel
theorem dX4_digest_34 : decode cX4_digest 34 = .ok (.aload_n 0, 1) := by decide +kernel
theorem dX4_digest_35 : decode cX4_digest 35 = .ok (.getfield 42, 3) := by decide +kernel
theorem dX4_digest_38 : decode cX4_digest 38 = .ok (.if_icmp .ge 39, 3) := by decide +kernel
theorem dX4_digest_41 : decode cX4_digest 41 = .ok (.iconst 0, 1) := by decide +kernel
theorem dX4_digest_42 : decode cX4_digest 42 = .ok (.istore 4, 2) := by decide +kernel
theorem dX4_digest_44 : decode cX4_digest 44 = .ok (.iload 4, 2) := by decide +kernel
theorem dX4_digest_46 : decode cX4_digest 46 = .ok (.iconst 4, 1) := by decide +kernel
theorem dX4_digest_47 : decode cX4_digest 47 = .ok (.if_icmp .gt 24, 3) := by decide +kernel
theorem dX4_digest_50 : decode cX4_digest 50 = .ok (.ldc2_w 303, 3) := by decide +kernel
theorem dX4_digest_53 : decode cX4_digest 53 = .ok (.lload_n 1, 1) := by decide +kernel
theorem dX4_digest_54 : decode cX4_digest 54 = .ok (.lmul, 1) := by decide +kernel
theorem dX4_digest_55 : decode cX4_digest 55 = .ok (.aload_n 0, 1) := by decide +kernel
theorem dX4_digest_56 : decode cX4_digest 56 = .ok (.iload_n 3, 1) := by decide +kernel
theorem dX4_digest_57 : decode cX4_digest 57 = .ok (.iload 4, 2) := by decide +kernel
theorem dX4_digest_59 : decode cX4_digest 59 = .ok (.invokevirtual 131, 3) := by decide +kernel
theorem dX4_digest_62 : decode cX4_digest 62 = .ok (.i2l, 1) := by decide +kernel
theorem dX4_digest_63 : decode cX4_digest 63 = .ok (.ladd, 1) := by decide +kernel
theorem dX4_digest_64 : decode cX4_digest 64 = .ok (.lstore_n 1, 1) := by decide +kernel
theorem dX4_digest_65 : decode cX4_digest 65 = .ok (.iinc 4 1, 3) := by decide +kernel
theorem dX4_digest_68 : decode cX4_digest 68 = .ok (.goto (-24), 3) := by decide +kernel
theorem dX4_digest_71 : decode cX4_digest 71 = .ok (.iinc 3 1, 3) := by decide +kernel
theorem dX4_digest_74 : decode cX4_digest 74 = .ok (.goto (-41), 3) := by decide +kernel
theorem dX4_digest_77 : decode cX4_digest 77 = .ok (.iconst 0, 1) := by decide +kernel
theorem dX4_digest_78 : decode cX4_digest 78 = .ok (.istore_n 3, 1) := by decide +kernel
theorem dX4_digest_79 : decode cX4_digest 79 = .ok (.iload_n 3, 1) := by decide +kernel
theorem dX4_digest_80 : decode cX4_digest 80 = .ok (.iconst 3, 1) := by decide +kernel
theorem dX4_digest_81 : decode cX4_digest 81 = .ok (.if_icmp .ge 42, 3) := by decide +kernel
theorem dX4_digest_84 : decode cX4_digest 84 = .ok (.ldc2_w 303, 3) := by decide +kernel
theorem dX4_digest_87 : decode cX4_digest 87 = .ok (.lload_n 1, 1) := by decide +kernel
theorem dX4_digest_88 : decode cX4_digest 88 = .ok (.lmul, 1) := by decide +kernel
theorem dX4_digest_89 : decode cX4_digest 89 = .ok (.aload_n 0, 1) := by decide +kernel
theorem dX4_digest_90 : decode cX4_digest 90 = .ok (.getfield 29, 3) := by decide +kernel
theorem dX4_digest_93 : decode cX4_digest 93 = .ok (.iload_n 3, 1) := by decide +kernel
theorem dX4_digest_94 : decode cX4_digest 94 = .ok (.aaload, 1) := by decide +kernel
theorem dX4_digest_95 : decode cX4_digest 95 = .ok (.getfield 124, 3) := by decide +kernel
theorem dX4_digest_98 : decode cX4_digest 98 = .ok (.ifCond .eq 15, 3) := by decide +kernel
theorem dX4_digest_101 : decode cX4_digest 101 = .ok (.aload_n 0, 1) := by decide +kernel
theorem dX4_digest_102 : decode cX4_digest 102 = .ok (.getfield 29, 3) := by decide +kernel
theorem dX4_digest_105 : decode cX4_digest 105 = .ok (.iload_n 3, 1) := by decide +kernel
theorem dX4_digest_106 : decode cX4_digest 106 = .ok (.aaload, 1) := by decide +kernel
theorem dX4_digest_107 : decode cX4_digest 107 = .ok (.getfield 167, 3) := by decide +kernel
theorem dX4_digest_110 : decode cX4_digest 110 = .ok (.goto 4, 3) := by decide +kernel
theorem dX4_digest_113 : decode cX4_digest 113 = .ok (.iconst (-1), 1) := by decide +kernel
theorem dX4_digest_114 : decode cX4_digest 114 = .ok (.i2l, 1) := by decide +kernel
theorem dX4_digest_115 : decode cX4_digest 115 = .ok (.ladd, 1) := by decide +kernel
theorem dX4_digest_116 : decode cX4_digest 116 = .ok (.lstore_n 1, 1) := by decide +kernel
theorem dX4_digest_117 : decode cX4_digest 117 = .ok (.iinc 3 1, 3) := by decide +kernel
theorem dX4_digest_120 : decode cX4_digest 120 = .ok (.goto (-41), 3) := by decide +kernel
theorem dX4_digest_123 : decode cX4_digest 123 = .ok (.iconst 0, 1) := by decide +kernel
theorem dX4_digest_124 : decode cX4_digest 124 = .ok (.istore_n 3, 1) := by decide +kernel
theorem dX4_digest_125 : decode cX4_digest 125 = .ok (.iload_n 3, 1) := by decide +kernel
theorem dX4_digest_126 : decode cX4_digest 126 = .ok (.bipush 6, 2) := by decide +kernel
theorem dX4_digest_128 : decode cX4_digest 128 = .ok (.if_icmp .ge 20, 3) := by decide +kernel
theorem dX4_digest_131 : decode cX4_digest 131 = .ok (.aload_n 0, 1) := by decide +kernel
theorem dX4_digest_132 : decode cX4_digest 132 = .ok (.getfield 11, 3) := by decide +kernel
theorem dX4_digest_135 : decode cX4_digest 135 = .ok (.iload_n 3, 1) := by decide +kernel
theorem dX4_digest_136 : decode cX4_digest 136 = .ok (.aaload, 1) := by decide +kernel
theorem dX4_digest_137 : decode cX4_digest 137 = .ok (.lload_n 1, 1) := by decide +kernel
theorem dX4_digest_138 : decode cX4_digest 138 = .ok (.invokevirtual 308, 3) := by decide +kernel
theorem dX4_digest_141 : decode cX4_digest 141 = .ok (.lstore_n 1, 1) := by decide +kernel
theorem dX4_digest_142 : decode cX4_digest 142 = .ok (.iinc 3 1, 3) := by decide +kernel
theorem dX4_digest_145 : decode cX4_digest 145 = .ok (.goto (-20), 3) := by decide +kernel
theorem dX4_digest_148 : decode cX4_digest 148 = .ok (.iconst 0, 1) := by decide +kernel
theorem dX4_digest_149 : decode cX4_digest 149 = .ok (.istore_n 3, 1) := by decide +kernel
theorem dX4_digest_150 : decode cX4_digest 150 = .ok (.iload_n 3, 1) := by decide +kernel
theorem dX4_digest_151 : decode cX4_digest 151 = .ok (.iconst 4, 1) := by decide +kernel
theorem dX4_digest_152 : decode cX4_digest 152 = .ok (.if_icmp .ge 20, 3) := by decide +kernel
theorem dX4_digest_155 : decode cX4_digest 155 = .ok (.aload_n 0, 1) := by decide +kernel
theorem dX4_digest_156 : decode cX4_digest 156 = .ok (.getfield 17, 3) := by decide +kernel
theorem dX4_digest_159 : decode cX4_digest 159 = .ok (.iload_n 3, 1) := by decide +kernel
theorem dX4_digest_160 : decode cX4_digest 160 = .ok (.aaload, 1) := by decide +kernel
theorem dX4_digest_161 : decode cX4_digest 161 = .ok (.lload_n 1, 1) := by decide +kernel
theorem dX4_digest_162 : decode cX4_digest 162 = .ok (.invokevirtual 312, 3) := by decide +kernel
theorem dX4_digest_165 : decode cX4_digest 165 = .ok (.lstore_n 1, 1) := by decide +kernel
theorem dX4_digest_166 : decode cX4_digest 166 = .ok (.iinc 3 1, 3) := by decide +kernel
theorem dX4_digest_169 : decode cX4_digest 169 = .ok (.goto (-19), 3) := by decide +kernel
theorem dX4_digest_172 : decode cX4_digest 172 = .ok (.lload_n 1, 1) := by decide +kernel
theorem dX4_digest_173 : decode cX4_digest 173 = .ok (.lreturn, 1) := by decide +kernel
theorem dX4_isWithin_0 : decode cX4_isWithin 0 = .ok (.iload_n 0, 1) := by decide +kernel
theorem dX4_isWithin_1 : decode cX4_isWithin 1 = .ok (.iload_n 1, 1) := by decide +kernel
theorem dX4_isWithin_2 : decode cX4_isWithin 2 = .ok (.if_icmp .lt 12, 3) := by decide +kernel
theorem dX4_isWithin_5 : decode cX4_isWithin 5 = .ok (.iload_n 0, 1) := by decide +kernel
theorem dX4_isWithin_6 : decode cX4_isWithin 6 = .ok (.iload_n 2, 1) := by decide +kernel
theorem dX4_isWithin_7 : decode cX4_isWithin 7 = .ok (.if_icmp .gt 7, 3) := by decide +kernel
theorem dX4_isWithin_10 : decode cX4_isWithin 10 = .ok (.iconst 1, 1) := by decide +kernel
theorem dX4_isWithin_11 : decode cX4_isWithin 11 = .ok (.goto 4, 3) := by decide +kernel
theorem dX4_isWithin_14 : decode cX4_isWithin 14 = .ok (.iconst 0, 1) := by decide +kernel
theorem dX4_isWithin_15 : decode cX4_isWithin 15 = .ok (.ireturn, 1) := by decide +kernel
theorem dX4_isRow_0 : decode cX4_isRow 0 = .ok (.iload_n 0, 1) := by decide +kernel
theorem dX4_isRow_1 : decode cX4_isRow 1 = .ok (.ifCond .lt 13, 3) := by decide +kernel
theorem dX4_isRow_4 : decode cX4_isRow 4 = .ok (.iload_n 0, 1) := by decide +kernel
theorem dX4_isRow_5 : decode cX4_isRow 5 = .ok (.bipush 6, 2) := by decide +kernel
theorem dX4_isRow_7 : decode cX4_isRow 7 = .ok (.if_icmp .ge 7, 3) := by decide +kernel
theorem dX4_isRow_10 : decode cX4_isRow 10 = .ok (.iconst 1, 1) := by decide +kernel
theorem dX4_isRow_11 : decode cX4_isRow 11 = .ok (.goto 4, 3) := by decide +kernel
theorem dX4_isRow_14 : decode cX4_isRow 14 = .ok (.iconst 0, 1) := by decide +kernel
theorem dX4_isRow_15 : decode cX4_isRow 15 = .ok (.ireturn, 1) := by decide +kernel
theorem dX4_isText_0 : decode cX4_isText 0 = .ok (.iload_n 0, 1) := by decide +kernel
theorem dX4_isText_1 : decode cX4_isText 1 = .ok (.ifCond .lt 12, 3) := by decide +kernel
theorem dX4_isText_4 : decode cX4_isText 4 = .ok (.iload_n 0, 1) := by decide +kernel
theorem dX4_isText_5 : decode cX4_isText 5 = .ok (.iconst 4, 1) := by decide +kernel
theorem dX4_isText_6 : decode cX4_isText 6 = .ok (.if_icmp .ge 7, 3) := by decide +kernel
theorem dX4_isText_9 : decode cX4_isText 9 = .ok (.iconst 1, 1) := by decide +kernel
theorem dX4_isText_10 : decode cX4_isText 10 = .ok (.goto 4, 3) := by decide +kernel
theorem dX4_isText_13 : decode cX4_isText 13 = .ok (.iconst 0, 1) := by decide +kernel
theorem dX4_isText_14 : decode cX4_isText 14 = .ok (.ireturn, 1) := by decide +kernel
theorem dX4_isTown_0 : decode cX4_isTown 0 = .ok (.iload_n 1, 1) := by decide +kernel
theorem dX4_isTown_1 : decode cX4_isTown 1 = .ok (.ifCond .lt 15, 3) := by decide +kernel
theorem dX4_isTown_4 : decode cX4_isTown 4 = .ok (.iload_n 1, 1) := by decide +kernel
theorem dX4_isTown_5 : decode cX4_isTown 5 = .ok (.aload_n 0, 1) := by decide +kernel
theorem dX4_isTown_6 : decode cX4_isTown 6 = .ok (.getfield 42, 3) := by decide +kernel
theorem dX4_isTown_9 : decode cX4_isTown 9 = .ok (.if_icmp .ge 7, 3) := by decide +kernel
theorem dX4_isTown_12 : decode cX4_isTown 12 = .ok (.iconst 1, 1) := by decide +kernel
theorem dX4_isTown_13 : decode cX4_isTown 13 = .ok (.goto 4, 3) := by decide +kernel
theorem dX4_isTown_16 : decode cX4_isTown 16 = .ok (.iconst 0, 1) := by decide +kernel
theorem dX4_isTown_17 : decode cX4_isTown 17 = .ok (.ireturn, 1) := by decide +kernel
theorem dX4_isPlaceToKeep_0 : decode cX4_isPlaceToKeep 0 = .ok (.iload_n 0, 1) := by decide +kernel
theorem dX4_isPlaceToKeep_1 : decode cX4_isPlaceToKeep 1 = .ok (.ifCond .lt 12, 3) := by decide +kernel
theorem dX4_isPlaceToKeep_4 : decode cX4_isPlaceToKeep 4 = .ok (.iload_n 0, 1) := by decide +kernel
theorem dX4_isPlaceToKeep_5 : decode cX4_isPlaceToKeep 5 = .ok (.iconst 3, 1) := by decide +kernel
theorem dX4_isPlaceToKeep_6 : decode cX4_isPlaceToKeep 6 = .ok (.if_icmp .ge 7, 3) := by decide +kernel
theorem dX4_isPlaceToKeep_9 : decode cX4_isPlaceToKeep 9 = .ok (.iconst 1, 1) := by decide +kernel
theorem dX4_isPlaceToKeep_10 : decode cX4_isPlaceToKeep 10 = .ok (.goto 4, 3) := by decide +kernel
theorem dX4_isPlaceToKeep_13 : decode cX4_isPlaceToKeep 13 = .ok (.iconst 0, 1) := by decide +kernel
theorem dX4_isPlaceToKeep_14 : decode cX4_isPlaceToKeep 14 = .ok (.ireturn, 1) := by decide +kernel
theorem dX4_isDay_0 : decode cX4_isDay 0 = .ok (.iload_n 0, 1) := by decide +kernel
theorem dX4_isDay_1 : decode cX4_isDay 1 = .ok (.ifCond .lt 14, 3) := by decide +kernel
theorem dX4_isDay_4 : decode cX4_isDay 4 = .ok (.iload_n 0, 1) := by decide +kernel
theorem dX4_isDay_5 : decode cX4_isDay 5 = .ok (.sipush 19999, 3) := by decide +kernel
theorem dX4_isDay_8 : decode cX4_isDay 8 = .ok (.if_icmp .gt 7, 3) := by decide +kernel
theorem dX4_isDay_11 : decode cX4_isDay 11 = .ok (.iconst 1, 1) := by decide +kernel
theorem dX4_isDay_12 : decode cX4_isDay 12 = .ok (.goto 4, 3) := by decide +kernel
theorem dX4_isDay_15 : decode cX4_isDay 15 = .ok (.iconst 0, 1) := by decide +kernel
theorem dX4_isDay_16 : decode cX4_isDay 16 = .ok (.ireturn, 1) := by decide +kernel
theorem dX4_isSpan_0 : decode cX4_isSpan 0 = .ok (.iload_n 0, 1) := by decide +kernel
theorem dX4_isSpan_1 : decode cX4_isSpan 1 = .ok (.invokestatic 168, 3) := by decide +kernel
theorem dX4_isSpan_4 : decode cX4_isSpan 4 = .ok (.ifCond .eq 19, 3) := by decide +kernel
theorem dX4_isSpan_7 : decode cX4_isSpan 7 = .ok (.iload_n 1, 1) := by decide +kernel
theorem dX4_isSpan_8 : decode cX4_isSpan 8 = .ok (.invokestatic 168, 3) := by decide +kernel
theorem dX4_isSpan_11 : decode cX4_isSpan 11 = .ok (.ifCond .eq 12, 3) := by decide +kernel
theorem dX4_isSpan_14 : decode cX4_isSpan 14 = .ok (.iload_n 0, 1) := by decide +kernel
theorem dX4_isSpan_15 : decode cX4_isSpan 15 = .ok (.iload_n 1, 1) := by decide +kernel
theorem dX4_isSpan_16 : decode cX4_isSpan 16 = .ok (.if_icmp .gt 7, 3) := by decide +kernel
theorem dX4_isSpan_19 : decode cX4_isSpan 19 = .ok (.iconst 1, 1) := by decide +kernel
theorem dX4_isSpan_20 : decode cX4_isSpan 20 = .ok (.goto 4, 3) := by decide +kernel
theorem dX4_isSpan_23 : decode cX4_isSpan 23 = .ok (.iconst 0, 1) := by decide +kernel
theorem dX4_isSpan_24 : decode cX4_isSpan 24 = .ok (.ireturn, 1) := by decide +kernel
theorem dX4_isLeap_0 : decode cX4_isLeap 0 = .ok (.iload_n 0, 1) := by decide +kernel
theorem dX4_isLeap_1 : decode cX4_isLeap 1 = .ok (.iconst 2, 1) := by decide +kernel
theorem dX4_isLeap_2 : decode cX4_isLeap 2 = .ok (.if_icmp .lt 13, 3) := by decide +kernel
theorem dX4_isLeap_5 : decode cX4_isLeap 5 = .ok (.iload_n 0, 1) := by decide +kernel
theorem dX4_isLeap_6 : decode cX4_isLeap 6 = .ok (.bipush 9, 2) := by decide +kernel
theorem dX4_isLeap_8 : decode cX4_isLeap 8 = .ok (.if_icmp .gt 7, 3) := by decide +kernel
theorem dX4_isLeap_11 : decode cX4_isLeap 11 = .ok (.iconst 1, 1) := by decide +kernel
theorem dX4_isLeap_12 : decode cX4_isLeap 12 = .ok (.goto 4, 3) := by decide +kernel
theorem dX4_isLeap_15 : decode cX4_isLeap 15 = .ok (.iconst 0, 1) := by decide +kernel
theorem dX4_isLeap_16 : decode cX4_isLeap 16 = .ok (.ireturn, 1) := by decide +kernel
theorem dX4_isPartOfDay_0 : decode cX4_isPartOfDay 0 = .ok (.iload_n 0, 1) := by decide +kernel
theorem dX4_isPartOfDay_1 : decode cX4_isPartOfDay 1 = .ok (.iconst 2, 1) := by decide +kernel
theorem dX4_isPartOfDay_2 : decode cX4_isPartOfDay 2 = .ok (.if_icmp .lt 13, 3) := by decide +kernel
theorem dX4_isPartOfDay_5 : decode cX4_isPartOfDay 5 = .ok (.iload_n 0, 1) := by decide +kernel
theorem dX4_isPartOfDay_6 : decode cX4_isPartOfDay 6 = .ok (.bipush 9, 2) := by decide +kernel
theorem dX4_isPartOfDay_8 : decode cX4_isPartOfDay 8 = .ok (.if_icmp .gt 7, 3) := by decide +kernel
theorem dX4_isPartOfDay_11 : decode cX4_isPartOfDay 11 = .ok (.iconst 1, 1) := by decide +kernel
theorem dX4_isPartOfDay_12 : decode cX4_isPartOfDay 12 = .ok (.goto 4, 3) := by decide +kernel
theorem dX4_isPartOfDay_15 : decode cX4_isPartOfDay 15 = .ok (.iconst 0, 1) := by decide +kernel
theorem dX4_isPartOfDay_16 : decode cX4_isPartOfDay 16 = .ok (.ireturn, 1) := by decide +kernel
theorem dX4_isYearsDue_0 : decode cX4_isYearsDue 0 = .ok (.iload_n 0, 1) := by decide +kernel
theorem dX4_isYearsDue_1 : decode cX4_isYearsDue 1 = .ok (.ifCond .lt 13, 3) := by decide +kernel
theorem dX4_isYearsDue_4 : decode cX4_isYearsDue 4 = .ok (.iload_n 0, 1) := by decide +kernel
theorem dX4_isYearsDue_5 : decode cX4_isYearsDue 5 = .ok (.bipush 50, 2) := by decide +kernel
theorem dX4_isYearsDue_7 : decode cX4_isYearsDue 7 = .ok (.if_icmp .gt 7, 3) := by decide +kernel
theorem dX4_isYearsDue_10 : decode cX4_isYearsDue 10 = .ok (.iconst 1, 1) := by decide +kernel
theorem dX4_isYearsDue_11 : decode cX4_isYearsDue 11 = .ok (.goto 4, 3) := by decide +kernel
theorem dX4_isYearsDue_14 : decode cX4_isYearsDue 14 = .ok (.iconst 0, 1) := by decide +kernel
theorem dX4_isYearsDue_15 : decode cX4_isYearsDue 15 = .ok (.ireturn, 1) := by decide +kernel
theorem dX4_isFeastYear_0 : decode cX4_isFeastYear 0 = .ok (.iload_n 0, 1) := by decide +kernel
theorem dX4_isFeastYear_1 : decode cX4_isFeastYear 1 = .ok (.ifCond .lt 14, 3) := by decide +kernel
theorem dX4_isFeastYear_4 : decode cX4_isFeastYear 4 = .ok (.iload_n 0, 1) := by decide +kernel
theorem dX4_isFeastYear_5 : decode cX4_isFeastYear 5 = .ok (.sipush 150, 3) := by decide +kernel
theorem dX4_isFeastYear_8 : decode cX4_isFeastYear 8 = .ok (.if_icmp .gt 7, 3) := by decide +kernel
theorem dX4_isFeastYear_11 : decode cX4_isFeastYear 11 = .ok (.iconst 1, 1) := by decide +kernel
theorem dX4_isFeastYear_12 : decode cX4_isFeastYear 12 = .ok (.goto 4, 3) := by decide +kernel
theorem dX4_isFeastYear_15 : decode cX4_isFeastYear 15 = .ok (.iconst 0, 1) := by decide +kernel
theorem dX4_isFeastYear_16 : decode cX4_isFeastYear 16 = .ok (.ireturn, 1) := by decide +kernel
theorem dX4_found_0 : decode cX4_found 0 = .ok (.aload_n 0, 1) := by decide +kernel
theorem dX4_found_1 : decode cX4_found 1 = .ok (.iload_n 1, 1) := by decide +kernel
theorem dX4_found_2 : decode cX4_found 2 = .ok (.putfield 59, 3) := by decide +kernel
theorem dX4_found_5 : decode cX4_found 5 = .ok (.aload_n 0, 1) := by decide +kernel
theorem dX4_found_6 : decode cX4_found 6 = .ok (.getfield 38, 3) := by decide +kernel
theorem dX4_found_9 : decode cX4_found 9 = .ok (.iload_n 1, 1) := by decide +kernel
theorem dX4_found_10 : decode cX4_found 10 = .ok (.dup2, 1) := by decide +kernel
theorem dX4_found_11 : decode cX4_found 11 = .ok (.iaload, 1) := by decide +kernel
theorem dX4_found_12 : decode cX4_found 12 = .ok (.iconst 1, 1) := by decide +kernel
theorem dX4_found_13 : decode cX4_found 13 = .ok (.iadd, 1) := by decide +kernel
theorem dX4_found_14 : decode cX4_found 14 = .ok (.iastore, 1) := by decide +kernel
theorem dX4_found_15 : decode cX4_found 15 = .ok (.bipush (-3), 2) := by decide +kernel
theorem dX4_found_17 : decode cX4_found 17 = .ok (.ireturn, 1) := by decide +kernel
theorem dX4_refusedRow_0 : decode cX4_refusedRow 0 = .ok (.iload_n 1, 1) := by decide +kernel
theorem dX4_refusedRow_1 : decode cX4_refusedRow 1 = .ok (.invokestatic 65, 3) := by decide +kernel
theorem dX4_refusedRow_4 : decode cX4_refusedRow 4 = .ok (.ifCond .ne 5, 3) := by decide +kernel
theorem dX4_refusedRow_7 : decode cX4_refusedRow 7 = .ok (.iconst (-1), 1) := by decide +kernel
theorem dX4_refusedRow_8 : decode cX4_refusedRow 8 = .ok (.ireturn, 1) := by decide +kernel
theorem dX4_refusedRow_9 : decode cX4_refusedRow 9 = .ok (.aload_n 0, 1) := by decide +kernel
theorem dX4_refusedRow_10 : decode cX4_refusedRow 10 = .ok (.getfield 11, 3) := by decide +kernel
theorem dX4_refusedRow_13 : decode cX4_refusedRow 13 = .ok (.iload_n 1, 1) := by decide +kernel
theorem dX4_refusedRow_14 : decode cX4_refusedRow 14 = .ok (.aaload, 1) := by decide +kernel
theorem dX4_refusedRow_15 : decode cX4_refusedRow 15 = .ok (.getfield 87, 3) := by decide +kernel
theorem dX4_refusedRow_18 : decode cX4_refusedRow 18 = .ok (.iconst (-1), 1) := by decide +kernel
theorem dX4_refusedRow_19 : decode cX4_refusedRow 19 = .ok (.if_icmp .ne 11, 3) := by decide +kernel
theorem dX4_refusedRow_22 : decode cX4_refusedRow 22 = .ok (.aload_n 0, 1) := by decide +kernel
theorem dX4_refusedRow_23 : decode cX4_refusedRow 23 = .ok (.iconst 1, 1) := by decide +kernel
theorem dX4_refusedRow_24 : decode cX4_refusedRow 24 = .ok (.invokevirtual 69, 3) := by decide +kernel
theorem dX4_refusedRow_27 : decode cX4_refusedRow 27 = .ok (.goto 4, 3) := by decide +kernel
theorem dX4_refusedRow_30 : decode cX4_refusedRow 30 = .ok (.iconst 0, 1) := by decide +kernel
theorem dX4_refusedRow_31 : decode cX4_refusedRow 31 = .ok (.ireturn, 1) := by decide +kernel
theorem dX4_refusedPlace_0 : decode cX4_refusedPlace 0 = .ok (.aload_n 0, 1) := by decide +kernel
theorem dX4_refusedPlace_1 : decode cX4_refusedPlace 1 = .ok (.iload_n 1, 1) := by decide +kernel
theorem dX4_refusedPlace_2 : decode cX4_refusedPlace 2 = .ok (.invokevirtual 84, 3) := by decide +kernel
theorem dX4_refusedPlace_5 : decode cX4_refusedPlace 5 = .ok (.istore_n 3, 1) := by decide +kernel
theorem dX4_refusedPlace_6 : decode cX4_refusedPlace 6 = .ok (.iload_n 3, 1) := by decide +kernel
theorem dX4_refusedPlace_7 : decode cX4_refusedPlace 7 = .ok (.ifCond .eq 5, 3) := by decide +kernel
theorem dX4_refusedPlace_10 : decode cX4_refusedPlace 10 = .ok (.iload_n 3, 1) := by decide +kernel
theorem dX4_refusedPlace_11 : decode cX4_refusedPlace 11 = .ok (.ireturn, 1) := by decide +kernel
theorem dX4_refusedPlace_12 : decode cX4_refusedPlace 12 = .ok (.aload_n 0, 1) := by decide +kernel
theorem dX4_refusedPlace_13 : decode cX4_refusedPlace 13 = .ok (.getfield 11, 3) := by decide +kernel
theorem dX4_refusedPlace_16 : decode cX4_refusedPlace 16 = .ok (.iload_n 1, 1) := by decide +kernel
theorem dX4_refusedPlace_17 : decode cX4_refusedPlace 17 = .ok (.aaload, 1) := by decide +kernel
theorem dX4_refusedPlace_18 : decode cX4_refusedPlace 18 = .ok (.iload_n 2, 1) := by decide +kernel
theorem dX4_refusedPlace_19 : decode cX4_refusedPlace 19 = .ok (.iconst 1, 1) := by decide +kernel
theorem dX4_refusedPlace_20 : decode cX4_refusedPlace 20 = .ok (.invokevirtual 90, 3) := by decide +kernel
theorem dX4_refusedPlace_23 : decode cX4_refusedPlace 23 = .ok (.ifCond .eq 7, 3) := by decide +kernel
theorem dX4_refusedPlace_26 : decode cX4_refusedPlace 26 = .ok (.iconst 0, 1) := by decide +kernel
theorem dX4_refusedPlace_27 : decode cX4_refusedPlace 27 = .ok (.goto 8, 3) := by decide +kernel
theorem dX4_refusedPlace_30 : decode cX4_refusedPlace 30 = .ok (.aload_n 0, 1) := by decide +kernel
theorem dX4_refusedPlace_31 : decode cX4_refusedPlace 31 = .ok (.iconst 2, 1) := by decide +kernel
theorem dX4_refusedPlace_32 : decode cX4_refusedPlace 32 = .ok (.invokevirtual 69, 3) := by decide +kernel
theorem dX4_refusedPlace_35 : decode cX4_refusedPlace 35 = .ok (.ireturn, 1) := by decide +kernel
theorem dX4_refusedText_0 : decode cX4_refusedText 0 = .ok (.iload_n 1, 1) := by decide +kernel
theorem dX4_refusedText_1 : decode cX4_refusedText 1 = .ok (.invokestatic 104, 3) := by decide +kernel
theorem dX4_refusedText_4 : decode cX4_refusedText 4 = .ok (.ifCond .ne 5, 3) := by decide +kernel
theorem dX4_refusedText_7 : decode cX4_refusedText 7 = .ok (.iconst (-1), 1) := by decide +kernel
theorem dX4_refusedText_8 : decode cX4_refusedText 8 = .ok (.ireturn, 1) := by decide +kernel
theorem dX4_refusedText_9 : decode cX4_refusedText 9 = .ok (.aload_n 0, 1) := by decide +kernel
theorem dX4_refusedText_10 : decode cX4_refusedText 10 = .ok (.getfield 17, 3) := by decide +kernel
theorem dX4_refusedText_13 : decode cX4_refusedText 13 = .ok (.iload_n 1, 1) := by decide +kernel
theorem dX4_refusedText_14 : decode cX4_refusedText 14 = .ok (.aaload, 1) := by decide +kernel
theorem dX4_refusedText_15 : decode cX4_refusedText 15 = .ok (.getfield 111, 3) := by decide +kernel
theorem dX4_refusedText_18 : decode cX4_refusedText 18 = .ok (.iconst (-1), 1) := by decide +kernel
theorem dX4_refusedText_19 : decode cX4_refusedText 19 = .ok (.if_icmp .ne 11, 3) := by decide +kernel
theorem dX4_refusedText_22 : decode cX4_refusedText 22 = .ok (.aload_n 0, 1) := by decide +kernel
theorem dX4_refusedText_23 : decode cX4_refusedText 23 = .ok (.iconst 1, 1) := by decide +kernel
theorem dX4_refusedText_24 : decode cX4_refusedText 24 = .ok (.invokevirtual 69, 3) := by decide +kernel
theorem dX4_refusedText_27 : decode cX4_refusedText 27 = .ok (.goto 4, 3) := by decide +kernel
theorem dX4_refusedText_30 : decode cX4_refusedText 30 = .ok (.iconst 0, 1) := by decide +kernel
theorem dX4_refusedText_31 : decode cX4_refusedText 31 = .ok (.ireturn, 1) := by decide +kernel
theorem dX4_refusedContracts_0 : decode cX4_refusedContracts 0 = .ok (.aload_n 0, 1) := by decide +kernel
theorem dX4_refusedContracts_1 : decode cX4_refusedContracts 1 = .ok (.iload_n 1, 1) := by decide +kernel
theorem dX4_refusedContracts_2 : decode cX4_refusedContracts 2 = .ok (.invokevirtual 84, 3) := by decide +kernel
theorem dX4_refusedContracts_5 : decode cX4_refusedContracts 5 = .ok (.istore_n 2, 1) := by decide +kernel
theorem dX4_refusedContracts_6 : decode cX4_refusedContracts 6 = .ok (.iload_n 2, 1) := by decide +kernel
theorem dX4_refusedContracts_7 : decode cX4_refusedContracts 7 = .ok (.ifCond .eq 5, 3) := by decide +kernel
theorem dX4_refusedContracts_10 : decode cX4_refusedContracts 10 = .ok (.iload_n 2, 1) := by decide +kernel
theorem dX4_refusedContracts_11 : decode cX4_refusedContracts 11 = .ok (.ireturn, 1) := by decide +kernel
theorem dX4_refusedContracts_12 : decode cX4_refusedContracts 12 = .ok (.aload_n 0, 1) := by decide +kernel
theorem dX4_refusedContracts_13 : decode cX4_refusedContracts 13 = .ok (.getfield 11, 3) := by decide +kernel
theorem dX4_refusedContracts_16 : decode cX4_refusedContracts 16 = .ok (.iload_n 1, 1) := by decide +kernel
theorem dX4_refusedContracts_17 : decode cX4_refusedContracts 17 = .ok (.aaload, 1) := by decide +kernel
theorem dX4_refusedContracts_18 : decode cX4_refusedContracts 18 = .ok (.getfield 87, 3) := by decide +kernel
theorem dX4_refusedContracts_21 : decode cX4_refusedContracts 21 = .ok (.iconst 3, 1) := by decide +kernel
theorem dX4_refusedContracts_22 : decode cX4_refusedContracts 22 = .ok (.irem, 1) := by decide +kernel
theorem dX4_refusedContracts_23 : decode cX4_refusedContracts 23 = .ok (.ifCond .eq 9, 3) := by decide +kernel
theorem dX4_refusedContracts_26 : decode cX4_refusedContracts 26 = .ok (.aload_n 0, 1) := by decide +kernel
theorem dX4_refusedContracts_27 : decode cX4_refusedContracts 27 = .ok (.iconst 5, 1) := by decide +kernel
theorem dX4_refusedContracts_28 : decode cX4_refusedContracts 28 = .ok (.invokevirtual 69, 3) := by decide +kernel
theorem dX4_refusedContracts_31 : decode cX4_refusedContracts 31 = .ok (.ireturn, 1) := by decide +kernel
theorem dX4_refusedContracts_32 : decode cX4_refusedContracts 32 = .ok (.aload_n 0, 1) := by decide +kernel
theorem dX4_refusedContracts_33 : decode cX4_refusedContracts 33 = .ok (.getfield 11, 3) := by decide +kernel
theorem dX4_refusedContracts_36 : decode cX4_refusedContracts 36 = .ok (.iload_n 1, 1) := by decide +kernel
theorem dX4_refusedContracts_37 : decode cX4_refusedContracts 37 = .ok (.aaload, 1) := by decide +kernel
theorem dX4_refusedContracts_38 : decode cX4_refusedContracts 38 = .ok (.getfield 81, 3) := by decide +kernel
theorem dX4_refusedContracts_41 : decode cX4_refusedContracts 41 = .ok (.astore_n 3, 1) := by decide +kernel
theorem dX4_refusedContracts_42 : decode cX4_refusedContracts 42 = .ok (.iconst 0, 1) := by decide +kernel
theorem dX4_refusedContracts_43 : decode cX4_refusedContracts 43 = .ok (.istore 4, 2) := by decide +kernel
theorem dX4_refusedContracts_45 : decode cX4_refusedContracts 45 = .ok (.iload 4, 2) := by decide +kernel
theorem dX4_refusedContracts_47 : decode cX4_refusedContracts 47 = .ok (.iconst 2, 1) := by decide +kernel
theorem dX4_refusedContracts_48 : decode cX4_refusedContracts 48 = .ok (.iadd, 1) := by decide +kernel
theorem dX4_refusedContracts_49 : decode cX4_refusedContracts 49 = .ok (.aload_n 0, 1) := by decide +kernel
theorem dX4_refusedContracts_50 : decode cX4_refusedContracts 50 = .ok (.getfield 11, 3) := by decide +kernel
theorem dX4_refusedContracts_53 : decode cX4_refusedContracts 53 = .ok (.iload_n 1, 1) := by decide +kernel
theorem dX4_refusedContracts_54 : decode cX4_refusedContracts 54 = .ok (.aaload, 1) := by decide +kernel
theorem dX4_refusedContracts_55 : decode cX4_refusedContracts 55 = .ok (.getfield 87, 3) := by decide +kernel
theorem dX4_refusedContracts_58 : decode cX4_refusedContracts 58 = .ok (.if_icmp .ge 47, 3) := by decide +kernel
theorem dX4_refusedContracts_61 : decode cX4_refusedContracts 61 = .ok (.aload_n 0, 1) := by decide +kernel
theorem dX4_refusedContracts_62 : decode cX4_refusedContracts 62 = .ok (.aload_n 3, 1) := by decide +kernel
theorem dX4_refusedContracts_63 : decode cX4_refusedContracts 63 = .ok (.iload 4, 2) := by decide +kernel
theorem dX4_refusedContracts_65 : decode cX4_refusedContracts 65 = .ok (.iaload, 1) := by decide +kernel
theorem dX4_refusedContracts_66 : decode cX4_refusedContracts 66 = .ok (.invokevirtual 128, 3) := by decide +kernel
theorem dX4_refusedContracts_69 : decode cX4_refusedContracts 69 = .ok (.ifCond .eq 24, 3) := by decide +kernel
theorem dX4_refusedContracts_72 : decode cX4_refusedContracts 72 = .ok (.aload_n 3, 1) := by decide +kernel
theorem dX4_refusedContracts_73 : decode cX4_refusedContracts 73 = .ok (.iload 4, 2) := by decide +kernel
theorem dX4_refusedContracts_75 : decode cX4_refusedContracts 75 = .ok (.iconst 1, 1) := by decide +kernel
theorem dX4_refusedContracts_76 : decode cX4_refusedContracts 76 = .ok (.iadd, 1) := by decide +kernel
theorem dX4_refusedContracts_77 : decode cX4_refusedContracts 77 = .ok (.iaload, 1) := by decide +kernel
theorem dX4_refusedContracts_78 : decode cX4_refusedContracts 78 = .ok (.ifCond .lt 15, 3) := by decide +kernel
theorem dX4_refusedContracts_81 : decode cX4_refusedContracts 81 = .ok (.aload_n 3, 1) := by decide +kernel
theorem dX4_refusedContracts_82 : decode cX4_refusedContracts 82 = .ok (.iload 4, 2) := by decide +kernel
theorem dX4_refusedContracts_84 : decode cX4_refusedContracts 84 = .ok (.iconst 2, 1) := by decide +kernel
theorem dX4_refusedContracts_85 : decode cX4_refusedContracts 85 = .ok (.iadd, 1) := by decide +kernel
theorem dX4_refusedContracts_86 : decode cX4_refusedContracts 86 = .ok (.iaload, 1) := by decide +kernel
theorem dX4_refusedContracts_87 : decode cX4_refusedContracts 87 = .ok (.invokestatic 224, 3) := by decide +kernel
theorem dX4_refusedContracts_90 : decode cX4_refusedContracts 90 = .ok (.ifCond .ne 9, 3) := by decide +kernel
theorem dX4_refusedContracts_93 : decode cX4_refusedContracts 93 = .ok (.aload_n 0, 1) := by decide +kernel
theorem dX4_refusedContracts_94 : decode cX4_refusedContracts 94 = .ok (.iconst 3, 1) := by decide +kernel
theorem dX4_refusedContracts_95 : decode cX4_refusedContracts 95 = .ok (.invokevirtual 69, 3) := by decide +kernel
theorem dX4_refusedContracts_98 : decode cX4_refusedContracts 98 = .ok (.ireturn, 1) := by decide +kernel
theorem dX4_refusedContracts_99 : decode cX4_refusedContracts 99 = .ok (.iinc 4 3, 3) := by decide +kernel
theorem dX4_refusedContracts_102 : decode cX4_refusedContracts 102 = .ok (.goto (-57), 3) := by decide +kernel
theorem dX4_refusedContracts_105 : decode cX4_refusedContracts 105 = .ok (.iconst 0, 1) := by decide +kernel
theorem dX4_refusedContracts_106 : decode cX4_refusedContracts 106 = .ok (.ireturn, 1) := by decide +kernel
theorem dX4_ofTown_0 : decode cX4_ofTown 0 = .ok (.aload_n 0, 1) := by decide +kernel
theorem dX4_ofTown_1 : decode cX4_ofTown 1 = .ok (.getfield 23, 3) := by decide +kernel
theorem dX4_ofTown_4 : decode cX4_ofTown 4 = .ok (.iload_n 1, 1) := by decide +kernel
theorem dX4_ofTown_5 : decode cX4_ofTown 5 = .ok (.aaload, 1) := by decide +kernel
theorem dX4_ofTown_6 : decode cX4_ofTown 6 = .ok (.astore_n 3, 1) := by decide +kernel
theorem dX4_ofTown_7 : decode cX4_ofTown 7 = .ok (.iload_n 2, 1) := by decide +kernel
theorem dX4_ofTown_8 : decode cX4_ofTown 8 = .ok (.tableswitch 52 0 3 #[32, 37, 42, 47], 32) := by decide +kernel
theorem dX4_ofTown_40 : decode cX4_ofTown 40 = .ok (.aload_n 3, 1) := by decide +kernel
theorem dX4_ofTown_41 : decode cX4_ofTown 41 = .ok (.getfield 258, 3) := by decide +kernel
theorem dX4_ofTown_44 : decode cX4_ofTown 44 = .ok (.ireturn, 1) := by decide +kernel
theorem dX4_ofTown_45 : decode cX4_ofTown 45 = .ok (.aload_n 3, 1) := by decide +kernel
theorem dX4_ofTown_46 : decode cX4_ofTown 46 = .ok (.getfield 153, 3) := by decide +kernel
theorem dX4_ofTown_49 : decode cX4_ofTown 49 = .ok (.ireturn, 1) := by decide +kernel
theorem dX4_ofTown_50 : decode cX4_ofTown 50 = .ok (.aload_n 3, 1) := by decide +kernel
theorem dX4_ofTown_51 : decode cX4_ofTown 51 = .ok (.getfield 144, 3) := by decide +kernel
theorem dX4_ofTown_54 : decode cX4_ofTown 54 = .ok (.ireturn, 1) := by decide +kernel
theorem dX4_ofTown_55 : decode cX4_ofTown 55 = .ok (.aload_n 3, 1) := by decide +kernel
theorem dX4_ofTown_56 : decode cX4_ofTown 56 = .ok (.getfield 147, 3) := by decide +kernel
theorem dX4_ofTown_59 : decode cX4_ofTown 59 = .ok (.ireturn, 1) := by decide +kernel
theorem dX4_ofTown_60 : decode cX4_ofTown 60 = .ok (.aload_n 3, 1) := by decide +kernel
theorem dX4_ofTown_61 : decode cX4_ofTown 61 = .ok (.aload_n 0, 1) := by decide +kernel
theorem dX4_ofTown_62 : decode cX4_ofTown 62 = .ok (.getfield 46, 3) := by decide +kernel
theorem dX4_ofTown_65 : decode cX4_ofTown 65 = .ok (.invokevirtual 171, 3) := by decide +kernel
theorem dX4_ofTown_68 : decode cX4_ofTown 68 = .ok (.ireturn, 1) := by decide +kernel
theorem dX4_haveSameDate_0 : decode cX4_haveSameDate 0 = .ok (.aload_n 0, 1) := by decide +kernel
theorem dX4_haveSameDate_1 : decode cX4_haveSameDate 1 = .ok (.getfield 23, 3) := by decide +kernel
theorem dX4_haveSameDate_4 : decode cX4_haveSameDate 4 = .ok (.iload_n 1, 1) := by decide +kernel
theorem dX4_haveSameDate_5 : decode cX4_haveSameDate 5 = .ok (.aaload, 1) := by decide +kernel
theorem dX4_haveSameDate_6 : decode cX4_haveSameDate 6 = .ok (.iload_n 3, 1) := by decide +kernel
theorem dX4_haveSameDate_7 : decode cX4_haveSameDate 7 = .ok (.invokevirtual 171, 3) := by decide +kernel
theorem dX4_haveSameDate_10 : decode cX4_haveSameDate 10 = .ok (.aload_n 0, 1) := by decide +kernel
theorem dX4_haveSameDate_11 : decode cX4_haveSameDate 11 = .ok (.getfield 23, 3) := by decide +kernel
theorem dX4_haveSameDate_14 : decode cX4_haveSameDate 14 = .ok (.iload_n 2, 1) := by decide +kernel
theorem dX4_haveSameDate_15 : decode cX4_haveSameDate 15 = .ok (.aaload, 1) := by decide +kernel
theorem dX4_haveSameDate_16 : decode cX4_haveSameDate 16 = .ok (.iload_n 3, 1) := by decide +kernel
theorem dX4_haveSameDate_17 : decode cX4_haveSameDate 17 = .ok (.invokevirtual 171, 3) := by decide +kernel
theorem dX4_haveSameDate_20 : decode cX4_haveSameDate 20 = .ok (.if_icmp .ne 7, 3) := by decide +kernel
theorem dX4_haveSameDate_23 : decode cX4_haveSameDate 23 = .ok (.iconst 1, 1) := by decide +kernel
theorem dX4_haveSameDate_24 : decode cX4_haveSameDate 24 = .ok (.goto 4, 3) := by decide +kernel
theorem dX4_haveSameDate_27 : decode cX4_haveSameDate 27 = .ok (.iconst 0, 1) := by decide +kernel
theorem dX4_haveSameDate_28 : decode cX4_haveSameDate 28 = .ok (.ireturn, 1) := by decide +kernel
theorem dX4_stretchEnd_0 : decode cX4_stretchEnd 0 = .ok (.aload_n 0, 1) := by decide +kernel
theorem dX4_stretchEnd_1 : decode cX4_stretchEnd 1 = .ok (.getfield 23, 3) := by decide +kernel
theorem dX4_stretchEnd_4 : decode cX4_stretchEnd 4 = .ok (.iload_n 1, 1) := by decide +kernel
theorem dX4_stretchEnd_5 : decode cX4_stretchEnd 5 = .ok (.aaload, 1) := by decide +kernel
theorem dX4_stretchEnd_6 : decode cX4_stretchEnd 6 = .ok (.iload_n 3, 1) := by decide +kernel
theorem dX4_stretchEnd_7 : decode cX4_stretchEnd 7 = .ok (.invokevirtual 313, 3) := by decide +kernel
theorem dX4_stretchEnd_10 : decode cX4_stretchEnd 10 = .ok (.aload_n 0, 1) := by decide +kernel
theorem dX4_stretchEnd_11 : decode cX4_stretchEnd 11 = .ok (.getfield 23, 3) := by decide +kernel
theorem dX4_stretchEnd_14 : decode cX4_stretchEnd 14 = .ok (.iload_n 2, 1) := by decide +kernel
theorem dX4_stretchEnd_15 : decode cX4_stretchEnd 15 = .ok (.aaload, 1) := by decide +kernel
theorem dX4_stretchEnd_16 : decode cX4_stretchEnd 16 = .ok (.iload_n 3, 1) := by decide +kernel
theorem dX4_stretchEnd_17 : decode cX4_stretchEnd 17 = .ok (.invokevirtual 313, 3) := by decide +kernel
theorem dX4_stretchEnd_20 : decode cX4_stretchEnd 20 = .ok (.invokestatic 207, 3) := by decide +kernel
theorem dX4_stretchEnd_23 : decode cX4_stretchEnd 23 = .ok (.ireturn, 1) := by decide +kernel
theorem dX4_hasMissingDate_0 : decode cX4_hasMissingDate 0 = .ok (.iconst 0, 1) := by decide +kernel
theorem dX4_hasMissingDate_1 : decode cX4_hasMissingDate 1 = .ok (.istore_n 2, 1) := by decide +kernel
theorem dX4_hasMissingDate_2 : decode cX4_hasMissingDate 2 = .ok (.iload_n 2, 1) := by decide +kernel
theorem dX4_hasMissingDate_3 : decode cX4_hasMissingDate 3 = .ok (.iconst 2, 1) := by decide +kernel
theorem dX4_hasMissingDate_4 : decode cX4_hasMissingDate 4 = .ok (.iadd, 1) := by decide +kernel
theorem dX4_hasMissingDate_5 : decode cX4_hasMissingDate 5 = .ok (.aload_n 1, 1) := by decide +kernel
theorem dX4_hasMissingDate_6 : decode cX4_hasMissingDate 6 = .ok (.getfield 87, 3) := by decide +kernel
theorem dX4_hasMissingDate_9 : decode cX4_hasMissingDate 9 = .ok (.if_icmp .ge 37, 3) := by decide +kernel
theorem dX4_hasMissingDate_12 : decode cX4_hasMissingDate 12 = .ok (.aload_n 0, 1) := by decide +kernel
theorem dX4_hasMissingDate_13 : decode cX4_hasMissingDate 13 = .ok (.getfield 23, 3) := by decide +kernel
theorem dX4_hasMissingDate_16 : decode cX4_hasMissingDate 16 = .ok (.aload_n 1, 1) := by decide +kernel
theorem dX4_hasMissingDate_17 : decode cX4_hasMissingDate 17 = .ok (.getfield 81, 3) := by decide +kernel
theorem dX4_hasMissingDate_20 : decode cX4_hasMissingDate 20 = .ok (.iload_n 2, 1) := by decide +kernel
theorem dX4_hasMissingDate_21 : decode cX4_hasMissingDate 21 = .ok (.iaload, 1) := by decide +kernel
theorem dX4_hasMissingDate_22 : decode cX4_hasMissingDate 22 = .ok (.aaload, 1) := by decide +kernel
theorem dX4_hasMissingDate_23 : decode cX4_hasMissingDate 23 = .ok (.aload_n 1, 1) := by decide +kernel
theorem dX4_hasMissingDate_24 : decode cX4_hasMissingDate 24 = .ok (.getfield 81, 3) := by decide +kernel
theorem dX4_hasMissingDate_27 : decode cX4_hasMissingDate 27 = .ok (.iload_n 2, 1) := by decide +kernel
theorem dX4_hasMissingDate_28 : decode cX4_hasMissingDate 28 = .ok (.iconst 1, 1) := by decide +kernel
theorem dX4_hasMissingDate_29 : decode cX4_hasMissingDate 29 = .ok (.iadd, 1) := by decide +kernel
theorem dX4_hasMissingDate_30 : decode cX4_hasMissingDate 30 = .ok (.iaload, 1) := by decide +kernel
theorem dX4_hasMissingDate_31 : decode cX4_hasMissingDate 31 = .ok (.invokevirtual 174, 3) := by decide +kernel
theorem dX4_hasMissingDate_34 : decode cX4_hasMissingDate 34 = .ok (.iconst (-1), 1) := by decide +kernel
theorem dX4_hasMissingDate_35 : decode cX4_hasMissingDate 35 = .ok (.if_icmp .ne 5, 3) := by decide +kernel
theorem dX4_hasMissingDate_38 : decode cX4_hasMissingDate 38 = .ok (.iconst 1, 1) := by decide +kernel
theorem dX4_hasMissingDate_39 : decode cX4_hasMissingDate 39 = .ok (.ireturn, 1) := by decide +kernel
theorem dX4_hasMissingDate_40 : decode cX4_hasMissingDate 40 = .ok (.iinc 2 3, 3) := by decide +kernel
theorem dX4_hasMissingDate_43 : decode cX4_hasMissingDate 43 = .ok (.goto (-41), 3) := by decide +kernel
theorem dX4_hasMissingDate_46 : decode cX4_hasMissingDate 46 = .ok (.iconst 0, 1) := by decide +kernel
theorem dX4_hasMissingDate_47 : decode cX4_hasMissingDate 47 = .ok (.ireturn, 1) := by decide +kernel
theorem dX4_quarrelsOnTrial_0 : decode cX4_quarrelsOnTrial 0 = .ok (.iconst 0, 1) := by decide +kernel
theorem dX4_quarrelsOnTrial_1 : decode cX4_quarrelsOnTrial 1 = .ok (.istore_n 3, 1) := by decide +kernel
theorem dX4_quarrelsOnTrial_2 : decode cX4_quarrelsOnTrial 2 = .ok (.iconst 0, 1) := by decide +kernel
theorem dX4_quarrelsOnTrial_3 : decode cX4_quarrelsOnTrial 3 = .ok (.istore 4, 2) := by decide +kernel
theorem dX4_quarrelsOnTrial_5 : decode cX4_quarrelsOnTrial 5 = .ok (.iload 4, 2) := by decide +kernel
theorem dX4_quarrelsOnTrial_7 : decode cX4_quarrelsOnTrial 7 = .ok (.aload_n 1, 1) := by decide +kernel
theorem dX4_quarrelsOnTrial_8 : decode cX4_quarrelsOnTrial 8 = .ok (.getfield 87, 3) := by decide +kernel
theorem dX4_quarrelsOnTrial_11 : decode cX4_quarrelsOnTrial 11 = .ok (.iconst 3, 1) := by decide +kernel
theorem dX4_quarrelsOnTrial_12 : decode cX4_quarrelsOnTrial 12 = .ok (.idiv, 1) := by decide +kernel
theorem dX4_quarrelsOnTrial_13 : decode cX4_quarrelsOnTrial 13 = .ok (.if_icmp .ge 23, 3) := by decide +kernel
theorem dX4_quarrelsOnTrial_16 : decode cX4_quarrelsOnTrial 16 = .ok (.aload_n 0, 1) := by decide +kernel
theorem dX4_quarrelsOnTrial_17 : decode cX4_quarrelsOnTrial 17 = .ok (.aload_n 1, 1) := by decide +kernel
theorem dX4_quarrelsOnTrial_18 : decode cX4_quarrelsOnTrial 18 = .ok (.iload 4, 2) := by decide +kernel
theorem dX4_quarrelsOnTrial_20 : decode cX4_quarrelsOnTrial 20 = .ok (.iload_n 2, 1) := by decide +kernel
theorem dX4_quarrelsOnTrial_21 : decode cX4_quarrelsOnTrial 21 = .ok (.invokevirtual 234, 3) := by decide +kernel
theorem dX4_quarrelsOnTrial_24 : decode cX4_quarrelsOnTrial 24 = .ok (.ifCond .eq 6, 3) := by decide +kernel
theorem dX4_quarrelsOnTrial_27 : decode cX4_quarrelsOnTrial 27 = .ok (.iinc 3 1, 3) := by decide +kernel
theorem dX4_quarrelsOnTrial_30 : decode cX4_quarrelsOnTrial 30 = .ok (.iinc 4 1, 3) := by decide +kernel
theorem dX4_quarrelsOnTrial_33 : decode cX4_quarrelsOnTrial 33 = .ok (.goto (-28), 3) := by decide +kernel
theorem dX4_quarrelsOnTrial_36 : decode cX4_quarrelsOnTrial 36 = .ok (.iload_n 3, 1) := by decide +kernel
theorem dX4_quarrelsOnTrial_37 : decode cX4_quarrelsOnTrial 37 = .ok (.ireturn, 1) := by decide +kernel
theorem dX4_quarrelsAt_0 : decode cX4_quarrelsAt 0 = .ok (.aload_n 1, 1) := by decide +kernel
theorem dX4_quarrelsAt_1 : decode cX4_quarrelsAt 1 = .ok (.getfield 81, 3) := by decide +kernel
theorem dX4_quarrelsAt_4 : decode cX4_quarrelsAt 4 = .ok (.iconst 3, 1) := by decide +kernel
theorem dX4_quarrelsAt_5 : decode cX4_quarrelsAt 5 = .ok (.iload_n 2, 1) := by decide +kernel
theorem dX4_quarrelsAt_6 : decode cX4_quarrelsAt 6 = .ok (.imul, 1) := by decide +kernel
theorem dX4_quarrelsAt_7 : decode cX4_quarrelsAt 7 = .ok (.iaload, 1) := by decide +kernel
theorem dX4_quarrelsAt_8 : decode cX4_quarrelsAt 8 = .ok (.istore 4, 2) := by decide +kernel
theorem dX4_quarrelsAt_10 : decode cX4_quarrelsAt 10 = .ok (.aload_n 1, 1) := by decide +kernel
theorem dX4_quarrelsAt_11 : decode cX4_quarrelsAt 11 = .ok (.getfield 81, 3) := by decide +kernel
theorem dX4_quarrelsAt_14 : decode cX4_quarrelsAt 14 = .ok (.iconst 3, 1) := by decide +kernel
theorem dX4_quarrelsAt_15 : decode cX4_quarrelsAt 15 = .ok (.iload_n 2, 1) := by decide +kernel
theorem dX4_quarrelsAt_16 : decode cX4_quarrelsAt 16 = .ok (.imul, 1) := by decide +kernel
theorem dX4_quarrelsAt_17 : decode cX4_quarrelsAt 17 = .ok (.iconst 1, 1) := by decide +kernel
theorem dX4_quarrelsAt_18 : decode cX4_quarrelsAt 18 = .ok (.iadd, 1) := by decide +kernel
theorem dX4_quarrelsAt_19 : decode cX4_quarrelsAt 19 = .ok (.iaload, 1) := by decide +kernel
theorem dX4_quarrelsAt_20 : decode cX4_quarrelsAt 20 = .ok (.istore 5, 2) := by decide +kernel
theorem dX4_quarrelsAt_22 : decode cX4_quarrelsAt 22 = .ok (.aload_n 1, 1) := by decide +kernel
theorem dX4_quarrelsAt_23 : decode cX4_quarrelsAt 23 = .ok (.getfield 81, 3) := by decide +kernel
theorem dX4_quarrelsAt_26 : decode cX4_quarrelsAt 26 = .ok (.iconst 3, 1) := by decide +kernel
theorem dX4_quarrelsAt_27 : decode cX4_quarrelsAt 27 = .ok (.iload_n 2, 1) := by decide +kernel
theorem dX4_quarrelsAt_28 : decode cX4_quarrelsAt 28 = .ok (.imul, 1) := by decide +kernel
theorem dX4_quarrelsAt_29 : decode cX4_quarrelsAt 29 = .ok (.iconst 2, 1) := by decide +kernel
theorem dX4_quarrelsAt_30 : decode cX4_quarrelsAt 30 = .ok (.iadd, 1) := by decide +kernel
theorem dX4_quarrelsAt_31 : decode cX4_quarrelsAt 31 = .ok (.iaload, 1) := by decide +kernel
theorem dX4_quarrelsAt_32 : decode cX4_quarrelsAt 32 = .ok (.istore 6, 2) := by decide +kernel
theorem dX4_quarrelsAt_34 : decode cX4_quarrelsAt 34 = .ok (.iload 4, 2) := by decide +kernel
theorem dX4_quarrelsAt_36 : decode cX4_quarrelsAt 36 = .ok (.iload_n 3, 1) := by decide +kernel
theorem dX4_quarrelsAt_37 : decode cX4_quarrelsAt 37 = .ok (.if_icmp .ne 10, 3) := by decide +kernel
theorem dX4_quarrelsAt_40 : decode cX4_quarrelsAt 40 = .ok (.aload_n 0, 1) := by decide +kernel
theorem dX4_quarrelsAt_41 : decode cX4_quarrelsAt 41 = .ok (.getfield 34, 3) := by decide +kernel
theorem dX4_quarrelsAt_44 : decode cX4_quarrelsAt 44 = .ok (.goto 10, 3) := by decide +kernel
theorem dX4_quarrelsAt_47 : decode cX4_quarrelsAt 47 = .ok (.aload_n 0, 1) := by decide +kernel
theorem dX4_quarrelsAt_48 : decode cX4_quarrelsAt 48 = .ok (.getfield 23, 3) := by decide +kernel
theorem dX4_quarrelsAt_51 : decode cX4_quarrelsAt 51 = .ok (.iload 4, 2) := by decide +kernel
theorem dX4_quarrelsAt_53 : decode cX4_quarrelsAt 53 = .ok (.aaload, 1) := by decide +kernel
theorem dX4_quarrelsAt_54 : decode cX4_quarrelsAt 54 = .ok (.astore 7, 2) := by decide +kernel
theorem dX4_quarrelsAt_56 : decode cX4_quarrelsAt 56 = .ok (.aload 7, 2) := by decide +kernel
theorem dX4_quarrelsAt_58 : decode cX4_quarrelsAt 58 = .ok (.iload 5, 2) := by decide +kernel
theorem dX4_quarrelsAt_60 : decode cX4_quarrelsAt 60 = .ok (.invokevirtual 174, 3) := by decide +kernel
theorem dX4_quarrelsAt_63 : decode cX4_quarrelsAt 63 = .ok (.istore 8, 2) := by decide +kernel
theorem dX4_quarrelsAt_65 : decode cX4_quarrelsAt 65 = .ok (.iload 8, 2) := by decide +kernel
theorem dX4_quarrelsAt_67 : decode cX4_quarrelsAt 67 = .ok (.iconst (-1), 1) := by decide +kernel
theorem dX4_quarrelsAt_68 : decode cX4_quarrelsAt 68 = .ok (.if_icmp .ne 5, 3) := by decide +kernel
theorem dX4_quarrelsAt_71 : decode cX4_quarrelsAt 71 = .ok (.iconst 1, 1) := by decide +kernel
theorem dX4_quarrelsAt_72 : decode cX4_quarrelsAt 72 = .ok (.ireturn, 1) := by decide +kernel
theorem dX4_quarrelsAt_73 : decode cX4_quarrelsAt 73 = .ok (.aload 7, 2) := by decide +kernel
theorem dX4_quarrelsAt_75 : decode cX4_quarrelsAt 75 = .ok (.iload 5, 2) := by decide +kernel
theorem dX4_quarrelsAt_77 : decode cX4_quarrelsAt 77 = .ok (.sipush 1000, 3) := by decide +kernel
theorem dX4_quarrelsAt_80 : decode cX4_quarrelsAt 80 = .ok (.iload 6, 2) := by decide +kernel
theorem dX4_quarrelsAt_82 : decode cX4_quarrelsAt 82 = .ok (.imul, 1) := by decide +kernel
theorem dX4_quarrelsAt_83 : decode cX4_quarrelsAt 83 = .ok (.iadd, 1) := by decide +kernel
theorem dX4_quarrelsAt_84 : decode cX4_quarrelsAt 84 = .ok (.invokevirtual 174, 3) := by decide +kernel
theorem dX4_quarrelsAt_87 : decode cX4_quarrelsAt 87 = .ok (.iload 8, 2) := by decide +kernel
theorem dX4_quarrelsAt_89 : decode cX4_quarrelsAt 89 = .ok (.bipush 100, 2) := by decide +kernel
theorem dX4_quarrelsAt_91 : decode cX4_quarrelsAt 91 = .ok (.iload 6, 2) := by decide +kernel
theorem dX4_quarrelsAt_93 : decode cX4_quarrelsAt 93 = .ok (.imul, 1) := by decide +kernel
theorem dX4_quarrelsAt_94 : decode cX4_quarrelsAt 94 = .ok (.iadd, 1) := by decide +kernel
theorem dX4_quarrelsAt_95 : decode cX4_quarrelsAt 95 = .ok (.if_icmp .eq 7, 3) := by decide +kernel
theorem dX4_quarrelsAt_98 : decode cX4_quarrelsAt 98 = .ok (.iconst 1, 1) := by decide +kernel
theorem dX4_quarrelsAt_99 : decode cX4_quarrelsAt 99 = .ok (.goto 4, 3) := by decide +kernel
theorem dX4_quarrelsAt_102 : decode cX4_quarrelsAt 102 = .ok (.iconst 0, 1) := by decide +kernel
theorem dX4_quarrelsAt_103 : decode cX4_quarrelsAt 103 = .ok (.ireturn, 1) := by decide +kernel
theorem dX4_areLetters_0 : decode cX4_areLetters 0 = .ok (.iconst 0, 1) := by decide +kernel
theorem dX4_areLetters_1 : decode cX4_areLetters 1 = .ok (.istore_n 1, 1) := by decide +kernel
theorem dX4_areLetters_2 : decode cX4_areLetters 2 = .ok (.iload_n 1, 1) := by decide +kernel
theorem dX4_areLetters_3 : decode cX4_areLetters 3 = .ok (.iconst 1, 1) := by decide +kernel
theorem dX4_areLetters_4 : decode cX4_areLetters 4 = .ok (.iadd, 1) := by decide +kernel
theorem dX4_areLetters_5 : decode cX4_areLetters 5 = .ok (.aload_n 0, 1) := by decide +kernel
theorem dX4_areLetters_6 : decode cX4_areLetters 6 = .ok (.getfield 87, 3) := by decide +kernel
theorem dX4_areLetters_9 : decode cX4_areLetters 9 = .ok (.if_icmp .ge 34, 3) := by decide +kernel
theorem dX4_areLetters_12 : decode cX4_areLetters 12 = .ok (.aload_n 0, 1) := by decide +kernel
theorem dX4_areLetters_13 : decode cX4_areLetters 13 = .ok (.getfield 81, 3) := by decide +kernel
theorem dX4_areLetters_16 : decode cX4_areLetters 16 = .ok (.iload_n 1, 1) := by decide +kernel
theorem dX4_areLetters_17 : decode cX4_areLetters 17 = .ok (.iaload, 1) := by decide +kernel
theorem dX4_areLetters_18 : decode cX4_areLetters 18 = .ok (.invokestatic 168, 3) := by decide +kernel
theorem dX4_areLetters_21 : decode cX4_areLetters 21 = .ok (.ifCond .eq 14, 3) := by decide +kernel
theorem dX4_areLetters_24 : decode cX4_areLetters 24 = .ok (.aload_n 0, 1) := by decide +kernel
theorem dX4_areLetters_25 : decode cX4_areLetters 25 = .ok (.getfield 81, 3) := by decide +kernel
theorem dX4_areLetters_28 : decode cX4_areLetters 28 = .ok (.iload_n 1, 1) := by decide +kernel
theorem dX4_areLetters_29 : decode cX4_areLetters 29 = .ok (.iconst 1, 1) := by decide +kernel
theorem dX4_areLetters_30 : decode cX4_areLetters 30 = .ok (.iadd, 1) := by decide +kernel
theorem dX4_areLetters_31 : decode cX4_areLetters 31 = .ok (.iaload, 1) := by decide +kernel
theorem dX4_areLetters_32 : decode cX4_areLetters 32 = .ok (.ifCond .ge 5, 3) := by decide +kernel
theorem dX4_areLetters_35 : decode cX4_areLetters 35 = .ok (.iconst 0, 1) := by decide +kernel
theorem dX4_areLetters_36 : decode cX4_areLetters 36 = .ok (.ireturn, 1) := by decide +kernel
theorem dX4_areLetters_37 : decode cX4_areLetters 37 = .ok (.iinc 1 2, 3) := by decide +kernel
theorem dX4_areLetters_40 : decode cX4_areLetters 40 = .ok (.goto (-38), 3) := by decide +kernel
theorem dX4_areLetters_43 : decode cX4_areLetters 43 = .ok (.iconst 1, 1) := by decide +kernel
theorem dX4_areLetters_44 : decode cX4_areLetters 44 = .ok (.ireturn, 1) := by decide +kernel
theorem dX4_writesAll_0 : decode cX4_writesAll 0 = .ok (.iconst 0, 1) := by decide +kernel
theorem dX4_writesAll_1 : decode cX4_writesAll 1 = .ok (.istore_n 2, 1) := by decide +kernel
theorem dX4_writesAll_2 : decode cX4_writesAll 2 = .ok (.iload_n 2, 1) := by decide +kernel
theorem dX4_writesAll_3 : decode cX4_writesAll 3 = .ok (.iconst 1, 1) := by decide +kernel
theorem dX4_writesAll_4 : decode cX4_writesAll 4 = .ok (.iadd, 1) := by decide +kernel
theorem dX4_writesAll_5 : decode cX4_writesAll 5 = .ok (.aload_n 1, 1) := by decide +kernel
theorem dX4_writesAll_6 : decode cX4_writesAll 6 = .ok (.getfield 87, 3) := by decide +kernel
theorem dX4_writesAll_9 : decode cX4_writesAll 9 = .ok (.if_icmp .ge 32, 3) := by decide +kernel
theorem dX4_writesAll_12 : decode cX4_writesAll 12 = .ok (.aload_n 0, 1) := by decide +kernel
theorem dX4_writesAll_13 : decode cX4_writesAll 13 = .ok (.aload_n 1, 1) := by decide +kernel
theorem dX4_writesAll_14 : decode cX4_writesAll 14 = .ok (.getfield 81, 3) := by decide +kernel
theorem dX4_writesAll_17 : decode cX4_writesAll 17 = .ok (.iload_n 2, 1) := by decide +kernel
theorem dX4_writesAll_18 : decode cX4_writesAll 18 = .ok (.iaload, 1) := by decide +kernel
theorem dX4_writesAll_19 : decode cX4_writesAll 19 = .ok (.invokevirtual 171, 3) := by decide +kernel
theorem dX4_writesAll_22 : decode cX4_writesAll 22 = .ok (.aload_n 1, 1) := by decide +kernel
theorem dX4_writesAll_23 : decode cX4_writesAll 23 = .ok (.getfield 81, 3) := by decide +kernel
theorem dX4_writesAll_26 : decode cX4_writesAll 26 = .ok (.iload_n 2, 1) := by decide +kernel
theorem dX4_writesAll_27 : decode cX4_writesAll 27 = .ok (.iconst 1, 1) := by decide +kernel
theorem dX4_writesAll_28 : decode cX4_writesAll 28 = .ok (.iadd, 1) := by decide +kernel
theorem dX4_writesAll_29 : decode cX4_writesAll 29 = .ok (.iaload, 1) := by decide +kernel
theorem dX4_writesAll_30 : decode cX4_writesAll 30 = .ok (.if_icmp .eq 5, 3) := by decide +kernel
theorem dX4_writesAll_33 : decode cX4_writesAll 33 = .ok (.iconst 0, 1) := by decide +kernel
theorem dX4_writesAll_34 : decode cX4_writesAll 34 = .ok (.ireturn, 1) := by decide +kernel
theorem dX4_writesAll_35 : decode cX4_writesAll 35 = .ok (.iinc 2 2, 3) := by decide +kernel
theorem dX4_writesAll_38 : decode cX4_writesAll 38 = .ok (.goto (-36), 3) := by decide +kernel
theorem dX4_writesAll_41 : decode cX4_writesAll 41 = .ok (.iconst 1, 1) := by decide +kernel
theorem dX4_writesAll_42 : decode cX4_writesAll 42 = .ok (.ireturn, 1) := by decide +kernel
theorem dX4_tellFraction_0 : decode cX4_tellFraction 0 = .ok (.lload_n 1, 1) := by decide +kernel
theorem dX4_tellFraction_1 : decode cX4_tellFraction 1 = .ok (.lload_n 3, 1) := by decide +kernel
theorem dX4_tellFraction_2 : decode cX4_tellFraction 2 = .ok (.invokestatic 316, 3) := by decide +kernel
theorem dX4_tellFraction_5 : decode cX4_tellFraction 5 = .ok (.lstore 5, 2) := by decide +kernel
theorem dX4_tellFraction_7 : decode cX4_tellFraction 7 = .ok (.lload 5, 2) := by decide +kernel
theorem dX4_tellFraction_9 : decode cX4_tellFraction 9 = .ok (.lconst 1, 1) := by decide +kernel
theorem dX4_tellFraction_10 : decode cX4_tellFraction 10 = .ok (.lcmp, 1) := by decide +kernel
theorem dX4_tellFraction_11 : decode cX4_tellFraction 11 = .ok (.ifCond .ge 4, 3) := by decide +kernel
theorem dX4_tellFraction_14 : decode cX4_tellFraction 14 = .ok (.return_, 1) := by decide +kernel
theorem dX4_tellFraction_15 : decode cX4_tellFraction 15 = .ok (.aload_n 0, 1) := by decide +kernel
theorem dX4_tellFraction_16 : decode cX4_tellFraction 16 = .ok (.lload_n 1, 1) := by decide +kernel
theorem dX4_tellFraction_17 : decode cX4_tellFraction 17 = .ok (.lload 5, 2) := by decide +kernel
theorem dX4_tellFraction_19 : decode cX4_tellFraction 19 = .ok (.ldiv, 1) := by decide +kernel
theorem dX4_tellFraction_20 : decode cX4_tellFraction 20 = .ok (.putfield 52, 3) := by decide +kernel
theorem dX4_tellFraction_23 : decode cX4_tellFraction 23 = .ok (.aload_n 0, 1) := by decide +kernel
theorem dX4_tellFraction_24 : decode cX4_tellFraction 24 = .ok (.lload_n 3, 1) := by decide +kernel
theorem dX4_tellFraction_25 : decode cX4_tellFraction 25 = .ok (.lload 5, 2) := by decide +kernel
theorem dX4_tellFraction_27 : decode cX4_tellFraction 27 = .ok (.ldiv, 1) := by decide +kernel
theorem dX4_tellFraction_28 : decode cX4_tellFraction 28 = .ok (.putfield 56, 3) := by decide +kernel
theorem dX4_tellFraction_31 : decode cX4_tellFraction 31 = .ok (.return_, 1) := by decide +kernel
theorem dX4_commonDivisor_0 : decode cX4_commonDivisor 0 = .ok (.lload_n 0, 1) := by decide +kernel
theorem dX4_commonDivisor_1 : decode cX4_commonDivisor 1 = .ok (.lstore 4, 2) := by decide +kernel
theorem dX4_commonDivisor_3 : decode cX4_commonDivisor 3 = .ok (.lload_n 2, 1) := by decide +kernel
theorem dX4_commonDivisor_4 : decode cX4_commonDivisor 4 = .ok (.lstore 6, 2) := by decide +kernel
theorem dX4_commonDivisor_6 : decode cX4_commonDivisor 6 = .ok (.iconst 0, 1) := by decide +kernel
theorem dX4_commonDivisor_7 : decode cX4_commonDivisor 7 = .ok (.istore 8, 2) := by decide +kernel
theorem dX4_commonDivisor_9 : decode cX4_commonDivisor 9 = .ok (.iload 8, 2) := by decide +kernel
theorem dX4_commonDivisor_11 : decode cX4_commonDivisor 11 = .ok (.bipush 100, 2) := by decide +kernel
theorem dX4_commonDivisor_13 : decode cX4_commonDivisor 13 = .ok (.if_icmp .ge 31, 3) := by decide +kernel
theorem dX4_commonDivisor_16 : decode cX4_commonDivisor 16 = .ok (.lload 6, 2) := by decide +kernel
theorem dX4_commonDivisor_18 : decode cX4_commonDivisor 18 = .ok (.lconst 0, 1) := by decide +kernel
theorem dX4_commonDivisor_19 : decode cX4_commonDivisor 19 = .ok (.lcmp, 1) := by decide +kernel
theorem dX4_commonDivisor_20 : decode cX4_commonDivisor 20 = .ok (.ifCond .eq 24, 3) := by decide +kernel
theorem dX4_commonDivisor_23 : decode cX4_commonDivisor 23 = .ok (.lload 4, 2) := by decide +kernel
theorem dX4_commonDivisor_25 : decode cX4_commonDivisor 25 = .ok (.lload 6, 2) := by decide +kernel
theorem dX4_commonDivisor_27 : decode cX4_commonDivisor 27 = .ok (.lrem, 1) := by decide +kernel
theorem dX4_commonDivisor_28 : decode cX4_commonDivisor 28 = .ok (.lstore 9, 2) := by decide +kernel
theorem dX4_commonDivisor_30 : decode cX4_commonDivisor 30 = .ok (.lload 6, 2) := by decide +kernel
theorem dX4_commonDivisor_32 : decode cX4_commonDivisor 32 = .ok (.lstore 4, 2) := by decide +kernel
theorem dX4_commonDivisor_34 : decode cX4_commonDivisor 34 = .ok (.lload 9, 2) := by decide +kernel
theorem dX4_commonDivisor_36 : decode cX4_commonDivisor 36 = .ok (.lstore 6, 2) := by decide +kernel
theorem dX4_commonDivisor_38 : decode cX4_commonDivisor 38 = .ok (.iinc 8 1, 3) := by decide +kernel
theorem dX4_commonDivisor_41 : decode cX4_commonDivisor 41 = .ok (.goto (-32), 3) := by decide +kernel
theorem dX4_commonDivisor_44 : decode cX4_commonDivisor 44 = .ok (.lload 4, 2) := by decide +kernel
theorem dX4_commonDivisor_46 : decode cX4_commonDivisor 46 = .ok (.lreturn, 1) := by decide +kernel
theorem dX4_daysTillFull_0 : decode cX4_daysTillFull 0 = .ok (.iload_n 0, 1) := by decide +kernel
theorem dX4_daysTillFull_1 : decode cX4_daysTillFull 1 = .ok (.bipush 59, 2) := by decide +kernel
theorem dX4_daysTillFull_3 : decode cX4_daysTillFull 3 = .ok (.irem, 1) := by decide +kernel
theorem dX4_daysTillFull_4 : decode cX4_daysTillFull 4 = .ok (.istore_n 1, 1) := by decide +kernel
theorem dX4_daysTillFull_5 : decode cX4_daysTillFull 5 = .ok (.iload_n 1, 1) := by decide +kernel
theorem dX4_daysTillFull_6 : decode cX4_daysTillFull 6 = .ok (.ifCond .ne 5, 3) := by decide +kernel
theorem dX4_daysTillFull_9 : decode cX4_daysTillFull 9 = .ok (.iconst 0, 1) := by decide +kernel
theorem dX4_daysTillFull_10 : decode cX4_daysTillFull 10 = .ok (.ireturn, 1) := by decide +kernel
theorem dX4_daysTillFull_11 : decode cX4_daysTillFull 11 = .ok (.iload_n 1, 1) := by decide +kernel
theorem dX4_daysTillFull_12 : decode cX4_daysTillFull 12 = .ok (.bipush 29, 2) := by decide +kernel
theorem dX4_daysTillFull_14 : decode cX4_daysTillFull 14 = .ok (.if_icmp .gt 10, 3) := by decide +kernel
theorem dX4_daysTillFull_17 : decode cX4_daysTillFull 17 = .ok (.bipush 29, 2) := by decide +kernel
theorem dX4_daysTillFull_19 : decode cX4_daysTillFull 19 = .ok (.iload_n 1, 1) := by decide +kernel
theorem dX4_daysTillFull_20 : decode cX4_daysTillFull 20 = .ok (.isub, 1) := by decide +kernel
theorem dX4_daysTillFull_21 : decode cX4_daysTillFull 21 = .ok (.goto 7, 3) := by decide +kernel
theorem dX4_daysTillFull_24 : decode cX4_daysTillFull 24 = .ok (.bipush 59, 2) := by decide +kernel
theorem dX4_daysTillFull_26 : decode cX4_daysTillFull 26 = .ok (.iload_n 1, 1) := by decide +kernel
theorem dX4_daysTillFull_27 : decode cX4_daysTillFull 27 = .ok (.isub, 1) := by decide +kernel
theorem dX4_daysTillFull_28 : decode cX4_daysTillFull 28 = .ok (.ireturn, 1) := by decide +kernel
theorem dX4_feastOf_0 : decode cX4_feastOf 0 = .ok (.bipush 20, 2) := by decide +kernel
theorem dX4_feastOf_2 : decode cX4_feastOf 2 = .ok (.istore_n 2, 1) := by decide +kernel
theorem dX4_feastOf_3 : decode cX4_feastOf 3 = .ok (.iload_n 2, 1) := by decide +kernel
theorem dX4_feastOf_4 : decode cX4_feastOf 4 = .ok (.aload_n 0, 1) := by decide +kernel
theorem dX4_feastOf_5 : decode cX4_feastOf 5 = .ok (.iload_n 1, 1) := by decide +kernel
theorem dX4_feastOf_6 : decode cX4_feastOf 6 = .ok (.invokevirtual 177, 3) := by decide +kernel
theorem dX4_feastOf_9 : decode cX4_feastOf 9 = .ok (.if_icmp .ge 50, 3) := by decide +kernel
theorem dX4_feastOf_12 : decode cX4_feastOf 12 = .ok (.aload_n 0, 1) := by decide +kernel
theorem dX4_feastOf_13 : decode cX4_feastOf 13 = .ok (.sipush 1000, 3) := by decide +kernel
theorem dX4_feastOf_16 : decode cX4_feastOf 16 = .ok (.iload_n 1, 1) := by decide +kernel
theorem dX4_feastOf_17 : decode cX4_feastOf 17 = .ok (.imul, 1) := by decide +kernel
theorem dX4_feastOf_18 : decode cX4_feastOf 18 = .ok (.iload_n 2, 1) := by decide +kernel
theorem dX4_feastOf_19 : decode cX4_feastOf 19 = .ok (.iadd, 1) := by decide +kernel
theorem dX4_feastOf_20 : decode cX4_feastOf 20 = .ok (.invokevirtual 174, 3) := by decide +kernel
theorem dX4_feastOf_23 : decode cX4_feastOf 23 = .ok (.istore_n 3, 1) := by decide +kernel
theorem dX4_feastOf_24 : decode cX4_feastOf 24 = .ok (.iload_n 3, 1) := by decide +kernel
theorem dX4_feastOf_25 : decode cX4_feastOf 25 = .ok (.iconst (-1), 1) := by decide +kernel
theorem dX4_feastOf_26 : decode cX4_feastOf 26 = .ok (.if_icmp .eq 27, 3) := by decide +kernel
theorem dX4_feastOf_29 : decode cX4_feastOf 29 = .ok (.iload_n 3, 1) := by decide +kernel
theorem dX4_feastOf_30 : decode cX4_feastOf 30 = .ok (.iload_n 3, 1) := by decide +kernel
theorem dX4_feastOf_31 : decode cX4_feastOf 31 = .ok (.invokestatic 265, 3) := by decide +kernel
theorem dX4_feastOf_34 : decode cX4_feastOf 34 = .ok (.iadd, 1) := by decide +kernel
theorem dX4_feastOf_35 : decode cX4_feastOf 35 = .ok (.istore 4, 2) := by decide +kernel
theorem dX4_feastOf_37 : decode cX4_feastOf 37 = .ok (.iload 4, 2) := by decide +kernel
theorem dX4_feastOf_39 : decode cX4_feastOf 39 = .ok (.sipush 19999, 3) := by decide +kernel
theorem dX4_feastOf_42 : decode cX4_feastOf 42 = .ok (.if_icmp .gt 8, 3) := by decide +kernel
theorem dX4_feastOf_45 : decode cX4_feastOf 45 = .ok (.iload 4, 2) := by decide +kernel
theorem dX4_feastOf_47 : decode cX4_feastOf 47 = .ok (.goto 5, 3) := by decide +kernel
theorem dX4_feastOf_50 : decode cX4_feastOf 50 = .ok (.bipush (-9), 2) := by decide +kernel
theorem dX4_feastOf_52 : decode cX4_feastOf 52 = .ok (.ireturn, 1) := by decide +kernel
theorem dX4_feastOf_53 : decode cX4_feastOf 53 = .ok (.iinc 2 1, 3) := by decide +kernel
theorem dX4_feastOf_56 : decode cX4_feastOf 56 = .ok (.goto (-53), 3) := by decide +kernel
theorem dX4_feastOf_59 : decode cX4_feastOf 59 = .ok (.bipush (-9), 2) := by decide +kernel
theorem dX4_feastOf_61 : decode cX4_feastOf 61 = .ok (.ireturn, 1) := by decide +kernel
theorem dX4_firstYearOff_0 : decode cX4_firstYearOff 0 = .ok (.iconst 0, 1) := by decide +kernel
theorem dX4_firstYearOff_1 : decode cX4_firstYearOff 1 = .ok (.istore 4, 2) := by decide +kernel
theorem dX4_firstYearOff_3 : decode cX4_firstYearOff 3 = .ok (.iload 4, 2) := by decide +kernel
theorem dX4_firstYearOff_5 : decode cX4_firstYearOff 5 = .ok (.iload_n 3, 1) := by decide +kernel
theorem dX4_firstYearOff_6 : decode cX4_firstYearOff 6 = .ok (.if_icmp .gt 32, 3) := by decide +kernel
theorem dX4_firstYearOff_9 : decode cX4_firstYearOff 9 = .ok (.iload_n 2, 1) := by decide +kernel
theorem dX4_firstYearOff_10 : decode cX4_firstYearOff 10 = .ok (.iload 4, 2) := by decide +kernel
theorem dX4_firstYearOff_12 : decode cX4_firstYearOff 12 = .ok (.iload_n 0, 1) := by decide +kernel
theorem dX4_firstYearOff_13 : decode cX4_firstYearOff 13 = .ok (.invokestatic 320, 3) := by decide +kernel
theorem dX4_firstYearOff_16 : decode cX4_firstYearOff 16 = .ok (.imul, 1) := by decide +kernel
theorem dX4_firstYearOff_17 : decode cX4_firstYearOff 17 = .ok (.iload 4, 2) := by decide +kernel
theorem dX4_firstYearOff_19 : decode cX4_firstYearOff 19 = .ok (.isub, 1) := by decide +kernel
theorem dX4_firstYearOff_20 : decode cX4_firstYearOff 20 = .ok (.invokestatic 221, 3) := by decide +kernel
theorem dX4_firstYearOff_23 : decode cX4_firstYearOff 23 = .ok (.iload_n 1, 1) := by decide +kernel
theorem dX4_firstYearOff_24 : decode cX4_firstYearOff 24 = .ok (.iload_n 2, 1) := by decide +kernel
theorem dX4_firstYearOff_25 : decode cX4_firstYearOff 25 = .ok (.imul, 1) := by decide +kernel
theorem dX4_firstYearOff_26 : decode cX4_firstYearOff 26 = .ok (.if_icmp .le 6, 3) := by decide +kernel
theorem dX4_firstYearOff_29 : decode cX4_firstYearOff 29 = .ok (.iload 4, 2) := by decide +kernel
theorem dX4_firstYearOff_31 : decode cX4_firstYearOff 31 = .ok (.ireturn, 1) := by decide +kernel
theorem dX4_firstYearOff_32 : decode cX4_firstYearOff 32 = .ok (.iinc 4 1, 3) := by decide +kernel
theorem dX4_firstYearOff_35 : decode cX4_firstYearOff 35 = .ok (.goto (-32), 3) := by decide +kernel
theorem dX4_firstYearOff_38 : decode cX4_firstYearOff 38 = .ok (.bipush (-9), 2) := by decide +kernel
theorem dX4_firstYearOff_40 : decode cX4_firstYearOff 40 = .ok (.ireturn, 1) := by decide +kernel
theorem dX4_longYearsBefore_0 : decode cX4_longYearsBefore 0 = .ok (.iload_n 1, 1) := by decide +kernel
theorem dX4_longYearsBefore_1 : decode cX4_longYearsBefore 1 = .ok (.iconst 1, 1) := by decide +kernel
theorem dX4_longYearsBefore_2 : decode cX4_longYearsBefore 2 = .ok (.if_icmp .ge 7, 3) := by decide +kernel
theorem dX4_longYearsBefore_5 : decode cX4_longYearsBefore 5 = .ok (.iconst 0, 1) := by decide +kernel
theorem dX4_longYearsBefore_6 : decode cX4_longYearsBefore 6 = .ok (.goto 10, 3) := by decide +kernel
theorem dX4_longYearsBefore_9 : decode cX4_longYearsBefore 9 = .ok (.iload_n 0, 1) := by decide +kernel
theorem dX4_longYearsBefore_10 : decode cX4_longYearsBefore 10 = .ok (.iload_n 1, 1) := by decide +kernel
theorem dX4_longYearsBefore_11 : decode cX4_longYearsBefore 11 = .ok (.iadd, 1) := by decide +kernel
theorem dX4_longYearsBefore_12 : decode cX4_longYearsBefore 12 = .ok (.iconst 1, 1) := by decide +kernel
theorem dX4_longYearsBefore_13 : decode cX4_longYearsBefore 13 = .ok (.isub, 1) := by decide +kernel
theorem dX4_longYearsBefore_14 : decode cX4_longYearsBefore 14 = .ok (.iload_n 1, 1) := by decide +kernel
theorem dX4_longYearsBefore_15 : decode cX4_longYearsBefore 15 = .ok (.idiv, 1) := by decide +kernel
theorem dX4_longYearsBefore_16 : decode cX4_longYearsBefore 16 = .ok (.ireturn, 1) := by decide +kernel
theorem dX4_townsOf_0 : decode cX4_townsOf 0 = .ok (.iconst 0, 1) := by decide +kernel
theorem dX4_townsOf_1 : decode cX4_townsOf 1 = .ok (.istore_n 2, 1) := by decide +kernel
theorem dX4_townsOf_2 : decode cX4_townsOf 2 = .ok (.iconst 0, 1) := by decide +kernel
theorem dX4_townsOf_3 : decode cX4_townsOf 3 = .ok (.istore_n 3, 1) := by decide +kernel
theorem dX4_townsOf_4 : decode cX4_townsOf 4 = .ok (.iload_n 3, 1) := by decide +kernel
theorem dX4_townsOf_5 : decode cX4_townsOf 5 = .ok (.aload_n 0, 1) := by decide +kernel
theorem dX4_townsOf_6 : decode cX4_townsOf 6 = .ok (.getfield 42, 3) := by decide +kernel
theorem dX4_townsOf_9 : decode cX4_townsOf 9 = .ok (.if_icmp .ge 25, 3) := by decide +kernel
theorem dX4_townsOf_12 : decode cX4_townsOf 12 = .ok (.aload_n 0, 1) := by decide +kernel
theorem dX4_townsOf_13 : decode cX4_townsOf 13 = .ok (.getfield 23, 3) := by decide +kernel
theorem dX4_townsOf_16 : decode cX4_townsOf 16 = .ok (.iload_n 3, 1) := by decide +kernel
theorem dX4_townsOf_17 : decode cX4_townsOf 17 = .ok (.aaload, 1) := by decide +kernel
theorem dX4_townsOf_18 : decode cX4_townsOf 18 = .ok (.iload_n 1, 1) := by decide +kernel
theorem dX4_townsOf_19 : decode cX4_townsOf 19 = .ok (.invokevirtual 134, 3) := by decide +kernel
theorem dX4_townsOf_22 : decode cX4_townsOf 22 = .ok (.ifCond .eq 6, 3) := by decide +kernel
theorem dX4_townsOf_25 : decode cX4_townsOf 25 = .ok (.iinc 2 1, 3) := by decide +kernel
theorem dX4_townsOf_28 : decode cX4_townsOf 28 = .ok (.iinc 3 1, 3) := by decide +kernel
theorem dX4_townsOf_31 : decode cX4_townsOf 31 = .ok (.goto (-27), 3) := by decide +kernel
theorem dX4_townsOf_34 : decode cX4_townsOf 34 = .ok (.iload_n 2, 1) := by decide +kernel
theorem dX4_townsOf_35 : decode cX4_townsOf 35 = .ok (.ireturn, 1) := by decide +kernel
theorem dX4_rowsThere_0 : decode cX4_rowsThere 0 = .ok (.iconst 0, 1) := by decide +kernel
theorem dX4_rowsThere_1 : decode cX4_rowsThere 1 = .ok (.istore_n 1, 1) := by decide +kernel
theorem dX4_rowsThere_2 : decode cX4_rowsThere 2 = .ok (.iconst 0, 1) := by decide +kernel
theorem dX4_rowsThere_3 : decode cX4_rowsThere 3 = .ok (.istore_n 2, 1) := by decide +kernel
theorem dX4_rowsThere_4 : decode cX4_rowsThere 4 = .ok (.iload_n 2, 1) := by decide +kernel
theorem dX4_rowsThere_5 : decode cX4_rowsThere 5 = .ok (.bipush 6, 2) := by decide +kernel
theorem dX4_rowsThere_7 : decode cX4_rowsThere 7 = .ok (.if_icmp .ge 25, 3) := by decide +kernel
theorem dX4_rowsThere_10 : decode cX4_rowsThere 10 = .ok (.aload_n 0, 1) := by decide +kernel
theorem dX4_rowsThere_11 : decode cX4_rowsThere 11 = .ok (.getfield 11, 3) := by decide +kernel
theorem dX4_rowsThere_14 : decode cX4_rowsThere 14 = .ok (.iload_n 2, 1) := by decide +kernel
theorem dX4_rowsThere_15 : decode cX4_rowsThere 15 = .ok (.aaload, 1) := by decide +kernel
theorem dX4_rowsThere_16 : decode cX4_rowsThere 16 = .ok (.getfield 87, 3) := by decide +kernel
theorem dX4_rowsThere_19 : decode cX4_rowsThere 19 = .ok (.iconst (-1), 1) := by decide +kernel
theorem dX4_rowsThere_20 : decode cX4_rowsThere 20 = .ok (.if_icmp .eq 6, 3) := by decide +kernel
theorem dX4_rowsThere_23 : decode cX4_rowsThere 23 = .ok (.iinc 1 1, 3) := by decide +kernel
theorem dX4_rowsThere_26 : decode cX4_rowsThere 26 = .ok (.iinc 2 1, 3) := by decide +kernel
theorem dX4_rowsThere_29 : decode cX4_rowsThere 29 = .ok (.goto (-25), 3) := by decide +kernel
theorem dX4_rowsThere_32 : decode cX4_rowsThere 32 = .ok (.iload_n 1, 1) := by decide +kernel
theorem dX4_rowsThere_33 : decode cX4_rowsThere 33 = .ok (.ireturn, 1) := by decide +kernel
theorem dX4_textsThere_0 : decode cX4_textsThere 0 = .ok (.iconst 0, 1) := by decide +kernel
theorem dX4_textsThere_1 : decode cX4_textsThere 1 = .ok (.istore_n 1, 1) := by decide +kernel
theorem dX4_textsThere_2 : decode cX4_textsThere 2 = .ok (.iconst 0, 1) := by decide +kernel
theorem dX4_textsThere_3 : decode cX4_textsThere 3 = .ok (.istore_n 2, 1) := by decide +kernel
theorem dX4_textsThere_4 : decode cX4_textsThere 4 = .ok (.iload_n 2, 1) := by decide +kernel
theorem dX4_textsThere_5 : decode cX4_textsThere 5 = .ok (.iconst 4, 1) := by decide +kernel
theorem dX4_textsThere_6 : decode cX4_textsThere 6 = .ok (.if_icmp .ge 25, 3) := by decide +kernel
theorem dX4_textsThere_9 : decode cX4_textsThere 9 = .ok (.aload_n 0, 1) := by decide +kernel
theorem dX4_textsThere_10 : decode cX4_textsThere 10 = .ok (.getfield 17, 3) := by decide +kernel
theorem dX4_textsThere_13 : decode cX4_textsThere 13 = .ok (.iload_n 2, 1) := by decide +kernel
theorem dX4_textsThere_14 : decode cX4_textsThere 14 = .ok (.aaload, 1) := by decide +kernel
theorem dX4_textsThere_15 : decode cX4_textsThere 15 = .ok (.getfield 111, 3) := by decide +kernel
theorem dX4_textsThere_18 : decode cX4_textsThere 18 = .ok (.iconst (-1), 1) := by decide +kernel
theorem dX4_textsThere_19 : decode cX4_textsThere 19 = .ok (.if_icmp .eq 6, 3) := by decide +kernel
theorem dX4_textsThere_22 : decode cX4_textsThere 22 = .ok (.iinc 1 1, 3) := by decide +kernel
theorem dX4_textsThere_25 : decode cX4_textsThere 25 = .ok (.iinc 2 1, 3) := by decide +kernel
theorem dX4_textsThere_28 : decode cX4_textsThere 28 = .ok (.goto (-24), 3) := by decide +kernel
theorem dX4_textsThere_31 : decode cX4_textsThere 31 = .ok (.iload_n 1, 1) := by decide +kernel
theorem dX4_textsThere_32 : decode cX4_textsThere 32 = .ok (.ireturn, 1) := by decide +kernel
theorem dX4_almanacsKept_0 : decode cX4_almanacsKept 0 = .ok (.iconst 0, 1) := by decide +kernel
theorem dX4_almanacsKept_1 : decode cX4_almanacsKept 1 = .ok (.istore_n 1, 1) := by decide +kernel
theorem dX4_almanacsKept_2 : decode cX4_almanacsKept 2 = .ok (.iconst 0, 1) := by decide +kernel
theorem dX4_almanacsKept_3 : decode cX4_almanacsKept 3 = .ok (.istore_n 2, 1) := by decide +kernel
theorem dX4_almanacsKept_4 : decode cX4_almanacsKept 4 = .ok (.iload_n 2, 1) := by decide +kernel
theorem dX4_almanacsKept_5 : decode cX4_almanacsKept 5 = .ok (.iconst 3, 1) := by decide +kernel
theorem dX4_almanacsKept_6 : decode cX4_almanacsKept 6 = .ok (.if_icmp .ge 24, 3) := by decide +kernel
theorem dX4_almanacsKept_9 : decode cX4_almanacsKept 9 = .ok (.aload_n 0, 1) := by decide +kernel
theorem dX4_almanacsKept_10 : decode cX4_almanacsKept 10 = .ok (.getfield 29, 3) := by decide +kernel
theorem dX4_almanacsKept_13 : decode cX4_almanacsKept 13 = .ok (.iload_n 2, 1) := by decide +kernel
theorem dX4_almanacsKept_14 : decode cX4_almanacsKept 14 = .ok (.aaload, 1) := by decide +kernel
theorem dX4_almanacsKept_15 : decode cX4_almanacsKept 15 = .ok (.getfield 124, 3) := by decide +kernel
theorem dX4_almanacsKept_18 : decode cX4_almanacsKept 18 = .ok (.ifCond .eq 6, 3) := by decide +kernel
theorem dX4_almanacsKept_21 : decode cX4_almanacsKept 21 = .ok (.iinc 1 1, 3) := by decide +kernel
theorem dX4_almanacsKept_24 : decode cX4_almanacsKept 24 = .ok (.iinc 2 1, 3) := by decide +kernel
theorem dX4_almanacsKept_27 : decode cX4_almanacsKept 27 = .ok (.goto (-23), 3) := by decide +kernel
theorem dX4_almanacsKept_30 : decode cX4_almanacsKept 30 = .ok (.iload_n 1, 1) := by decide +kernel
theorem dX4_almanacsKept_31 : decode cX4_almanacsKept 31 = .ok (.ireturn, 1) := by decide +kernel
theorem dX5_init_0 : decode cX5_init 0 = .ok (.aload_n 0, 1) := by decide +kernel
theorem dX5_init_1 : decode cX5_init 1 = .ok (.invokespecial 1, 3) := by decide +kernel
theorem dX5_init_4 : decode cX5_init 4 = .ok (.aload_n 0, 1) := by decide +kernel
theorem dX5_init_5 : decode cX5_init 5 = .ok (.bipush 6, 2) := by decide +kernel
theorem dX5_init_7 : decode cX5_init 7 = .ok (.newarray .int, 2) := by decide +kernel
theorem dX5_init_9 : decode cX5_init 9 = .ok (.putfield 7, 3) := by decide +kernel
theorem dX5_init_12 : decode cX5_init 12 = .ok (.aload_n 0, 1) := by decide +kernel
theorem dX5_init_13 : decode cX5_init 13 = .ok (.lconst 1, 1) := by decide +kernel
theorem dX5_init_14 : decode cX5_init 14 = .ok (.putfield 13, 3) := by decide +kernel
theorem dX5_init_17 : decode cX5_init 17 = .ok (.aload_n 0, 1) := by decide +kernel
theorem dX5_init_18 : decode cX5_init 18 = .ok (.bipush 6, 2) := by decide +kernel
theorem dX5_init_20 : decode cX5_init 20 = .ok (.newarray .int, 2) := by decide +kernel
theorem dX5_init_22 : decode cX5_init 22 = .ok (.putfield 17, 3) := by decide +kernel
theorem dX5_init_25 : decode cX5_init 25 = .ok (.aload_n 0, 1) := by decide +kernel
theorem dX5_init_26 : decode cX5_init 26 = .ok (.sipush 240, 3) := by decide +kernel
theorem dX5_init_29 : decode cX5_init 29 = .ok (.newarray .int, 2) := by decide +kernel
theorem dX5_init_31 : decode cX5_init 31 = .ok (.putfield 20, 3) := by decide +kernel
theorem dX5_init_34 : decode cX5_init 34 = .ok (.aload_n 0, 1) := by decide +kernel
theorem dX5_init_35 : decode cX5_init 35 = .ok (.bipush 40, 2) := by decide +kernel
theorem dX5_init_37 : decode cX5_init 37 = .ok (.newarray .int, 2) := by decide +kernel
theorem dX5_init_39 : decode cX5_init 39 = .ok (.putfield 23, 3) := by decide +kernel
theorem dX5_init_42 : decode cX5_init 42 = .ok (.aload_n 0, 1) := by decide +kernel
theorem dX5_init_43 : decode cX5_init 43 = .ok (.iconst 4, 1) := by decide +kernel
theorem dX5_init_44 : decode cX5_init 44 = .ok (.newarray .int, 2) := by decide +kernel
theorem dX5_init_46 : decode cX5_init 46 = .ok (.putfield 26, 3) := by decide +kernel
theorem dX5_init_49 : decode cX5_init 49 = .ok (.aload_n 0, 1) := by decide +kernel
theorem dX5_init_50 : decode cX5_init 50 = .ok (.sipush 240, 3) := by decide +kernel
theorem dX5_init_53 : decode cX5_init 53 = .ok (.newarray .int, 2) := by decide +kernel
theorem dX5_init_55 : decode cX5_init 55 = .ok (.putfield 29, 3) := by decide +kernel
theorem dX5_init_58 : decode cX5_init 58 = .ok (.aload_n 0, 1) := by decide +kernel
theorem dX5_init_59 : decode cX5_init 59 = .ok (.iconst 5, 1) := by decide +kernel
theorem dX5_init_60 : decode cX5_init 60 = .ok (.newarray .int, 2) := by decide +kernel
theorem dX5_init_62 : decode cX5_init 62 = .ok (.putfield 32, 3) := by decide +kernel
theorem dX5_init_65 : decode cX5_init 65 = .ok (.aload_n 0, 1) := by decide +kernel
theorem dX5_init_66 : decode cX5_init 66 = .ok (.iconst 5, 1) := by decide +kernel
theorem dX5_init_67 : decode cX5_init 67 = .ok (.newarray .int, 2) := by decide +kernel
theorem dX5_init_69 : decode cX5_init 69 = .ok (.putfield 35, 3) := by decide +kernel
theorem dX5_init_72 : decode cX5_init 72 = .ok (.aload_n 0, 1) := by decide +kernel
theorem dX5_init_73 : decode cX5_init 73 = .ok (.iconst 5, 1) := by decide +kernel
theorem dX5_init_74 : decode cX5_init 74 = .ok (.newarray .int, 2) := by decide +kernel
theorem dX5_init_76 : decode cX5_init 76 = .ok (.putfield 38, 3) := by decide +kernel
theorem dX5_init_79 : decode cX5_init 79 = .ok (.aload_n 0, 1) := by decide +kernel
theorem dX5_init_80 : decode cX5_init 80 = .ok (.iconst 5, 1) := by decide +kernel
theorem dX5_init_81 : decode cX5_init 81 = .ok (.newarray .int, 2) := by decide +kernel
theorem dX5_init_83 : decode cX5_init 83 = .ok (.putfield 41, 3) := by decide +kernel
theorem dX5_init_86 : decode cX5_init 86 = .ok (.aload_n 0, 1) := by decide +kernel
theorem dX5_init_87 : decode cX5_init 87 = .ok (.bipush 20, 2) := by decide +kernel
theorem dX5_init_89 : decode cX5_init 89 = .ok (.newarray .int, 2) := by decide +kernel
theorem dX5_init_91 : decode cX5_init 91 = .ok (.putfield 44, 3) := by decide +kernel
theorem dX5_init_94 : decode cX5_init 94 = .ok (.aload_n 0, 1) := by decide +kernel
theorem dX5_init_95 : decode cX5_init 95 = .ok (.bipush 63, 2) := by decide +kernel
theorem dX5_init_97 : decode cX5_init 97 = .ok (.newarray .int, 2) := by decide +kernel
theorem dX5_init_99 : decode cX5_init 99 = .ok (.putfield 47, 3) := by decide +kernel
theorem dX5_init_102 : decode cX5_init 102 = .ok (.iconst 0, 1) := by decide +kernel
theorem dX5_init_103 : decode cX5_init 103 = .ok (.istore_n 1, 1) := by decide +kernel
theorem dX5_init_104 : decode cX5_init 104 = .ok (.iload_n 1, 1) := by decide +kernel
theorem dX5_init_105 : decode cX5_init 105 = .ok (.bipush 6, 2) := by decide +kernel
theorem dX5_init_107 : decode cX5_init 107 = .ok (.if_icmp .ge 17, 3) := by decide +kernel
theorem dX5_init_110 : decode cX5_init 110 = .ok (.aload_n 0, 1) := by decide +kernel
theorem dX5_init_111 : decode cX5_init 111 = .ok (.getfield 17, 3) := by decide +kernel
theorem dX5_init_114 : decode cX5_init 114 = .ok (.iload_n 1, 1) := by decide +kernel
theorem dX5_init_115 : decode cX5_init 115 = .ok (.bipush (-9), 2) := by decide +kernel
theorem dX5_init_117 : decode cX5_init 117 = .ok (.iastore, 1) := by decide +kernel
theorem dX5_init_118 : decode cX5_init 118 = .ok (.iinc 1 1, 3) := by decide +kernel
theorem dX5_init_121 : decode cX5_init 121 = .ok (.goto (-17), 3) := by decide +kernel
theorem dX5_init_124 : decode cX5_init 124 = .ok (.iconst 0, 1) := by decide +kernel
theorem dX5_init_125 : decode cX5_init 125 = .ok (.istore_n 1, 1) := by decide +kernel
theorem dX5_init_126 : decode cX5_init 126 = .ok (.iload_n 1, 1) := by decide +kernel
theorem dX5_init_127 : decode cX5_init 127 = .ok (.iconst 4, 1) := by decide +kernel
theorem dX5_init_128 : decode cX5_init 128 = .ok (.if_icmp .ge 17, 3) := by decide +kernel
theorem dX5_init_131 : decode cX5_init 131 = .ok (.aload_n 0, 1) := by decide +kernel
theorem dX5_init_132 : decode cX5_init 132 = .ok (.getfield 26, 3) := by decide +kernel
theorem dX5_init_135 : decode cX5_init 135 = .ok (.iload_n 1, 1) := by decide +kernel
theorem dX5_init_136 : decode cX5_init 136 = .ok (.bipush (-9), 2) := by decide +kernel
theorem dX5_init_138 : decode cX5_init 138 = .ok (.iastore, 1) := by decide +kernel
theorem dX5_init_139 : decode cX5_init 139 = .ok (.iinc 1 1, 3) := by decide +kernel
theorem dX5_init_142 : decode cX5_init 142 = .ok (.goto (-16), 3) := by decide +kernel
theorem dX5_init_145 : decode cX5_init 145 = .ok (.iconst 0, 1) := by decide +kernel
theorem dX5_init_146 : decode cX5_init 146 = .ok (.istore_n 1, 1) := by decide +kernel
theorem dX5_init_147 : decode cX5_init 147 = .ok (.iload_n 1, 1) := by decide +kernel
theorem dX5_init_148 : decode cX5_init 148 = .ok (.iconst 3, 1) := by decide +kernel
theorem dX5_init_149 : decode cX5_init 149 = .ok (.if_icmp .ge 20, 3) := by decide +kernel
theorem dX5_init_152 : decode cX5_init 152 = .ok (.aload_n 0, 1) := by decide +kernel
theorem dX5_init_153 : decode cX5_init 153 = .ok (.getfield 47, 3) := by decide +kernel
theorem dX5_init_156 : decode cX5_init 156 = .ok (.bipush 21, 2) := by decide +kernel
theorem dX5_init_158 : decode cX5_init 158 = .ok (.iload_n 1, 1) := by decide +kernel
theorem dX5_init_159 : decode cX5_init 159 = .ok (.imul, 1) := by decide +kernel
theorem dX5_init_160 : decode cX5_init 160 = .ok (.bipush (-9), 2) := by decide +kernel
theorem dX5_init_162 : decode cX5_init 162 = .ok (.iastore, 1) := by decide +kernel
theorem dX5_init_163 : decode cX5_init 163 = .ok (.iinc 1 1, 3) := by decide +kernel
theorem dX5_init_166 : decode cX5_init 166 = .ok (.goto (-19), 3) := by decide +kernel
theorem dX5_init_169 : decode cX5_init 169 = .ok (.return_, 1) := by decide +kernel
theorem dX5_in_0 : decode cX5_in 0 = .ok (.iload_n 0, 1) := by decide +kernel
theorem dX5_in_1 : decode cX5_in 1 = .ok (.iload_n 1, 1) := by decide +kernel
theorem dX5_in_2 : decode cX5_in 2 = .ok (.if_icmp .lt 12, 3) := by decide +kernel
theorem dX5_in_5 : decode cX5_in 5 = .ok (.iload_n 0, 1) := by decide +kernel
theorem dX5_in_6 : decode cX5_in 6 = .ok (.iload_n 2, 1) := by decide +kernel
theorem dX5_in_7 : decode cX5_in 7 = .ok (.if_icmp .gt 7, 3) := by decide +kernel
theorem dX5_in_10 : decode cX5_in 10 = .ok (.iconst 1, 1) := by decide +kernel
theorem dX5_in_11 : decode cX5_in 11 = .ok (.goto 4, 3) := by decide +kernel
theorem dX5_in_14 : decode cX5_in 14 = .ok (.iconst 0, 1) := by decide +kernel
theorem dX5_in_15 : decode cX5_in 15 = .ok (.ireturn, 1) := by decide +kernel
theorem dX5_meet_0 : decode cX5_meet 0 = .ok (.aload_n 0, 1) := by decide +kernel
theorem dX5_meet_1 : decode cX5_meet 1 = .ok (.iload_n 1, 1) := by decide +kernel
theorem dX5_meet_2 : decode cX5_meet 2 = .ok (.putfield 50, 3) := by decide +kernel
theorem dX5_meet_5 : decode cX5_meet 5 = .ok (.aload_n 0, 1) := by decide +kernel
theorem dX5_meet_6 : decode cX5_meet 6 = .ok (.getfield 7, 3) := by decide +kernel
theorem dX5_meet_9 : decode cX5_meet 9 = .ok (.iload_n 1, 1) := by decide +kernel
theorem dX5_meet_10 : decode cX5_meet 10 = .ok (.dup2, 1) := by decide +kernel
theorem dX5_meet_11 : decode cX5_meet 11 = .ok (.iaload, 1) := by decide +kernel
theorem dX5_meet_12 : decode cX5_meet 12 = .ok (.iconst 1, 1) := by decide +kernel
theorem dX5_meet_13 : decode cX5_meet 13 = .ok (.iadd, 1) := by decide +kernel
theorem dX5_meet_14 : decode cX5_meet 14 = .ok (.iastore, 1) := by decide +kernel
theorem dX5_meet_15 : decode cX5_meet 15 = .ok (.bipush (-3), 2) := by decide +kernel
theorem dX5_meet_17 : decode cX5_meet 17 = .ok (.ireturn, 1) := by decide +kernel
theorem dX5_ask_0 : decode cX5_ask 0 = .ok (.aload_n 0, 1) := by decide +kernel
theorem dX5_ask_1 : decode cX5_ask 1 = .ok (.iload_n 1, 1) := by decide +kernel
theorem dX5_ask_2 : decode cX5_ask 2 = .ok (.putfield 54, 3) := by decide +kernel
theorem dX5_ask_5 : decode cX5_ask 5 = .ok (.iload_n 2, 1) := by decide +kernel
theorem dX5_ask_6 : decode cX5_ask 6 = .ok (.ireturn, 1) := by decide +kernel
theorem dX5_greater_0 : decode cX5_greater 0 = .ok (.iload_n 0, 1) := by decide +kernel
theorem dX5_greater_1 : decode cX5_greater 1 = .ok (.iload_n 1, 1) := by decide +kernel
theorem dX5_greater_2 : decode cX5_greater 2 = .ok (.if_icmp .le 7, 3) := by decide +kernel
theorem dX5_greater_5 : decode cX5_greater 5 = .ok (.iload_n 0, 1) := by decide +kernel
theorem dX5_greater_6 : decode cX5_greater 6 = .ok (.goto 4, 3) := by decide +kernel
theorem dX5_greater_9 : decode cX5_greater 9 = .ok (.iload_n 1, 1) := by decide +kernel
theorem dX5_greater_10 : decode cX5_greater 10 = .ok (.ireturn, 1) := by decide +kernel
theorem dX5_apartOf_0 : decode cX5_apartOf 0 = .ok (.iload_n 0, 1) := by decide +kernel
theorem dX5_apartOf_1 : decode cX5_apartOf 1 = .ok (.iload_n 1, 1) := by decide +kernel
