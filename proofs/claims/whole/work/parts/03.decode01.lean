theorem dX4_init_73 : decode cX4_init 73 = .ok (.putfield 52, 3) := by decide +kernel
theorem dX4_init_76 : decode cX4_init 76 = .ok (.aload_n 0, 1) := by decide +kernel
theorem dX4_init_77 : decode cX4_init 77 = .ok (.lconst 1, 1) := by decide +kernel
theorem dX4_init_78 : decode cX4_init 78 = .ok (.putfield 56, 3) := by decide +kernel
theorem dX4_init_81 : decode cX4_init 81 = .ok (.aload_n 0, 1) := by decide +kernel
theorem dX4_init_82 : decode cX4_init 82 = .ok (.iconst 0, 1) := by decide +kernel
theorem dX4_init_83 : decode cX4_init 83 = .ok (.putfield 59, 3) := by decide +kernel
theorem dX4_init_86 : decode cX4_init 86 = .ok (.iconst 0, 1) := by decide +kernel
theorem dX4_init_87 : decode cX4_init 87 = .ok (.istore_n 1, 1) := by decide +kernel
theorem dX4_init_88 : decode cX4_init 88 = .ok (.iload_n 1, 1) := by decide +kernel
theorem dX4_init_89 : decode cX4_init 89 = .ok (.bipush 6, 2) := by decide +kernel
theorem dX4_init_91 : decode cX4_init 91 = .ok (.if_icmp .ge 22, 3) := by decide +kernel
theorem dX4_init_94 : decode cX4_init 94 = .ok (.aload_n 0, 1) := by decide +kernel
theorem dX4_init_95 : decode cX4_init 95 = .ok (.getfield 11, 3) := by decide +kernel
theorem dX4_init_98 : decode cX4_init 98 = .ok (.iload_n 1, 1) := by decide +kernel
theorem dX4_init_99 : decode cX4_init 99 = .ok (.new 9, 3) := by decide +kernel
theorem dX4_init_102 : decode cX4_init 102 = .ok (.dup, 1) := by decide +kernel
theorem dX4_init_103 : decode cX4_init 103 = .ok (.invokespecial 62, 3) := by decide +kernel
theorem dX4_init_106 : decode cX4_init 106 = .ok (.aastore, 1) := by decide +kernel
theorem dX4_init_107 : decode cX4_init 107 = .ok (.iinc 1 1, 3) := by decide +kernel
theorem dX4_init_110 : decode cX4_init 110 = .ok (.goto (-22), 3) := by decide +kernel
theorem dX4_init_113 : decode cX4_init 113 = .ok (.iconst 0, 1) := by decide +kernel
theorem dX4_init_114 : decode cX4_init 114 = .ok (.istore_n 1, 1) := by decide +kernel
theorem dX4_init_115 : decode cX4_init 115 = .ok (.iload_n 1, 1) := by decide +kernel
theorem dX4_init_116 : decode cX4_init 116 = .ok (.iconst 4, 1) := by decide +kernel
theorem dX4_init_117 : decode cX4_init 117 = .ok (.if_icmp .ge 22, 3) := by decide +kernel
theorem dX4_init_120 : decode cX4_init 120 = .ok (.aload_n 0, 1) := by decide +kernel
theorem dX4_init_121 : decode cX4_init 121 = .ok (.getfield 17, 3) := by decide +kernel
theorem dX4_init_124 : decode cX4_init 124 = .ok (.iload_n 1, 1) := by decide +kernel
theorem dX4_init_125 : decode cX4_init 125 = .ok (.new 15, 3) := by decide +kernel
theorem dX4_init_128 : decode cX4_init 128 = .ok (.dup, 1) := by decide +kernel
theorem dX4_init_129 : decode cX4_init 129 = .ok (.invokespecial 63, 3) := by decide +kernel
theorem dX4_init_132 : decode cX4_init 132 = .ok (.aastore, 1) := by decide +kernel
theorem dX4_init_133 : decode cX4_init 133 = .ok (.iinc 1 1, 3) := by decide +kernel
theorem dX4_init_136 : decode cX4_init 136 = .ok (.goto (-21), 3) := by decide +kernel
theorem dX4_init_139 : decode cX4_init 139 = .ok (.iconst 0, 1) := by decide +kernel
theorem dX4_init_140 : decode cX4_init 140 = .ok (.istore_n 1, 1) := by decide +kernel
theorem dX4_init_141 : decode cX4_init 141 = .ok (.iload_n 1, 1) := by decide +kernel
theorem dX4_init_142 : decode cX4_init 142 = .ok (.iconst 5, 1) := by decide +kernel
theorem dX4_init_143 : decode cX4_init 143 = .ok (.if_icmp .ge 22, 3) := by decide +kernel
theorem dX4_init_146 : decode cX4_init 146 = .ok (.aload_n 0, 1) := by decide +kernel
theorem dX4_init_147 : decode cX4_init 147 = .ok (.getfield 23, 3) := by decide +kernel
theorem dX4_init_150 : decode cX4_init 150 = .ok (.iload_n 1, 1) := by decide +kernel
theorem dX4_init_151 : decode cX4_init 151 = .ok (.new 21, 3) := by decide +kernel
theorem dX4_init_154 : decode cX4_init 154 = .ok (.dup, 1) := by decide +kernel
theorem dX4_init_155 : decode cX4_init 155 = .ok (.invokespecial 33, 3) := by decide +kernel
theorem dX4_init_158 : decode cX4_init 158 = .ok (.aastore, 1) := by decide +kernel
theorem dX4_init_159 : decode cX4_init 159 = .ok (.iinc 1 1, 3) := by decide +kernel
theorem dX4_init_162 : decode cX4_init 162 = .ok (.goto (-21), 3) := by decide +kernel
theorem dX4_init_165 : decode cX4_init 165 = .ok (.iconst 0, 1) := by decide +kernel
theorem dX4_init_166 : decode cX4_init 166 = .ok (.istore_n 1, 1) := by decide +kernel
theorem dX4_init_167 : decode cX4_init 167 = .ok (.iload_n 1, 1) := by decide +kernel
theorem dX4_init_168 : decode cX4_init 168 = .ok (.iconst 3, 1) := by decide +kernel
theorem dX4_init_169 : decode cX4_init 169 = .ok (.if_icmp .ge 22, 3) := by decide +kernel
theorem dX4_init_172 : decode cX4_init 172 = .ok (.aload_n 0, 1) := by decide +kernel
theorem dX4_init_173 : decode cX4_init 173 = .ok (.getfield 29, 3) := by decide +kernel
theorem dX4_init_176 : decode cX4_init 176 = .ok (.iload_n 1, 1) := by decide +kernel
theorem dX4_init_177 : decode cX4_init 177 = .ok (.new 27, 3) := by decide +kernel
theorem dX4_init_180 : decode cX4_init 180 = .ok (.dup, 1) := by decide +kernel
theorem dX4_init_181 : decode cX4_init 181 = .ok (.invokespecial 64, 3) := by decide +kernel
theorem dX4_init_184 : decode cX4_init 184 = .ok (.aastore, 1) := by decide +kernel
theorem dX4_init_185 : decode cX4_init 185 = .ok (.iinc 1 1, 3) := by decide +kernel
theorem dX4_init_188 : decode cX4_init 188 = .ok (.goto (-21), 3) := by decide +kernel
theorem dX4_init_191 : decode cX4_init 191 = .ok (.return_, 1) := by decide +kernel
theorem dX4_row_0 : decode cX4_row 0 = .ok (.iload_n 1, 1) := by decide +kernel
theorem dX4_row_1 : decode cX4_row 1 = .ok (.invokestatic 65, 3) := by decide +kernel
theorem dX4_row_4 : decode cX4_row 4 = .ok (.ifCond .eq 9, 3) := by decide +kernel
theorem dX4_row_7 : decode cX4_row 7 = .ok (.iload_n 2, 1) := by decide +kernel
theorem dX4_row_8 : decode cX4_row 8 = .ok (.bipush 40, 2) := by decide +kernel
theorem dX4_row_10 : decode cX4_row 10 = .ok (.if_icmp .le 5, 3) := by decide +kernel
theorem dX4_row_13 : decode cX4_row 13 = .ok (.iconst (-1), 1) := by decide +kernel
theorem dX4_row_14 : decode cX4_row 14 = .ok (.ireturn, 1) := by decide +kernel
theorem dX4_row_15 : decode cX4_row 15 = .ok (.iload_n 2, 1) := by decide +kernel
theorem dX4_row_16 : decode cX4_row 16 = .ok (.ifCond .ge 9, 3) := by decide +kernel
theorem dX4_row_19 : decode cX4_row 19 = .ok (.aload_n 0, 1) := by decide +kernel
theorem dX4_row_20 : decode cX4_row 20 = .ok (.iconst 5, 1) := by decide +kernel
theorem dX4_row_21 : decode cX4_row 21 = .ok (.invokevirtual 69, 3) := by decide +kernel
theorem dX4_row_24 : decode cX4_row 24 = .ok (.ireturn, 1) := by decide +kernel
theorem dX4_row_25 : decode cX4_row 25 = .ok (.aload_n 0, 1) := by decide +kernel
theorem dX4_row_26 : decode cX4_row 26 = .ok (.getfield 11, 3) := by decide +kernel
theorem dX4_row_29 : decode cX4_row 29 = .ok (.iload_n 1, 1) := by decide +kernel
theorem dX4_row_30 : decode cX4_row 30 = .ok (.aaload, 1) := by decide +kernel
theorem dX4_row_31 : decode cX4_row 31 = .ok (.iload_n 2, 1) := by decide +kernel
theorem dX4_row_32 : decode cX4_row 32 = .ok (.invokevirtual 73, 3) := by decide +kernel
theorem dX4_row_35 : decode cX4_row 35 = .ok (.iload_n 2, 1) := by decide +kernel
theorem dX4_row_36 : decode cX4_row 36 = .ok (.ireturn, 1) := by decide +kernel
theorem dX4_lay_0 : decode cX4_lay 0 = .ok (.aload_n 0, 1) := by decide +kernel
theorem dX4_lay_1 : decode cX4_lay 1 = .ok (.iload_n 1, 1) := by decide +kernel
theorem dX4_lay_2 : decode cX4_lay 2 = .ok (.iload_n 2, 1) := by decide +kernel
theorem dX4_lay_3 : decode cX4_lay 3 = .ok (.invokevirtual 77, 3) := by decide +kernel
theorem dX4_lay_6 : decode cX4_lay 6 = .ok (.istore 4, 2) := by decide +kernel
theorem dX4_lay_8 : decode cX4_lay 8 = .ok (.iload 4, 2) := by decide +kernel
theorem dX4_lay_10 : decode cX4_lay 10 = .ok (.ifCond .eq 6, 3) := by decide +kernel
theorem dX4_lay_13 : decode cX4_lay 13 = .ok (.iload 4, 2) := by decide +kernel
theorem dX4_lay_15 : decode cX4_lay 15 = .ok (.ireturn, 1) := by decide +kernel
theorem dX4_lay_16 : decode cX4_lay 16 = .ok (.aload_n 0, 1) := by decide +kernel
theorem dX4_lay_17 : decode cX4_lay 17 = .ok (.aload_n 0, 1) := by decide +kernel
theorem dX4_lay_18 : decode cX4_lay 18 = .ok (.getfield 11, 3) := by decide +kernel
theorem dX4_lay_21 : decode cX4_lay 21 = .ok (.iload_n 1, 1) := by decide +kernel
theorem dX4_lay_22 : decode cX4_lay 22 = .ok (.aaload, 1) := by decide +kernel
theorem dX4_lay_23 : decode cX4_lay 23 = .ok (.getfield 81, 3) := by decide +kernel
theorem dX4_lay_26 : decode cX4_lay 26 = .ok (.iload_n 2, 1) := by decide +kernel
theorem dX4_lay_27 : decode cX4_lay 27 = .ok (.iaload, 1) := by decide +kernel
theorem dX4_lay_28 : decode cX4_lay 28 = .ok (.putfield 49, 3) := by decide +kernel
theorem dX4_lay_31 : decode cX4_lay 31 = .ok (.aload_n 0, 1) := by decide +kernel
theorem dX4_lay_32 : decode cX4_lay 32 = .ok (.getfield 11, 3) := by decide +kernel
theorem dX4_lay_35 : decode cX4_lay 35 = .ok (.iload_n 1, 1) := by decide +kernel
theorem dX4_lay_36 : decode cX4_lay 36 = .ok (.aaload, 1) := by decide +kernel
theorem dX4_lay_37 : decode cX4_lay 37 = .ok (.getfield 81, 3) := by decide +kernel
theorem dX4_lay_40 : decode cX4_lay 40 = .ok (.iload_n 2, 1) := by decide +kernel
theorem dX4_lay_41 : decode cX4_lay 41 = .ok (.iload_n 3, 1) := by decide +kernel
theorem dX4_lay_42 : decode cX4_lay 42 = .ok (.iastore, 1) := by decide +kernel
theorem dX4_lay_43 : decode cX4_lay 43 = .ok (.iconst 1, 1) := by decide +kernel
theorem dX4_lay_44 : decode cX4_lay 44 = .ok (.ireturn, 1) := by decide +kernel
theorem dX4_at_0 : decode cX4_at 0 = .ok (.aload_n 0, 1) := by decide +kernel
theorem dX4_at_1 : decode cX4_at 1 = .ok (.iload_n 1, 1) := by decide +kernel
theorem dX4_at_2 : decode cX4_at 2 = .ok (.iload_n 2, 1) := by decide +kernel
theorem dX4_at_3 : decode cX4_at 3 = .ok (.invokevirtual 77, 3) := by decide +kernel
theorem dX4_at_6 : decode cX4_at 6 = .ok (.istore_n 3, 1) := by decide +kernel
theorem dX4_at_7 : decode cX4_at 7 = .ok (.iload_n 3, 1) := by decide +kernel
theorem dX4_at_8 : decode cX4_at 8 = .ok (.ifCond .eq 5, 3) := by decide +kernel
theorem dX4_at_11 : decode cX4_at 11 = .ok (.iload_n 3, 1) := by decide +kernel
theorem dX4_at_12 : decode cX4_at 12 = .ok (.ireturn, 1) := by decide +kernel
theorem dX4_at_13 : decode cX4_at 13 = .ok (.aload_n 0, 1) := by decide +kernel
theorem dX4_at_14 : decode cX4_at 14 = .ok (.aload_n 0, 1) := by decide +kernel
theorem dX4_at_15 : decode cX4_at 15 = .ok (.getfield 11, 3) := by decide +kernel
theorem dX4_at_18 : decode cX4_at 18 = .ok (.iload_n 1, 1) := by decide +kernel
theorem dX4_at_19 : decode cX4_at 19 = .ok (.aaload, 1) := by decide +kernel
theorem dX4_at_20 : decode cX4_at 20 = .ok (.getfield 81, 3) := by decide +kernel
theorem dX4_at_23 : decode cX4_at 23 = .ok (.iload_n 2, 1) := by decide +kernel
theorem dX4_at_24 : decode cX4_at 24 = .ok (.iaload, 1) := by decide +kernel
theorem dX4_at_25 : decode cX4_at 25 = .ok (.putfield 49, 3) := by decide +kernel
theorem dX4_at_28 : decode cX4_at 28 = .ok (.iconst 1, 1) := by decide +kernel
theorem dX4_at_29 : decode cX4_at 29 = .ok (.ireturn, 1) := by decide +kernel
theorem dX4_tear_0 : decode cX4_tear 0 = .ok (.aload_n 0, 1) := by decide +kernel
theorem dX4_tear_1 : decode cX4_tear 1 = .ok (.iload_n 1, 1) := by decide +kernel
theorem dX4_tear_2 : decode cX4_tear 2 = .ok (.invokevirtual 84, 3) := by decide +kernel
theorem dX4_tear_5 : decode cX4_tear 5 = .ok (.istore_n 2, 1) := by decide +kernel
theorem dX4_tear_6 : decode cX4_tear 6 = .ok (.iload_n 2, 1) := by decide +kernel
theorem dX4_tear_7 : decode cX4_tear 7 = .ok (.ifCond .eq 5, 3) := by decide +kernel
theorem dX4_tear_10 : decode cX4_tear 10 = .ok (.iload_n 2, 1) := by decide +kernel
theorem dX4_tear_11 : decode cX4_tear 11 = .ok (.ireturn, 1) := by decide +kernel
theorem dX4_tear_12 : decode cX4_tear 12 = .ok (.aload_n 0, 1) := by decide +kernel
theorem dX4_tear_13 : decode cX4_tear 13 = .ok (.getfield 11, 3) := by decide +kernel
theorem dX4_tear_16 : decode cX4_tear 16 = .ok (.iload_n 1, 1) := by decide +kernel
theorem dX4_tear_17 : decode cX4_tear 17 = .ok (.aaload, 1) := by decide +kernel
theorem dX4_tear_18 : decode cX4_tear 18 = .ok (.iconst (-1), 1) := by decide +kernel
theorem dX4_tear_19 : decode cX4_tear 19 = .ok (.putfield 87, 3) := by decide +kernel
theorem dX4_tear_22 : decode cX4_tear 22 = .ok (.iconst 1, 1) := by decide +kernel
theorem dX4_tear_23 : decode cX4_tear 23 = .ok (.ireturn, 1) := by decide +kernel
theorem dX4_copy_0 : decode cX4_copy 0 = .ok (.iload_n 1, 1) := by decide +kernel
theorem dX4_copy_1 : decode cX4_copy 1 = .ok (.invokestatic 65, 3) := by decide +kernel
theorem dX4_copy_4 : decode cX4_copy 4 = .ok (.ifCond .eq 10, 3) := by decide +kernel
theorem dX4_copy_7 : decode cX4_copy 7 = .ok (.iload_n 3, 1) := by decide +kernel
theorem dX4_copy_8 : decode cX4_copy 8 = .ok (.invokestatic 65, 3) := by decide +kernel
theorem dX4_copy_11 : decode cX4_copy 11 = .ok (.ifCond .ne 5, 3) := by decide +kernel
theorem dX4_copy_14 : decode cX4_copy 14 = .ok (.iconst (-1), 1) := by decide +kernel
theorem dX4_copy_15 : decode cX4_copy 15 = .ok (.ireturn, 1) := by decide +kernel
theorem dX4_copy_16 : decode cX4_copy 16 = .ok (.iload 5, 2) := by decide +kernel
theorem dX4_copy_18 : decode cX4_copy 18 = .ok (.ifCond .ge 9, 3) := by decide +kernel
theorem dX4_copy_21 : decode cX4_copy 21 = .ok (.aload_n 0, 1) := by decide +kernel
theorem dX4_copy_22 : decode cX4_copy 22 = .ok (.iconst 5, 1) := by decide +kernel
theorem dX4_copy_23 : decode cX4_copy 23 = .ok (.invokevirtual 69, 3) := by decide +kernel
theorem dX4_copy_26 : decode cX4_copy 26 = .ok (.ireturn, 1) := by decide +kernel
theorem dX4_copy_27 : decode cX4_copy 27 = .ok (.aload_n 0, 1) := by decide +kernel
theorem dX4_copy_28 : decode cX4_copy 28 = .ok (.getfield 11, 3) := by decide +kernel
theorem dX4_copy_31 : decode cX4_copy 31 = .ok (.iload_n 1, 1) := by decide +kernel
theorem dX4_copy_32 : decode cX4_copy 32 = .ok (.aaload, 1) := by decide +kernel
theorem dX4_copy_33 : decode cX4_copy 33 = .ok (.getfield 87, 3) := by decide +kernel
theorem dX4_copy_36 : decode cX4_copy 36 = .ok (.iconst (-1), 1) := by decide +kernel
theorem dX4_copy_37 : decode cX4_copy 37 = .ok (.if_icmp .eq 16, 3) := by decide +kernel
theorem dX4_copy_40 : decode cX4_copy 40 = .ok (.aload_n 0, 1) := by decide +kernel
theorem dX4_copy_41 : decode cX4_copy 41 = .ok (.getfield 11, 3) := by decide +kernel
theorem dX4_copy_44 : decode cX4_copy 44 = .ok (.iload_n 3, 1) := by decide +kernel
theorem dX4_copy_45 : decode cX4_copy 45 = .ok (.aaload, 1) := by decide +kernel
theorem dX4_copy_46 : decode cX4_copy 46 = .ok (.getfield 87, 3) := by decide +kernel
theorem dX4_copy_49 : decode cX4_copy 49 = .ok (.iconst (-1), 1) := by decide +kernel
theorem dX4_copy_50 : decode cX4_copy 50 = .ok (.if_icmp .ne 9, 3) := by decide +kernel
theorem dX4_copy_53 : decode cX4_copy 53 = .ok (.aload_n 0, 1) := by decide +kernel
theorem dX4_copy_54 : decode cX4_copy 54 = .ok (.iconst 1, 1) := by decide +kernel
theorem dX4_copy_55 : decode cX4_copy 55 = .ok (.invokevirtual 69, 3) := by decide +kernel
theorem dX4_copy_58 : decode cX4_copy 58 = .ok (.ireturn, 1) := by decide +kernel
theorem dX4_copy_59 : decode cX4_copy 59 = .ok (.aload_n 0, 1) := by decide +kernel
theorem dX4_copy_60 : decode cX4_copy 60 = .ok (.getfield 11, 3) := by decide +kernel
theorem dX4_copy_63 : decode cX4_copy 63 = .ok (.iload_n 1, 1) := by decide +kernel
theorem dX4_copy_64 : decode cX4_copy 64 = .ok (.aaload, 1) := by decide +kernel
theorem dX4_copy_65 : decode cX4_copy 65 = .ok (.iload_n 2, 1) := by decide +kernel
theorem dX4_copy_66 : decode cX4_copy 66 = .ok (.iload 5, 2) := by decide +kernel
theorem dX4_copy_68 : decode cX4_copy 68 = .ok (.invokevirtual 90, 3) := by decide +kernel
theorem dX4_copy_71 : decode cX4_copy 71 = .ok (.ifCond .eq 19, 3) := by decide +kernel
theorem dX4_copy_74 : decode cX4_copy 74 = .ok (.aload_n 0, 1) := by decide +kernel
theorem dX4_copy_75 : decode cX4_copy 75 = .ok (.getfield 11, 3) := by decide +kernel
theorem dX4_copy_78 : decode cX4_copy 78 = .ok (.iload_n 3, 1) := by decide +kernel
theorem dX4_copy_79 : decode cX4_copy 79 = .ok (.aaload, 1) := by decide +kernel
theorem dX4_copy_80 : decode cX4_copy 80 = .ok (.iload 4, 2) := by decide +kernel
theorem dX4_copy_82 : decode cX4_copy 82 = .ok (.iload 5, 2) := by decide +kernel
theorem dX4_copy_84 : decode cX4_copy 84 = .ok (.invokevirtual 90, 3) := by decide +kernel
theorem dX4_copy_87 : decode cX4_copy 87 = .ok (.ifCond .ne 9, 3) := by decide +kernel
theorem dX4_copy_90 : decode cX4_copy 90 = .ok (.aload_n 0, 1) := by decide +kernel
theorem dX4_copy_91 : decode cX4_copy 91 = .ok (.iconst 2, 1) := by decide +kernel
theorem dX4_copy_92 : decode cX4_copy 92 = .ok (.invokevirtual 69, 3) := by decide +kernel
theorem dX4_copy_95 : decode cX4_copy 95 = .ok (.ireturn, 1) := by decide +kernel
theorem dX4_copy_96 : decode cX4_copy 96 = .ok (.aload_n 0, 1) := by decide +kernel
theorem dX4_copy_97 : decode cX4_copy 97 = .ok (.getfield 11, 3) := by decide +kernel
theorem dX4_copy_100 : decode cX4_copy 100 = .ok (.iload_n 1, 1) := by decide +kernel
theorem dX4_copy_101 : decode cX4_copy 101 = .ok (.aaload, 1) := by decide +kernel
theorem dX4_copy_102 : decode cX4_copy 102 = .ok (.getfield 81, 3) := by decide +kernel
theorem dX4_copy_105 : decode cX4_copy 105 = .ok (.iload_n 2, 1) := by decide +kernel
theorem dX4_copy_106 : decode cX4_copy 106 = .ok (.aload_n 0, 1) := by decide +kernel
theorem dX4_copy_107 : decode cX4_copy 107 = .ok (.getfield 11, 3) := by decide +kernel
theorem dX4_copy_110 : decode cX4_copy 110 = .ok (.iload_n 3, 1) := by decide +kernel
theorem dX4_copy_111 : decode cX4_copy 111 = .ok (.aaload, 1) := by decide +kernel
theorem dX4_copy_112 : decode cX4_copy 112 = .ok (.getfield 81, 3) := by decide +kernel
theorem dX4_copy_115 : decode cX4_copy 115 = .ok (.iload 4, 2) := by decide +kernel
theorem dX4_copy_117 : decode cX4_copy 117 = .ok (.iload 5, 2) := by decide +kernel
theorem dX4_copy_119 : decode cX4_copy 119 = .ok (.invokestatic 94, 3) := by decide +kernel
theorem dX4_copy_122 : decode cX4_copy 122 = .ok (.iconst 1, 1) := by decide +kernel
theorem dX4_copy_123 : decode cX4_copy 123 = .ok (.ireturn, 1) := by decide +kernel
theorem dX4_mean_0 : decode cX4_mean 0 = .ok (.aload_n 0, 1) := by decide +kernel
theorem dX4_mean_1 : decode cX4_mean 1 = .ok (.iload_n 1, 1) := by decide +kernel
theorem dX4_mean_2 : decode cX4_mean 2 = .ok (.invokevirtual 84, 3) := by decide +kernel
theorem dX4_mean_5 : decode cX4_mean 5 = .ok (.istore_n 2, 1) := by decide +kernel
theorem dX4_mean_6 : decode cX4_mean 6 = .ok (.iload_n 2, 1) := by decide +kernel
theorem dX4_mean_7 : decode cX4_mean 7 = .ok (.ifCond .eq 5, 3) := by decide +kernel
theorem dX4_mean_10 : decode cX4_mean 10 = .ok (.iload_n 2, 1) := by decide +kernel
theorem dX4_mean_11 : decode cX4_mean 11 = .ok (.ireturn, 1) := by decide +kernel
theorem dX4_mean_12 : decode cX4_mean 12 = .ok (.aload_n 0, 1) := by decide +kernel
theorem dX4_mean_13 : decode cX4_mean 13 = .ok (.getfield 11, 3) := by decide +kernel
theorem dX4_mean_16 : decode cX4_mean 16 = .ok (.iload_n 1, 1) := by decide +kernel
theorem dX4_mean_17 : decode cX4_mean 17 = .ok (.aaload, 1) := by decide +kernel
theorem dX4_mean_18 : decode cX4_mean 18 = .ok (.getfield 87, 3) := by decide +kernel
theorem dX4_mean_21 : decode cX4_mean 21 = .ok (.istore_n 3, 1) := by decide +kernel
theorem dX4_mean_22 : decode cX4_mean 22 = .ok (.iload_n 3, 1) := by decide +kernel
theorem dX4_mean_23 : decode cX4_mean 23 = .ok (.ifCond .ne 9, 3) := by decide +kernel
theorem dX4_mean_26 : decode cX4_mean 26 = .ok (.aload_n 0, 1) := by decide +kernel
theorem dX4_mean_27 : decode cX4_mean 27 = .ok (.iconst 4, 1) := by decide +kernel
theorem dX4_mean_28 : decode cX4_mean 28 = .ok (.invokevirtual 69, 3) := by decide +kernel
theorem dX4_mean_31 : decode cX4_mean 31 = .ok (.ireturn, 1) := by decide +kernel
theorem dX4_mean_32 : decode cX4_mean 32 = .ok (.aload_n 0, 1) := by decide +kernel
theorem dX4_mean_33 : decode cX4_mean 33 = .ok (.aload_n 0, 1) := by decide +kernel
theorem dX4_mean_34 : decode cX4_mean 34 = .ok (.getfield 11, 3) := by decide +kernel
theorem dX4_mean_37 : decode cX4_mean 37 = .ok (.iload_n 1, 1) := by decide +kernel
theorem dX4_mean_38 : decode cX4_mean 38 = .ok (.aaload, 1) := by decide +kernel
theorem dX4_mean_39 : decode cX4_mean 39 = .ok (.invokevirtual 100, 3) := by decide +kernel
theorem dX4_mean_42 : decode cX4_mean 42 = .ok (.iload_n 3, 1) := by decide +kernel
theorem dX4_mean_43 : decode cX4_mean 43 = .ok (.i2l, 1) := by decide +kernel
theorem dX4_mean_44 : decode cX4_mean 44 = .ok (.ldiv, 1) := by decide +kernel
theorem dX4_mean_45 : decode cX4_mean 45 = .ok (.l2i, 1) := by decide +kernel
theorem dX4_mean_46 : decode cX4_mean 46 = .ok (.putfield 49, 3) := by decide +kernel
theorem dX4_mean_49 : decode cX4_mean 49 = .ok (.iconst 1, 1) := by decide +kernel
theorem dX4_mean_50 : decode cX4_mean 50 = .ok (.ireturn, 1) := by decide +kernel
theorem dX4_text_0 : decode cX4_text 0 = .ok (.iload_n 1, 1) := by decide +kernel
theorem dX4_text_1 : decode cX4_text 1 = .ok (.invokestatic 104, 3) := by decide +kernel
theorem dX4_text_4 : decode cX4_text 4 = .ok (.ifCond .eq 9, 3) := by decide +kernel
theorem dX4_text_7 : decode cX4_text 7 = .ok (.iload_n 2, 1) := by decide +kernel
theorem dX4_text_8 : decode cX4_text 8 = .ok (.bipush 60, 2) := by decide +kernel
theorem dX4_text_10 : decode cX4_text 10 = .ok (.if_icmp .le 5, 3) := by decide +kernel
theorem dX4_text_13 : decode cX4_text 13 = .ok (.iconst (-1), 1) := by decide +kernel
theorem dX4_text_14 : decode cX4_text 14 = .ok (.ireturn, 1) := by decide +kernel
theorem dX4_text_15 : decode cX4_text 15 = .ok (.iload_n 2, 1) := by decide +kernel
theorem dX4_text_16 : decode cX4_text 16 = .ok (.ifCond .ge 9, 3) := by decide +kernel
theorem dX4_text_19 : decode cX4_text 19 = .ok (.aload_n 0, 1) := by decide +kernel
theorem dX4_text_20 : decode cX4_text 20 = .ok (.iconst 5, 1) := by decide +kernel
theorem dX4_text_21 : decode cX4_text 21 = .ok (.invokevirtual 69, 3) := by decide +kernel
theorem dX4_text_24 : decode cX4_text 24 = .ok (.ireturn, 1) := by decide +kernel
theorem dX4_text_25 : decode cX4_text 25 = .ok (.aload_n 0, 1) := by decide +kernel
theorem dX4_text_26 : decode cX4_text 26 = .ok (.getfield 17, 3) := by decide +kernel
theorem dX4_text_29 : decode cX4_text 29 = .ok (.iload_n 1, 1) := by decide +kernel
theorem dX4_text_30 : decode cX4_text 30 = .ok (.aaload, 1) := by decide +kernel
theorem dX4_text_31 : decode cX4_text 31 = .ok (.iload_n 2, 1) := by decide +kernel
theorem dX4_text_32 : decode cX4_text 32 = .ok (.invokevirtual 107, 3) := by decide +kernel
theorem dX4_text_35 : decode cX4_text 35 = .ok (.iload_n 2, 1) := by decide +kernel
theorem dX4_text_36 : decode cX4_text 36 = .ok (.ireturn, 1) := by decide +kernel
theorem dX4_put_0 : decode cX4_put 0 = .ok (.aload_n 0, 1) := by decide +kernel
theorem dX4_put_1 : decode cX4_put 1 = .ok (.iload_n 1, 1) := by decide +kernel
theorem dX4_put_2 : decode cX4_put 2 = .ok (.invokevirtual 108, 3) := by decide +kernel
theorem dX4_put_5 : decode cX4_put 5 = .ok (.istore 4, 2) := by decide +kernel
theorem dX4_put_7 : decode cX4_put 7 = .ok (.iload 4, 2) := by decide +kernel
theorem dX4_put_9 : decode cX4_put 9 = .ok (.ifCond .eq 6, 3) := by decide +kernel
theorem dX4_put_12 : decode cX4_put 12 = .ok (.iload 4, 2) := by decide +kernel
theorem dX4_put_14 : decode cX4_put 14 = .ok (.ireturn, 1) := by decide +kernel
theorem dX4_put_15 : decode cX4_put 15 = .ok (.iload_n 2, 1) := by decide +kernel
theorem dX4_put_16 : decode cX4_put 16 = .ok (.ifCond .lt 16, 3) := by decide +kernel
theorem dX4_put_19 : decode cX4_put 19 = .ok (.iload_n 2, 1) := by decide +kernel
theorem dX4_put_20 : decode cX4_put 20 = .ok (.aload_n 0, 1) := by decide +kernel
theorem dX4_put_21 : decode cX4_put 21 = .ok (.getfield 17, 3) := by decide +kernel
theorem dX4_put_24 : decode cX4_put 24 = .ok (.iload_n 1, 1) := by decide +kernel
theorem dX4_put_25 : decode cX4_put 25 = .ok (.aaload, 1) := by decide +kernel
theorem dX4_put_26 : decode cX4_put 26 = .ok (.getfield 111, 3) := by decide +kernel
theorem dX4_put_29 : decode cX4_put 29 = .ok (.if_icmp .lt 9, 3) := by decide +kernel
theorem dX4_put_32 : decode cX4_put 32 = .ok (.aload_n 0, 1) := by decide +kernel
theorem dX4_put_33 : decode cX4_put 33 = .ok (.iconst 2, 1) := by decide +kernel
theorem dX4_put_34 : decode cX4_put 34 = .ok (.invokevirtual 69, 3) := by decide +kernel
theorem dX4_put_37 : decode cX4_put 37 = .ok (.ireturn, 1) := by decide +kernel
theorem dX4_put_38 : decode cX4_put 38 = .ok (.aload_n 0, 1) := by decide +kernel
theorem dX4_put_39 : decode cX4_put 39 = .ok (.getfield 17, 3) := by decide +kernel
theorem dX4_put_42 : decode cX4_put 42 = .ok (.iload_n 1, 1) := by decide +kernel
theorem dX4_put_43 : decode cX4_put 43 = .ok (.aaload, 1) := by decide +kernel
theorem dX4_put_44 : decode cX4_put 44 = .ok (.getfield 112, 3) := by decide +kernel
theorem dX4_put_47 : decode cX4_put 47 = .ok (.iload_n 2, 1) := by decide +kernel
theorem dX4_put_48 : decode cX4_put 48 = .ok (.baload, 1) := by decide +kernel
theorem dX4_put_49 : decode cX4_put 49 = .ok (.istore 5, 2) := by decide +kernel
theorem dX4_put_51 : decode cX4_put 51 = .ok (.aload_n 0, 1) := by decide +kernel
theorem dX4_put_52 : decode cX4_put 52 = .ok (.getfield 17, 3) := by decide +kernel
theorem dX4_put_55 : decode cX4_put 55 = .ok (.iload_n 1, 1) := by decide +kernel
theorem dX4_put_56 : decode cX4_put 56 = .ok (.aaload, 1) := by decide +kernel
theorem dX4_put_57 : decode cX4_put 57 = .ok (.getfield 112, 3) := by decide +kernel
theorem dX4_put_60 : decode cX4_put 60 = .ok (.iload_n 2, 1) := by decide +kernel
theorem dX4_put_61 : decode cX4_put 61 = .ok (.iload_n 3, 1) := by decide +kernel
theorem dX4_put_62 : decode cX4_put 62 = .ok (.i2b, 1) := by decide +kernel
theorem dX4_put_63 : decode cX4_put 63 = .ok (.bastore, 1) := by decide +kernel
theorem dX4_put_64 : decode cX4_put 64 = .ok (.iload 5, 2) := by decide +kernel
theorem dX4_put_66 : decode cX4_put 66 = .ok (.sipush 1000, 3) := by decide +kernel
theorem dX4_put_69 : decode cX4_put 69 = .ok (.iadd, 1) := by decide +kernel
theorem dX4_put_70 : decode cX4_put 70 = .ok (.ireturn, 1) := by decide +kernel
theorem dX4_fault_0 : decode cX4_fault 0 = .ok (.aload_n 0, 1) := by decide +kernel
theorem dX4_fault_1 : decode cX4_fault 1 = .ok (.iload_n 1, 1) := by decide +kernel
theorem dX4_fault_2 : decode cX4_fault 2 = .ok (.invokevirtual 108, 3) := by decide +kernel
theorem dX4_fault_5 : decode cX4_fault 5 = .ok (.istore_n 2, 1) := by decide +kernel
theorem dX4_fault_6 : decode cX4_fault 6 = .ok (.iload_n 2, 1) := by decide +kernel
theorem dX4_fault_7 : decode cX4_fault 7 = .ok (.ifCond .eq 7, 3) := by decide +kernel
theorem dX4_fault_10 : decode cX4_fault 10 = .ok (.iload_n 2, 1) := by decide +kernel
theorem dX4_fault_11 : decode cX4_fault 11 = .ok (.goto 12, 3) := by decide +kernel
theorem dX4_fault_14 : decode cX4_fault 14 = .ok (.aload_n 0, 1) := by decide +kernel
theorem dX4_fault_15 : decode cX4_fault 15 = .ok (.getfield 17, 3) := by decide +kernel
theorem dX4_fault_18 : decode cX4_fault 18 = .ok (.iload_n 1, 1) := by decide +kernel
theorem dX4_fault_19 : decode cX4_fault 19 = .ok (.aaload, 1) := by decide +kernel
theorem dX4_fault_20 : decode cX4_fault 20 = .ok (.invokevirtual 116, 3) := by decide +kernel
theorem dX4_fault_23 : decode cX4_fault 23 = .ok (.ireturn, 1) := by decide +kernel
theorem dX4_almanac_0 : decode cX4_almanac 0 = .ok (.aload_n 0, 1) := by decide +kernel
theorem dX4_almanac_1 : decode cX4_almanac 1 = .ok (.iload_n 1, 1) := by decide +kernel
theorem dX4_almanac_2 : decode cX4_almanac 2 = .ok (.invokevirtual 108, 3) := by decide +kernel
theorem dX4_almanac_5 : decode cX4_almanac 5 = .ok (.istore_n 2, 1) := by decide +kernel
theorem dX4_almanac_6 : decode cX4_almanac 6 = .ok (.iload_n 2, 1) := by decide +kernel
theorem dX4_almanac_7 : decode cX4_almanac 7 = .ok (.ifCond .eq 5, 3) := by decide +kernel
theorem dX4_almanac_10 : decode cX4_almanac 10 = .ok (.iload_n 2, 1) := by decide +kernel
theorem dX4_almanac_11 : decode cX4_almanac 11 = .ok (.ireturn, 1) := by decide +kernel
theorem dX4_almanac_12 : decode cX4_almanac 12 = .ok (.aload_n 0, 1) := by decide +kernel
theorem dX4_almanac_13 : decode cX4_almanac 13 = .ok (.getfield 17, 3) := by decide +kernel
theorem dX4_almanac_16 : decode cX4_almanac 16 = .ok (.iload_n 1, 1) := by decide +kernel
theorem dX4_almanac_17 : decode cX4_almanac 17 = .ok (.aaload, 1) := by decide +kernel
theorem dX4_almanac_18 : decode cX4_almanac 18 = .ok (.invokevirtual 116, 3) := by decide +kernel
theorem dX4_almanac_21 : decode cX4_almanac 21 = .ok (.bipush (-9), 2) := by decide +kernel
theorem dX4_almanac_23 : decode cX4_almanac 23 = .ok (.if_icmp .eq 6, 3) := by decide +kernel
theorem dX4_almanac_26 : decode cX4_almanac 26 = .ok (.bipush (-4), 2) := by decide +kernel
theorem dX4_almanac_28 : decode cX4_almanac 28 = .ok (.ireturn, 1) := by decide +kernel
theorem dX4_almanac_29 : decode cX4_almanac 29 = .ok (.aload_n 0, 1) := by decide +kernel
theorem dX4_almanac_30 : decode cX4_almanac 30 = .ok (.aload_n 0, 1) := by decide +kernel
theorem dX4_almanac_31 : decode cX4_almanac 31 = .ok (.getfield 17, 3) := by decide +kernel
theorem dX4_almanac_34 : decode cX4_almanac 34 = .ok (.iload_n 1, 1) := by decide +kernel
theorem dX4_almanac_35 : decode cX4_almanac 35 = .ok (.aaload, 1) := by decide +kernel
theorem dX4_almanac_36 : decode cX4_almanac 36 = .ok (.aload_n 0, 1) := by decide +kernel
theorem dX4_almanac_37 : decode cX4_almanac 37 = .ok (.getfield 23, 3) := by decide +kernel
theorem dX4_almanac_40 : decode cX4_almanac 40 = .ok (.invokevirtual 120, 3) := by decide +kernel
theorem dX4_almanac_43 : decode cX4_almanac 43 = .ok (.putfield 42, 3) := by decide +kernel
theorem dX4_almanac_46 : decode cX4_almanac 46 = .ok (.aload_n 0, 1) := by decide +kernel
theorem dX4_almanac_47 : decode cX4_almanac 47 = .ok (.iconst 0, 1) := by decide +kernel
theorem dX4_almanac_48 : decode cX4_almanac 48 = .ok (.putfield 46, 3) := by decide +kernel
theorem dX4_almanac_51 : decode cX4_almanac 51 = .ok (.iconst 0, 1) := by decide +kernel
theorem dX4_almanac_52 : decode cX4_almanac 52 = .ok (.istore_n 3, 1) := by decide +kernel
theorem dX4_almanac_53 : decode cX4_almanac 53 = .ok (.iload_n 3, 1) := by decide +kernel
theorem dX4_almanac_54 : decode cX4_almanac 54 = .ok (.iconst 3, 1) := by decide +kernel
theorem dX4_almanac_55 : decode cX4_almanac 55 = .ok (.if_icmp .ge 19, 3) := by decide +kernel
theorem dX4_almanac_58 : decode cX4_almanac 58 = .ok (.aload_n 0, 1) := by decide +kernel
theorem dX4_almanac_59 : decode cX4_almanac 59 = .ok (.getfield 29, 3) := by decide +kernel
theorem dX4_almanac_62 : decode cX4_almanac 62 = .ok (.iload_n 3, 1) := by decide +kernel
theorem dX4_almanac_63 : decode cX4_almanac 63 = .ok (.aaload, 1) := by decide +kernel
theorem dX4_almanac_64 : decode cX4_almanac 64 = .ok (.iconst 0, 1) := by decide +kernel
theorem dX4_almanac_65 : decode cX4_almanac 65 = .ok (.putfield 124, 3) := by decide +kernel
theorem dX4_almanac_68 : decode cX4_almanac 68 = .ok (.iinc 3 1, 3) := by decide +kernel
theorem dX4_almanac_71 : decode cX4_almanac 71 = .ok (.goto (-18), 3) := by decide +kernel
theorem dX4_almanac_74 : decode cX4_almanac 74 = .ok (.aload_n 0, 1) := by decide +kernel
theorem dX4_almanac_75 : decode cX4_almanac 75 = .ok (.getfield 42, 3) := by decide +kernel
theorem dX4_almanac_78 : decode cX4_almanac 78 = .ok (.ireturn, 1) := by decide +kernel
theorem dX4_town_0 : decode cX4_town 0 = .ok (.aload_n 0, 1) := by decide +kernel
theorem dX4_town_1 : decode cX4_town 1 = .ok (.iload_n 1, 1) := by decide +kernel
theorem dX4_town_2 : decode cX4_town 2 = .ok (.invokevirtual 128, 3) := by decide +kernel
theorem dX4_town_5 : decode cX4_town 5 = .ok (.ifCond .eq 12, 3) := by decide +kernel
theorem dX4_town_8 : decode cX4_town 8 = .ok (.iload_n 2, 1) := by decide +kernel
theorem dX4_town_9 : decode cX4_town 9 = .ok (.ifCond .lt 8, 3) := by decide +kernel
theorem dX4_town_12 : decode cX4_town 12 = .ok (.iload_n 2, 1) := by decide +kernel
theorem dX4_town_13 : decode cX4_town 13 = .ok (.iconst 4, 1) := by decide +kernel
theorem dX4_town_14 : decode cX4_town 14 = .ok (.if_icmp .le 5, 3) := by decide +kernel
theorem dX4_town_17 : decode cX4_town 17 = .ok (.iconst (-1), 1) := by decide +kernel
theorem dX4_town_18 : decode cX4_town 18 = .ok (.ireturn, 1) := by decide +kernel
theorem dX4_town_19 : decode cX4_town 19 = .ok (.aload_n 0, 1) := by decide +kernel
theorem dX4_town_20 : decode cX4_town 20 = .ok (.aload_n 0, 1) := by decide +kernel
theorem dX4_town_21 : decode cX4_town 21 = .ok (.iload_n 1, 1) := by decide +kernel
theorem dX4_town_22 : decode cX4_town 22 = .ok (.iload_n 2, 1) := by decide +kernel
theorem dX4_town_23 : decode cX4_town 23 = .ok (.invokevirtual 131, 3) := by decide +kernel
theorem dX4_town_26 : decode cX4_town 26 = .ok (.putfield 49, 3) := by decide +kernel
theorem dX4_town_29 : decode cX4_town 29 = .ok (.iconst 1, 1) := by decide +kernel
theorem dX4_town_30 : decode cX4_town 30 = .ok (.ireturn, 1) := by decide +kernel
theorem dX4_mark_0 : decode cX4_mark 0 = .ok (.aload_n 0, 1) := by decide +kernel
theorem dX4_mark_1 : decode cX4_mark 1 = .ok (.iload_n 1, 1) := by decide +kernel
theorem dX4_mark_2 : decode cX4_mark 2 = .ok (.invokevirtual 128, 3) := by decide +kernel
theorem dX4_mark_5 : decode cX4_mark 5 = .ok (.ifCond .eq 13, 3) := by decide +kernel
theorem dX4_mark_8 : decode cX4_mark 8 = .ok (.iload_n 2, 1) := by decide +kernel
theorem dX4_mark_9 : decode cX4_mark 9 = .ok (.ifCond .le 9, 3) := by decide +kernel
theorem dX4_mark_12 : decode cX4_mark 12 = .ok (.iload_n 2, 1) := by decide +kernel
theorem dX4_mark_13 : decode cX4_mark 13 = .ok (.bipush 6, 2) := by decide +kernel
theorem dX4_mark_15 : decode cX4_mark 15 = .ok (.if_icmp .lt 5, 3) := by decide +kernel
theorem dX4_mark_18 : decode cX4_mark 18 = .ok (.iconst (-1), 1) := by decide +kernel
theorem dX4_mark_19 : decode cX4_mark 19 = .ok (.ireturn, 1) := by decide +kernel
theorem dX4_mark_20 : decode cX4_mark 20 = .ok (.aload_n 0, 1) := by decide +kernel
theorem dX4_mark_21 : decode cX4_mark 21 = .ok (.getfield 23, 3) := by decide +kernel
theorem dX4_mark_24 : decode cX4_mark 24 = .ok (.iload_n 1, 1) := by decide +kernel
theorem dX4_mark_25 : decode cX4_mark 25 = .ok (.aaload, 1) := by decide +kernel
theorem dX4_mark_26 : decode cX4_mark 26 = .ok (.iload_n 2, 1) := by decide +kernel
theorem dX4_mark_27 : decode cX4_mark 27 = .ok (.invokevirtual 134, 3) := by decide +kernel
theorem dX4_mark_30 : decode cX4_mark 30 = .ok (.ifCond .eq 20, 3) := by decide +kernel
theorem dX4_mark_33 : decode cX4_mark 33 = .ok (.aload_n 0, 1) := by decide +kernel
theorem dX4_mark_34 : decode cX4_mark 34 = .ok (.getfield 23, 3) := by decide +kernel
theorem dX4_mark_37 : decode cX4_mark 37 = .ok (.iload_n 1, 1) := by decide +kernel
theorem dX4_mark_38 : decode cX4_mark 38 = .ok (.aaload, 1) := by decide +kernel
theorem dX4_mark_39 : decode cX4_mark 39 = .ok (.iload_n 2, 1) := by decide +kernel
theorem dX4_mark_40 : decode cX4_mark 40 = .ok (.aload_n 0, 1) := by decide +kernel
theorem dX4_mark_41 : decode cX4_mark 41 = .ok (.getfield 46, 3) := by decide +kernel
theorem dX4_mark_44 : decode cX4_mark 44 = .ok (.invokevirtual 137, 3) := by decide +kernel
theorem dX4_mark_47 : decode cX4_mark 47 = .ok (.goto 8, 3) := by decide +kernel
theorem dX4_mark_50 : decode cX4_mark 50 = .ok (.aload_n 0, 1) := by decide +kernel
theorem dX4_mark_51 : decode cX4_mark 51 = .ok (.iconst 3, 1) := by decide +kernel
theorem dX4_mark_52 : decode cX4_mark 52 = .ok (.invokevirtual 69, 3) := by decide +kernel
theorem dX4_mark_55 : decode cX4_mark 55 = .ok (.ireturn, 1) := by decide +kernel
theorem dX4_order_0 : decode cX4_order 0 = .ok (.aload_n 0, 1) := by decide +kernel
theorem dX4_order_1 : decode cX4_order 1 = .ok (.iload_n 1, 1) := by decide +kernel
theorem dX4_order_2 : decode cX4_order 2 = .ok (.invokevirtual 128, 3) := by decide +kernel
theorem dX4_order_5 : decode cX4_order 5 = .ok (.ifCond .eq 14, 3) := by decide +kernel
theorem dX4_order_8 : decode cX4_order 8 = .ok (.iload_n 2, 1) := by decide +kernel
theorem dX4_order_9 : decode cX4_order 9 = .ok (.iconst 0, 1) := by decide +kernel
theorem dX4_order_10 : decode cX4_order 10 = .ok (.sipush 9999, 3) := by decide +kernel
theorem dX4_order_13 : decode cX4_order 13 = .ok (.invokestatic 140, 3) := by decide +kernel
theorem dX4_order_16 : decode cX4_order 16 = .ok (.ifCond .ne 5, 3) := by decide +kernel
theorem dX4_order_19 : decode cX4_order 19 = .ok (.iconst (-1), 1) := by decide +kernel
theorem dX4_order_20 : decode cX4_order 20 = .ok (.ireturn, 1) := by decide +kernel
theorem dX4_order_21 : decode cX4_order 21 = .ok (.aload_n 0, 1) := by decide +kernel
theorem dX4_order_22 : decode cX4_order 22 = .ok (.getfield 23, 3) := by decide +kernel
theorem dX4_order_25 : decode cX4_order 25 = .ok (.iload_n 1, 1) := by decide +kernel
theorem dX4_order_26 : decode cX4_order 26 = .ok (.aaload, 1) := by decide +kernel
theorem dX4_order_27 : decode cX4_order 27 = .ok (.getfield 144, 3) := by decide +kernel
theorem dX4_order_30 : decode cX4_order 30 = .ok (.istore_n 3, 1) := by decide +kernel
theorem dX4_order_31 : decode cX4_order 31 = .ok (.aload_n 0, 1) := by decide +kernel
theorem dX4_order_32 : decode cX4_order 32 = .ok (.getfield 23, 3) := by decide +kernel
theorem dX4_order_35 : decode cX4_order 35 = .ok (.iload_n 1, 1) := by decide +kernel
theorem dX4_order_36 : decode cX4_order 36 = .ok (.aaload, 1) := by decide +kernel
theorem dX4_order_37 : decode cX4_order 37 = .ok (.iload_n 2, 1) := by decide +kernel
theorem dX4_order_38 : decode cX4_order 38 = .ok (.putfield 144, 3) := by decide +kernel
theorem dX4_order_41 : decode cX4_order 41 = .ok (.iload_n 3, 1) := by decide +kernel
theorem dX4_order_42 : decode cX4_order 42 = .ok (.ireturn, 1) := by decide +kernel
theorem dX4_gap_0 : decode cX4_gap 0 = .ok (.aload_n 0, 1) := by decide +kernel
theorem dX4_gap_1 : decode cX4_gap 1 = .ok (.iload_n 1, 1) := by decide +kernel
theorem dX4_gap_2 : decode cX4_gap 2 = .ok (.invokevirtual 128, 3) := by decide +kernel
theorem dX4_gap_5 : decode cX4_gap 5 = .ok (.ifCond .eq 13, 3) := by decide +kernel
theorem dX4_gap_8 : decode cX4_gap 8 = .ok (.iload_n 2, 1) := by decide +kernel
theorem dX4_gap_9 : decode cX4_gap 9 = .ok (.iconst 0, 1) := by decide +kernel
theorem dX4_gap_10 : decode cX4_gap 10 = .ok (.bipush 9, 2) := by decide +kernel
theorem dX4_gap_12 : decode cX4_gap 12 = .ok (.invokestatic 140, 3) := by decide +kernel
theorem dX4_gap_15 : decode cX4_gap 15 = .ok (.ifCond .ne 5, 3) := by decide +kernel
theorem dX4_gap_18 : decode cX4_gap 18 = .ok (.iconst (-1), 1) := by decide +kernel
theorem dX4_gap_19 : decode cX4_gap 19 = .ok (.ireturn, 1) := by decide +kernel
theorem dX4_gap_20 : decode cX4_gap 20 = .ok (.aload_n 0, 1) := by decide +kernel
theorem dX4_gap_21 : decode cX4_gap 21 = .ok (.getfield 23, 3) := by decide +kernel
theorem dX4_gap_24 : decode cX4_gap 24 = .ok (.iload_n 1, 1) := by decide +kernel
theorem dX4_gap_25 : decode cX4_gap 25 = .ok (.aaload, 1) := by decide +kernel
theorem dX4_gap_26 : decode cX4_gap 26 = .ok (.getfield 147, 3) := by decide +kernel
theorem dX4_gap_29 : decode cX4_gap 29 = .ok (.istore_n 3, 1) := by decide +kernel
theorem dX4_gap_30 : decode cX4_gap 30 = .ok (.aload_n 0, 1) := by decide +kernel
theorem dX4_gap_31 : decode cX4_gap 31 = .ok (.getfield 23, 3) := by decide +kernel
theorem dX4_gap_34 : decode cX4_gap 34 = .ok (.iload_n 1, 1) := by decide +kernel
theorem dX4_gap_35 : decode cX4_gap 35 = .ok (.aaload, 1) := by decide +kernel
theorem dX4_gap_36 : decode cX4_gap 36 = .ok (.iload_n 2, 1) := by decide +kernel
theorem dX4_gap_37 : decode cX4_gap 37 = .ok (.putfield 147, 3) := by decide +kernel
theorem dX4_gap_40 : decode cX4_gap 40 = .ok (.iload_n 3, 1) := by decide +kernel
theorem dX4_gap_41 : decode cX4_gap 41 = .ok (.ireturn, 1) := by decide +kernel
theorem dX4_leap_0 : decode cX4_leap 0 = .ok (.aload_n 0, 1) := by decide +kernel
theorem dX4_leap_1 : decode cX4_leap 1 = .ok (.iload_n 1, 1) := by decide +kernel
theorem dX4_leap_2 : decode cX4_leap 2 = .ok (.invokevirtual 128, 3) := by decide +kernel
theorem dX4_leap_5 : decode cX4_leap 5 = .ok (.ifCond .eq 10, 3) := by decide +kernel
theorem dX4_leap_8 : decode cX4_leap 8 = .ok (.iload_n 2, 1) := by decide +kernel
theorem dX4_leap_9 : decode cX4_leap 9 = .ok (.invokestatic 150, 3) := by decide +kernel
theorem dX4_leap_12 : decode cX4_leap 12 = .ok (.ifCond .ne 5, 3) := by decide +kernel
theorem dX4_leap_15 : decode cX4_leap 15 = .ok (.iconst (-1), 1) := by decide +kernel
theorem dX4_leap_16 : decode cX4_leap 16 = .ok (.ireturn, 1) := by decide +kernel
theorem dX4_leap_17 : decode cX4_leap 17 = .ok (.aload_n 0, 1) := by decide +kernel
theorem dX4_leap_18 : decode cX4_leap 18 = .ok (.getfield 23, 3) := by decide +kernel
theorem dX4_leap_21 : decode cX4_leap 21 = .ok (.iload_n 1, 1) := by decide +kernel
theorem dX4_leap_22 : decode cX4_leap 22 = .ok (.aaload, 1) := by decide +kernel
theorem dX4_leap_23 : decode cX4_leap 23 = .ok (.getfield 153, 3) := by decide +kernel
theorem dX4_leap_26 : decode cX4_leap 26 = .ok (.istore_n 3, 1) := by decide +kernel
theorem dX4_leap_27 : decode cX4_leap 27 = .ok (.aload_n 0, 1) := by decide +kernel
theorem dX4_leap_28 : decode cX4_leap 28 = .ok (.getfield 23, 3) := by decide +kernel
theorem dX4_leap_31 : decode cX4_leap 31 = .ok (.iload_n 1, 1) := by decide +kernel
theorem dX4_leap_32 : decode cX4_leap 32 = .ok (.aaload, 1) := by decide +kernel
theorem dX4_leap_33 : decode cX4_leap 33 = .ok (.iload_n 2, 1) := by decide +kernel
theorem dX4_leap_34 : decode cX4_leap 34 = .ok (.putfield 153, 3) := by decide +kernel
theorem dX4_leap_37 : decode cX4_leap 37 = .ok (.iload_n 3, 1) := by decide +kernel
theorem dX4_leap_38 : decode cX4_leap 38 = .ok (.ireturn, 1) := by decide +kernel
theorem dX4_go_0 : decode cX4_go 0 = .ok (.iload_n 1, 1) := by decide +kernel
theorem dX4_go_1 : decode cX4_go 1 = .ok (.iconst 0, 1) := by decide +kernel
theorem dX4_go_2 : decode cX4_go 2 = .ok (.sipush 9999, 3) := by decide +kernel
theorem dX4_go_5 : decode cX4_go 5 = .ok (.invokestatic 140, 3) := by decide +kernel
theorem dX4_go_8 : decode cX4_go 8 = .ok (.ifCond .ne 5, 3) := by decide +kernel
theorem dX4_go_11 : decode cX4_go 11 = .ok (.iconst (-1), 1) := by decide +kernel
theorem dX4_go_12 : decode cX4_go 12 = .ok (.ireturn, 1) := by decide +kernel
theorem dX4_go_13 : decode cX4_go 13 = .ok (.aload_n 0, 1) := by decide +kernel
theorem dX4_go_14 : decode cX4_go 14 = .ok (.getfield 42, 3) := by decide +kernel
theorem dX4_go_17 : decode cX4_go 17 = .ok (.ifCond .ne 6, 3) := by decide +kernel
theorem dX4_go_20 : decode cX4_go 20 = .ok (.bipush (-4), 2) := by decide +kernel
theorem dX4_go_22 : decode cX4_go 22 = .ok (.ireturn, 1) := by decide +kernel
theorem dX4_go_23 : decode cX4_go 23 = .ok (.aload_n 0, 1) := by decide +kernel
theorem dX4_go_24 : decode cX4_go 24 = .ok (.getfield 46, 3) := by decide +kernel
theorem dX4_go_27 : decode cX4_go 27 = .ok (.iload_n 1, 1) := by decide +kernel
theorem dX4_go_28 : decode cX4_go 28 = .ok (.iadd, 1) := by decide +kernel
theorem dX4_go_29 : decode cX4_go 29 = .ok (.sipush 19999, 3) := by decide +kernel
theorem dX4_go_32 : decode cX4_go 32 = .ok (.if_icmp .le 6, 3) := by decide +kernel
theorem dX4_go_35 : decode cX4_go 35 = .ok (.bipush (-6), 2) := by decide +kernel
theorem dX4_go_37 : decode cX4_go 37 = .ok (.ireturn, 1) := by decide +kernel
theorem dX4_go_38 : decode cX4_go 38 = .ok (.aload_n 0, 1) := by decide +kernel
theorem dX4_go_39 : decode cX4_go 39 = .ok (.dup, 1) := by decide +kernel
theorem dX4_go_40 : decode cX4_go 40 = .ok (.getfield 46, 3) := by decide +kernel
theorem dX4_go_43 : decode cX4_go 43 = .ok (.iload_n 1, 1) := by decide +kernel
theorem dX4_go_44 : decode cX4_go 44 = .ok (.iadd, 1) := by decide +kernel
theorem dX4_go_45 : decode cX4_go 45 = .ok (.putfield 46, 3) := by decide +kernel
theorem dX4_go_48 : decode cX4_go 48 = .ok (.aload_n 0, 1) := by decide +kernel
theorem dX4_go_49 : decode cX4_go 49 = .ok (.getfield 46, 3) := by decide +kernel
theorem dX4_go_52 : decode cX4_go 52 = .ok (.ireturn, 1) := by decide +kernel
theorem dX4_back_0 : decode cX4_back 0 = .ok (.iload_n 1, 1) := by decide +kernel
theorem dX4_back_1 : decode cX4_back 1 = .ok (.iconst 0, 1) := by decide +kernel
theorem dX4_back_2 : decode cX4_back 2 = .ok (.aload_n 0, 1) := by decide +kernel
theorem dX4_back_3 : decode cX4_back 3 = .ok (.getfield 46, 3) := by decide +kernel
theorem dX4_back_6 : decode cX4_back 6 = .ok (.invokestatic 140, 3) := by decide +kernel
theorem dX4_back_9 : decode cX4_back 9 = .ok (.ifCond .ne 5, 3) := by decide +kernel
theorem dX4_back_12 : decode cX4_back 12 = .ok (.iconst (-1), 1) := by decide +kernel
theorem dX4_back_13 : decode cX4_back 13 = .ok (.ireturn, 1) := by decide +kernel
theorem dX4_back_14 : decode cX4_back 14 = .ok (.aload_n 0, 1) := by decide +kernel
theorem dX4_back_15 : decode cX4_back 15 = .ok (.dup, 1) := by decide +kernel
theorem dX4_back_16 : decode cX4_back 16 = .ok (.getfield 46, 3) := by decide +kernel
theorem dX4_back_19 : decode cX4_back 19 = .ok (.iload_n 1, 1) := by decide +kernel
theorem dX4_back_20 : decode cX4_back 20 = .ok (.isub, 1) := by decide +kernel
theorem dX4_back_21 : decode cX4_back 21 = .ok (.putfield 46, 3) := by decide +kernel
theorem dX4_back_24 : decode cX4_back 24 = .ok (.aload_n 0, 1) := by decide +kernel
theorem dX4_back_25 : decode cX4_back 25 = .ok (.getfield 46, 3) := by decide +kernel
theorem dX4_back_28 : decode cX4_back 28 = .ok (.ireturn, 1) := by decide +kernel
theorem dX4_keep_0 : decode cX4_keep 0 = .ok (.iload_n 1, 1) := by decide +kernel
theorem dX4_keep_1 : decode cX4_keep 1 = .ok (.invokestatic 156, 3) := by decide +kernel
theorem dX4_keep_4 : decode cX4_keep 4 = .ok (.ifCond .ne 5, 3) := by decide +kernel
theorem dX4_keep_7 : decode cX4_keep 7 = .ok (.iconst (-1), 1) := by decide +kernel
theorem dX4_keep_8 : decode cX4_keep 8 = .ok (.ireturn, 1) := by decide +kernel
theorem dX4_keep_9 : decode cX4_keep 9 = .ok (.aload_n 0, 1) := by decide +kernel
theorem dX4_keep_10 : decode cX4_keep 10 = .ok (.getfield 42, 3) := by decide +kernel
theorem dX4_keep_13 : decode cX4_keep 13 = .ok (.ifCond .ne 6, 3) := by decide +kernel
theorem dX4_keep_16 : decode cX4_keep 16 = .ok (.bipush (-4), 2) := by decide +kernel
theorem dX4_keep_18 : decode cX4_keep 18 = .ok (.ireturn, 1) := by decide +kernel
theorem dX4_keep_19 : decode cX4_keep 19 = .ok (.aload_n 0, 1) := by decide +kernel
theorem dX4_keep_20 : decode cX4_keep 20 = .ok (.getfield 29, 3) := by decide +kernel
theorem dX4_keep_23 : decode cX4_keep 23 = .ok (.iload_n 1, 1) := by decide +kernel
theorem dX4_keep_24 : decode cX4_keep 24 = .ok (.aaload, 1) := by decide +kernel
theorem dX4_keep_25 : decode cX4_keep 25 = .ok (.aload_n 0, 1) := by decide +kernel
theorem dX4_keep_26 : decode cX4_keep 26 = .ok (.getfield 23, 3) := by decide +kernel
theorem dX4_keep_29 : decode cX4_keep 29 = .ok (.aload_n 0, 1) := by decide +kernel
theorem dX4_keep_30 : decode cX4_keep 30 = .ok (.getfield 46, 3) := by decide +kernel
theorem dX4_keep_33 : decode cX4_keep 33 = .ok (.invokevirtual 159, 3) := by decide +kernel
theorem dX4_keep_36 : decode cX4_keep 36 = .ok (.aload_n 0, 1) := by decide +kernel
theorem dX4_keep_37 : decode cX4_keep 37 = .ok (.getfield 46, 3) := by decide +kernel
theorem dX4_keep_40 : decode cX4_keep 40 = .ok (.ireturn, 1) := by decide +kernel
theorem dX4_on_0 : decode cX4_on 0 = .ok (.iload_n 1, 1) := by decide +kernel
theorem dX4_on_1 : decode cX4_on 1 = .ok (.invokestatic 156, 3) := by decide +kernel
theorem dX4_on_4 : decode cX4_on 4 = .ok (.ifCond .ne 5, 3) := by decide +kernel
theorem dX4_on_7 : decode cX4_on 7 = .ok (.iconst (-1), 1) := by decide +kernel
theorem dX4_on_8 : decode cX4_on 8 = .ok (.ireturn, 1) := by decide +kernel
theorem dX4_on_9 : decode cX4_on 9 = .ok (.aload_n 0, 1) := by decide +kernel
theorem dX4_on_10 : decode cX4_on 10 = .ok (.getfield 29, 3) := by decide +kernel
theorem dX4_on_13 : decode cX4_on 13 = .ok (.iload_n 1, 1) := by decide +kernel
theorem dX4_on_14 : decode cX4_on 14 = .ok (.aaload, 1) := by decide +kernel
theorem dX4_on_15 : decode cX4_on 15 = .ok (.getfield 124, 3) := by decide +kernel
theorem dX4_on_18 : decode cX4_on 18 = .ok (.ifCond .ne 9, 3) := by decide +kernel
theorem dX4_on_21 : decode cX4_on 21 = .ok (.aload_n 0, 1) := by decide +kernel
theorem dX4_on_22 : decode cX4_on 22 = .ok (.iconst 1, 1) := by decide +kernel
theorem dX4_on_23 : decode cX4_on 23 = .ok (.invokevirtual 69, 3) := by decide +kernel
theorem dX4_on_26 : decode cX4_on 26 = .ok (.ireturn, 1) := by decide +kernel
theorem dX4_on_27 : decode cX4_on 27 = .ok (.aload_n 0, 1) := by decide +kernel
theorem dX4_on_28 : decode cX4_on 28 = .ok (.getfield 29, 3) := by decide +kernel
theorem dX4_on_31 : decode cX4_on 31 = .ok (.iload_n 1, 1) := by decide +kernel
theorem dX4_on_32 : decode cX4_on 32 = .ok (.aaload, 1) := by decide +kernel
theorem dX4_on_33 : decode cX4_on 33 = .ok (.aload_n 0, 1) := by decide +kernel
theorem dX4_on_34 : decode cX4_on 34 = .ok (.getfield 23, 3) := by decide +kernel
theorem dX4_on_37 : decode cX4_on 37 = .ok (.invokevirtual 163, 3) := by decide +kernel
theorem dX4_on_40 : decode cX4_on 40 = .ok (.aload_n 0, 1) := by decide +kernel
theorem dX4_on_41 : decode cX4_on 41 = .ok (.aload_n 0, 1) := by decide +kernel
theorem dX4_on_42 : decode cX4_on 42 = .ok (.getfield 29, 3) := by decide +kernel
theorem dX4_on_45 : decode cX4_on 45 = .ok (.iload_n 1, 1) := by decide +kernel
theorem dX4_on_46 : decode cX4_on 46 = .ok (.aaload, 1) := by decide +kernel
theorem dX4_on_47 : decode cX4_on 47 = .ok (.getfield 167, 3) := by decide +kernel
theorem dX4_on_50 : decode cX4_on 50 = .ok (.putfield 46, 3) := by decide +kernel
theorem dX4_on_53 : decode cX4_on 53 = .ok (.aload_n 0, 1) := by decide +kernel
theorem dX4_on_54 : decode cX4_on 54 = .ok (.getfield 46, 3) := by decide +kernel
theorem dX4_on_57 : decode cX4_on 57 = .ok (.ireturn, 1) := by decide +kernel
theorem dX4_date_0 : decode cX4_date 0 = .ok (.aload_n 0, 1) := by decide +kernel
theorem dX4_date_1 : decode cX4_date 1 = .ok (.iload_n 1, 1) := by decide +kernel
theorem dX4_date_2 : decode cX4_date 2 = .ok (.invokevirtual 128, 3) := by decide +kernel
theorem dX4_date_5 : decode cX4_date 5 = .ok (.ifCond .eq 23, 3) := by decide +kernel
theorem dX4_date_8 : decode cX4_date 8 = .ok (.iload_n 2, 1) := by decide +kernel
theorem dX4_date_9 : decode cX4_date 9 = .ok (.invokestatic 168, 3) := by decide +kernel
theorem dX4_date_12 : decode cX4_date 12 = .ok (.ifCond .eq 16, 3) := by decide +kernel
theorem dX4_date_15 : decode cX4_date 15 = .ok (.aload_n 0, 1) := by decide +kernel
theorem dX4_date_16 : decode cX4_date 16 = .ok (.getfield 23, 3) := by decide +kernel
theorem dX4_date_19 : decode cX4_date 19 = .ok (.iload_n 1, 1) := by decide +kernel
theorem dX4_date_20 : decode cX4_date 20 = .ok (.aaload, 1) := by decide +kernel
theorem dX4_date_21 : decode cX4_date 21 = .ok (.iload_n 2, 1) := by decide +kernel
theorem dX4_date_22 : decode cX4_date 22 = .ok (.invokevirtual 171, 3) := by decide +kernel
theorem dX4_date_25 : decode cX4_date 25 = .ok (.goto 4, 3) := by decide +kernel
theorem dX4_date_28 : decode cX4_date 28 = .ok (.iconst (-1), 1) := by decide +kernel
theorem dX4_date_29 : decode cX4_date 29 = .ok (.ireturn, 1) := by decide +kernel
theorem dX4_day_0 : decode cX4_day 0 = .ok (.aload_n 0, 1) := by decide +kernel
theorem dX4_day_1 : decode cX4_day 1 = .ok (.iload_n 1, 1) := by decide +kernel
theorem dX4_day_2 : decode cX4_day 2 = .ok (.invokevirtual 128, 3) := by decide +kernel
theorem dX4_day_5 : decode cX4_day 5 = .ok (.ifCond .eq 7, 3) := by decide +kernel
theorem dX4_day_8 : decode cX4_day 8 = .ok (.iload_n 2, 1) := by decide +kernel
theorem dX4_day_9 : decode cX4_day 9 = .ok (.ifCond .ge 5, 3) := by decide +kernel
theorem dX4_day_12 : decode cX4_day 12 = .ok (.iconst (-1), 1) := by decide +kernel
theorem dX4_day_13 : decode cX4_day 13 = .ok (.ireturn, 1) := by decide +kernel
theorem dX4_day_14 : decode cX4_day 14 = .ok (.aload_n 0, 1) := by decide +kernel
theorem dX4_day_15 : decode cX4_day 15 = .ok (.getfield 23, 3) := by decide +kernel
theorem dX4_day_18 : decode cX4_day 18 = .ok (.iload_n 1, 1) := by decide +kernel
theorem dX4_day_19 : decode cX4_day 19 = .ok (.aaload, 1) := by decide +kernel
theorem dX4_day_20 : decode cX4_day 20 = .ok (.iload_n 2, 1) := by decide +kernel
theorem dX4_day_21 : decode cX4_day 21 = .ok (.invokevirtual 174, 3) := by decide +kernel
theorem dX4_day_24 : decode cX4_day 24 = .ok (.istore_n 3, 1) := by decide +kernel
theorem dX4_day_25 : decode cX4_day 25 = .ok (.iload_n 3, 1) := by decide +kernel
theorem dX4_day_26 : decode cX4_day 26 = .ok (.iconst (-1), 1) := by decide +kernel
theorem dX4_day_27 : decode cX4_day 27 = .ok (.if_icmp .ne 11, 3) := by decide +kernel
theorem dX4_day_30 : decode cX4_day 30 = .ok (.aload_n 0, 1) := by decide +kernel
theorem dX4_day_31 : decode cX4_day 31 = .ok (.iconst 4, 1) := by decide +kernel
theorem dX4_day_32 : decode cX4_day 32 = .ok (.invokevirtual 69, 3) := by decide +kernel
theorem dX4_day_35 : decode cX4_day 35 = .ok (.goto 4, 3) := by decide +kernel
theorem dX4_day_38 : decode cX4_day 38 = .ok (.iload_n 3, 1) := by decide +kernel
theorem dX4_day_39 : decode cX4_day 39 = .ok (.ireturn, 1) := by decide +kernel
theorem dX4_year_0 : decode cX4_year 0 = .ok (.aload_n 0, 1) := by decide +kernel
theorem dX4_year_1 : decode cX4_year 1 = .ok (.iload_n 1, 1) := by decide +kernel
theorem dX4_year_2 : decode cX4_year 2 = .ok (.invokevirtual 128, 3) := by decide +kernel
theorem dX4_year_5 : decode cX4_year 5 = .ok (.ifCond .eq 14, 3) := by decide +kernel
theorem dX4_year_8 : decode cX4_year 8 = .ok (.iload_n 2, 1) := by decide +kernel
theorem dX4_year_9 : decode cX4_year 9 = .ok (.iconst 0, 1) := by decide +kernel
theorem dX4_year_10 : decode cX4_year 10 = .ok (.sipush 250, 3) := by decide +kernel
theorem dX4_year_13 : decode cX4_year 13 = .ok (.invokestatic 140, 3) := by decide +kernel
theorem dX4_year_16 : decode cX4_year 16 = .ok (.ifCond .ne 5, 3) := by decide +kernel
theorem dX4_year_19 : decode cX4_year 19 = .ok (.iconst (-1), 1) := by decide +kernel
theorem dX4_year_20 : decode cX4_year 20 = .ok (.ireturn, 1) := by decide +kernel
theorem dX4_year_21 : decode cX4_year 21 = .ok (.aload_n 0, 1) := by decide +kernel
theorem dX4_year_22 : decode cX4_year 22 = .ok (.getfield 23, 3) := by decide +kernel
theorem dX4_year_25 : decode cX4_year 25 = .ok (.iload_n 1, 1) := by decide +kernel
theorem dX4_year_26 : decode cX4_year 26 = .ok (.aaload, 1) := by decide +kernel
theorem dX4_year_27 : decode cX4_year 27 = .ok (.iload_n 2, 1) := by decide +kernel
theorem dX4_year_28 : decode cX4_year 28 = .ok (.invokevirtual 177, 3) := by decide +kernel
theorem dX4_year_31 : decode cX4_year 31 = .ok (.istore_n 3, 1) := by decide +kernel
theorem dX4_year_32 : decode cX4_year 32 = .ok (.iconst 0, 1) := by decide +kernel
theorem dX4_year_33 : decode cX4_year 33 = .ok (.istore 4, 2) := by decide +kernel
theorem dX4_year_35 : decode cX4_year 35 = .ok (.iconst 0, 1) := by decide +kernel
theorem dX4_year_36 : decode cX4_year 36 = .ok (.istore 5, 2) := by decide +kernel
theorem dX4_year_38 : decode cX4_year 38 = .ok (.iload 5, 2) := by decide +kernel
theorem dX4_year_40 : decode cX4_year 40 = .ok (.iload_n 3, 1) := by decide +kernel
theorem dX4_year_41 : decode cX4_year 41 = .ok (.if_icmp .ge 33, 3) := by decide +kernel
theorem dX4_year_44 : decode cX4_year 44 = .ok (.aload_n 0, 1) := by decide +kernel
theorem dX4_year_45 : decode cX4_year 45 = .ok (.getfield 23, 3) := by decide +kernel
theorem dX4_year_48 : decode cX4_year 48 = .ok (.iload_n 1, 1) := by decide +kernel
theorem dX4_year_49 : decode cX4_year 49 = .ok (.aaload, 1) := by decide +kernel
theorem dX4_year_50 : decode cX4_year 50 = .ok (.sipush 1000, 3) := by decide +kernel
theorem dX4_year_53 : decode cX4_year 53 = .ok (.iload_n 2, 1) := by decide +kernel
theorem dX4_year_54 : decode cX4_year 54 = .ok (.imul, 1) := by decide +kernel
theorem dX4_year_55 : decode cX4_year 55 = .ok (.iload 5, 2) := by decide +kernel
theorem dX4_year_57 : decode cX4_year 57 = .ok (.iadd, 1) := by decide +kernel
theorem dX4_year_58 : decode cX4_year 58 = .ok (.invokevirtual 174, 3) := by decide +kernel
theorem dX4_year_61 : decode cX4_year 61 = .ok (.iconst (-1), 1) := by decide +kernel
theorem dX4_year_62 : decode cX4_year 62 = .ok (.if_icmp .eq 6, 3) := by decide +kernel
theorem dX4_year_65 : decode cX4_year 65 = .ok (.iinc 4 1, 3) := by decide +kernel
theorem dX4_year_68 : decode cX4_year 68 = .ok (.iinc 5 1, 3) := by decide +kernel
theorem dX4_year_71 : decode cX4_year 71 = .ok (.goto (-33), 3) := by decide +kernel
theorem dX4_year_74 : decode cX4_year 74 = .ok (.aload_n 0, 1) := by decide +kernel
theorem dX4_year_75 : decode cX4_year 75 = .ok (.iload 4, 2) := by decide +kernel
theorem dX4_year_77 : decode cX4_year 77 = .ok (.putfield 49, 3) := by decide +kernel
theorem dX4_year_80 : decode cX4_year 80 = .ok (.iload_n 3, 1) := by decide +kernel
theorem dX4_year_81 : decode cX4_year 81 = .ok (.ireturn, 1) := by decide +kernel
theorem dX4_same_0 : decode cX4_same 0 = .ok (.aload_n 0, 1) := by decide +kernel
theorem dX4_same_1 : decode cX4_same 1 = .ok (.iload_n 1, 1) := by decide +kernel
theorem dX4_same_2 : decode cX4_same 2 = .ok (.invokevirtual 128, 3) := by decide +kernel
theorem dX4_same_5 : decode cX4_same 5 = .ok (.ifCond .eq 15, 3) := by decide +kernel
theorem dX4_same_8 : decode cX4_same 8 = .ok (.aload_n 0, 1) := by decide +kernel
theorem dX4_same_9 : decode cX4_same 9 = .ok (.iload_n 3, 1) := by decide +kernel
theorem dX4_same_10 : decode cX4_same 10 = .ok (.invokevirtual 128, 3) := by decide +kernel
theorem dX4_same_13 : decode cX4_same 13 = .ok (.ifCond .eq 7, 3) := by decide +kernel
theorem dX4_same_16 : decode cX4_same 16 = .ok (.iload_n 2, 1) := by decide +kernel
theorem dX4_same_17 : decode cX4_same 17 = .ok (.ifCond .ge 5, 3) := by decide +kernel
theorem dX4_same_20 : decode cX4_same 20 = .ok (.iconst (-1), 1) := by decide +kernel
theorem dX4_same_21 : decode cX4_same 21 = .ok (.ireturn, 1) := by decide +kernel
theorem dX4_same_22 : decode cX4_same 22 = .ok (.aload_n 0, 1) := by decide +kernel
theorem dX4_same_23 : decode cX4_same 23 = .ok (.getfield 23, 3) := by decide +kernel
theorem dX4_same_26 : decode cX4_same 26 = .ok (.iload_n 1, 1) := by decide +kernel
theorem dX4_same_27 : decode cX4_same 27 = .ok (.aaload, 1) := by decide +kernel
theorem dX4_same_28 : decode cX4_same 28 = .ok (.iload_n 2, 1) := by decide +kernel
theorem dX4_same_29 : decode cX4_same 29 = .ok (.invokevirtual 174, 3) := by decide +kernel
theorem dX4_same_32 : decode cX4_same 32 = .ok (.istore 4, 2) := by decide +kernel
theorem dX4_same_34 : decode cX4_same 34 = .ok (.iload 4, 2) := by decide +kernel
theorem dX4_same_36 : decode cX4_same 36 = .ok (.iconst (-1), 1) := by decide +kernel
theorem dX4_same_37 : decode cX4_same 37 = .ok (.if_icmp .ne 11, 3) := by decide +kernel
theorem dX4_same_40 : decode cX4_same 40 = .ok (.aload_n 0, 1) := by decide +kernel
theorem dX4_same_41 : decode cX4_same 41 = .ok (.iconst 4, 1) := by decide +kernel
theorem dX4_same_42 : decode cX4_same 42 = .ok (.invokevirtual 69, 3) := by decide +kernel
theorem dX4_same_45 : decode cX4_same 45 = .ok (.goto 14, 3) := by decide +kernel
theorem dX4_same_48 : decode cX4_same 48 = .ok (.aload_n 0, 1) := by decide +kernel
theorem dX4_same_49 : decode cX4_same 49 = .ok (.getfield 23, 3) := by decide +kernel
theorem dX4_same_52 : decode cX4_same 52 = .ok (.iload_n 3, 1) := by decide +kernel
theorem dX4_same_53 : decode cX4_same 53 = .ok (.aaload, 1) := by decide +kernel
theorem dX4_same_54 : decode cX4_same 54 = .ok (.iload 4, 2) := by decide +kernel
theorem dX4_same_56 : decode cX4_same 56 = .ok (.invokevirtual 171, 3) := by decide +kernel
theorem dX4_same_59 : decode cX4_same 59 = .ok (.ireturn, 1) := by decide +kernel
theorem dX4_between_0 : decode cX4_between 0 = .ok (.aload_n 0, 1) := by decide +kernel
theorem dX4_between_1 : decode cX4_between 1 = .ok (.iload_n 1, 1) := by decide +kernel
theorem dX4_between_2 : decode cX4_between 2 = .ok (.invokevirtual 128, 3) := by decide +kernel
theorem dX4_between_5 : decode cX4_between 5 = .ok (.ifCond .eq 11, 3) := by decide +kernel
theorem dX4_between_8 : decode cX4_between 8 = .ok (.iload_n 2, 1) := by decide +kernel
theorem dX4_between_9 : decode cX4_between 9 = .ok (.ifCond .lt 7, 3) := by decide +kernel
theorem dX4_between_12 : decode cX4_between 12 = .ok (.iload_n 3, 1) := by decide +kernel
theorem dX4_between_13 : decode cX4_between 13 = .ok (.ifCond .ge 5, 3) := by decide +kernel
theorem dX4_between_16 : decode cX4_between 16 = .ok (.iconst (-1), 1) := by decide +kernel
theorem dX4_between_17 : decode cX4_between 17 = .ok (.ireturn, 1) := by decide +kernel
theorem dX4_between_18 : decode cX4_between 18 = .ok (.aload_n 0, 1) := by decide +kernel
theorem dX4_between_19 : decode cX4_between 19 = .ok (.getfield 23, 3) := by decide +kernel
theorem dX4_between_22 : decode cX4_between 22 = .ok (.iload_n 1, 1) := by decide +kernel
theorem dX4_between_23 : decode cX4_between 23 = .ok (.aaload, 1) := by decide +kernel
theorem dX4_between_24 : decode cX4_between 24 = .ok (.iload_n 2, 1) := by decide +kernel
theorem dX4_between_25 : decode cX4_between 25 = .ok (.invokevirtual 174, 3) := by decide +kernel
theorem dX4_between_28 : decode cX4_between 28 = .ok (.istore 4, 2) := by decide +kernel
theorem dX4_between_30 : decode cX4_between 30 = .ok (.aload_n 0, 1) := by decide +kernel
theorem dX4_between_31 : decode cX4_between 31 = .ok (.getfield 23, 3) := by decide +kernel
theorem dX4_between_34 : decode cX4_between 34 = .ok (.iload_n 1, 1) := by decide +kernel
theorem dX4_between_35 : decode cX4_between 35 = .ok (.aaload, 1) := by decide +kernel
theorem dX4_between_36 : decode cX4_between 36 = .ok (.iload_n 3, 1) := by decide +kernel
theorem dX4_between_37 : decode cX4_between 37 = .ok (.invokevirtual 174, 3) := by decide +kernel
theorem dX4_between_40 : decode cX4_between 40 = .ok (.istore 5, 2) := by decide +kernel
theorem dX4_between_42 : decode cX4_between 42 = .ok (.iload 4, 2) := by decide +kernel
theorem dX4_between_44 : decode cX4_between 44 = .ok (.iconst (-1), 1) := by decide +kernel
theorem dX4_between_45 : decode cX4_between 45 = .ok (.if_icmp .eq 9, 3) := by decide +kernel
theorem dX4_between_48 : decode cX4_between 48 = .ok (.iload 5, 2) := by decide +kernel
theorem dX4_between_50 : decode cX4_between 50 = .ok (.iconst (-1), 1) := by decide +kernel
theorem dX4_between_51 : decode cX4_between 51 = .ok (.if_icmp .ne 9, 3) := by decide +kernel
theorem dX4_between_54 : decode cX4_between 54 = .ok (.aload_n 0, 1) := by decide +kernel
theorem dX4_between_55 : decode cX4_between 55 = .ok (.iconst 4, 1) := by decide +kernel
theorem dX4_between_56 : decode cX4_between 56 = .ok (.invokevirtual 69, 3) := by decide +kernel
theorem dX4_between_59 : decode cX4_between 59 = .ok (.ireturn, 1) := by decide +kernel
theorem dX4_between_60 : decode cX4_between 60 = .ok (.aload_n 0, 1) := by decide +kernel
theorem dX4_between_61 : decode cX4_between 61 = .ok (.iload 5, 2) := by decide +kernel
theorem dX4_between_63 : decode cX4_between 63 = .ok (.iload 4, 2) := by decide +kernel
theorem dX4_between_65 : decode cX4_between 65 = .ok (.isub, 1) := by decide +kernel
theorem dX4_between_66 : decode cX4_between 66 = .ok (.putfield 49, 3) := by decide +kernel
theorem dX4_between_69 : decode cX4_between 69 = .ok (.iconst 1, 1) := by decide +kernel
theorem dX4_between_70 : decode cX4_between 70 = .ok (.ireturn, 1) := by decide +kernel
theorem dX4_where_0 : decode cX4_where 0 = .ok (.iload_n 1, 1) := by decide +kernel
theorem dX4_where_1 : decode cX4_where 1 = .ok (.invokestatic 168, 3) := by decide +kernel
theorem dX4_where_4 : decode cX4_where 4 = .ok (.ifCond .eq 7, 3) := by decide +kernel
theorem dX4_where_7 : decode cX4_where 7 = .ok (.iload_n 2, 1) := by decide +kernel
theorem dX4_where_8 : decode cX4_where 8 = .ok (.ifCond .ge 5, 3) := by decide +kernel
theorem dX4_where_11 : decode cX4_where 11 = .ok (.iconst (-1), 1) := by decide +kernel
theorem dX4_where_12 : decode cX4_where 12 = .ok (.ireturn, 1) := by decide +kernel
theorem dX4_where_13 : decode cX4_where 13 = .ok (.iconst 0, 1) := by decide +kernel
theorem dX4_where_14 : decode cX4_where 14 = .ok (.istore_n 3, 1) := by decide +kernel
theorem dX4_where_15 : decode cX4_where 15 = .ok (.iconst 0, 1) := by decide +kernel
theorem dX4_where_16 : decode cX4_where 16 = .ok (.istore 4, 2) := by decide +kernel
theorem dX4_where_18 : decode cX4_where 18 = .ok (.iload 4, 2) := by decide +kernel
theorem dX4_where_20 : decode cX4_where 20 = .ok (.aload_n 0, 1) := by decide +kernel
theorem dX4_where_21 : decode cX4_where 21 = .ok (.getfield 42, 3) := by decide +kernel
theorem dX4_where_24 : decode cX4_where 24 = .ok (.if_icmp .ge 31, 3) := by decide +kernel
theorem dX4_where_27 : decode cX4_where 27 = .ok (.aload_n 0, 1) := by decide +kernel
theorem dX4_where_28 : decode cX4_where 28 = .ok (.getfield 23, 3) := by decide +kernel
theorem dX4_where_31 : decode cX4_where 31 = .ok (.iload 4, 2) := by decide +kernel
theorem dX4_where_33 : decode cX4_where 33 = .ok (.aaload, 1) := by decide +kernel
theorem dX4_where_34 : decode cX4_where 34 = .ok (.iload_n 1, 1) := by decide +kernel
theorem dX4_where_35 : decode cX4_where 35 = .ok (.invokevirtual 171, 3) := by decide +kernel
theorem dX4_where_38 : decode cX4_where 38 = .ok (.iload_n 2, 1) := by decide +kernel
theorem dX4_where_39 : decode cX4_where 39 = .ok (.if_icmp .ne 10, 3) := by decide +kernel
theorem dX4_where_42 : decode cX4_where 42 = .ok (.iload_n 3, 1) := by decide +kernel
theorem dX4_where_43 : decode cX4_where 43 = .ok (.iconst 1, 1) := by decide +kernel
theorem dX4_where_44 : decode cX4_where 44 = .ok (.iload 4, 2) := by decide +kernel
theorem dX4_where_46 : decode cX4_where 46 = .ok (.ishl, 1) := by decide +kernel
theorem dX4_where_47 : decode cX4_where 47 = .ok (.ior, 1) := by decide +kernel
theorem dX4_where_48 : decode cX4_where 48 = .ok (.istore_n 3, 1) := by decide +kernel
theorem dX4_where_49 : decode cX4_where 49 = .ok (.iinc 4 1, 3) := by decide +kernel
theorem dX4_where_52 : decode cX4_where 52 = .ok (.goto (-34), 3) := by decide +kernel
theorem dX4_where_55 : decode cX4_where 55 = .ok (.aload_n 0, 1) := by decide +kernel
theorem dX4_where_56 : decode cX4_where 56 = .ok (.iload_n 3, 1) := by decide +kernel
theorem dX4_where_57 : decode cX4_where 57 = .ok (.putfield 49, 3) := by decide +kernel
theorem dX4_where_60 : decode cX4_where 60 = .ok (.iload_n 3, 1) := by decide +kernel
theorem dX4_where_61 : decode cX4_where 61 = .ok (.invokestatic 180, 3) := by decide +kernel
theorem dX4_where_64 : decode cX4_where 64 = .ok (.ireturn, 1) := by decide +kernel
theorem dX4_left_0 : decode cX4_left 0 = .ok (.aload_n 0, 1) := by decide +kernel
theorem dX4_left_1 : decode cX4_left 1 = .ok (.iload_n 1, 1) := by decide +kernel
theorem dX4_left_2 : decode cX4_left 2 = .ok (.invokevirtual 128, 3) := by decide +kernel
theorem dX4_left_5 : decode cX4_left 5 = .ok (.ifCond .eq 10, 3) := by decide +kernel
theorem dX4_left_8 : decode cX4_left 8 = .ok (.iload_n 2, 1) := by decide +kernel
theorem dX4_left_9 : decode cX4_left 9 = .ok (.invokestatic 65, 3) := by decide +kernel
theorem dX4_left_12 : decode cX4_left 12 = .ok (.ifCond .ne 5, 3) := by decide +kernel
theorem dX4_left_15 : decode cX4_left 15 = .ok (.iconst (-1), 1) := by decide +kernel
theorem dX4_left_16 : decode cX4_left 16 = .ok (.ireturn, 1) := by decide +kernel
theorem dX4_left_17 : decode cX4_left 17 = .ok (.aload_n 0, 1) := by decide +kernel
theorem dX4_left_18 : decode cX4_left 18 = .ok (.getfield 23, 3) := by decide +kernel
theorem dX4_left_21 : decode cX4_left 21 = .ok (.iload_n 1, 1) := by decide +kernel
theorem dX4_left_22 : decode cX4_left 22 = .ok (.aaload, 1) := by decide +kernel
theorem dX4_left_23 : decode cX4_left 23 = .ok (.astore_n 3, 1) := by decide +kernel
theorem dX4_left_24 : decode cX4_left 24 = .ok (.aload_n 0, 1) := by decide +kernel
theorem dX4_left_25 : decode cX4_left 25 = .ok (.getfield 11, 3) := by decide +kernel
theorem dX4_left_28 : decode cX4_left 28 = .ok (.iload_n 2, 1) := by decide +kernel
theorem dX4_left_29 : decode cX4_left 29 = .ok (.aaload, 1) := by decide +kernel
theorem dX4_left_30 : decode cX4_left 30 = .ok (.iconst 0, 1) := by decide +kernel
theorem dX4_left_31 : decode cX4_left 31 = .ok (.invokevirtual 73, 3) := by decide +kernel
theorem dX4_left_34 : decode cX4_left 34 = .ok (.iconst 1, 1) := by decide +kernel
theorem dX4_left_35 : decode cX4_left 35 = .ok (.istore 4, 2) := by decide +kernel
theorem dX4_left_37 : decode cX4_left 37 = .ok (.iload 4, 2) := by decide +kernel
theorem dX4_left_39 : decode cX4_left 39 = .ok (.aload_n 3, 1) := by decide +kernel
theorem dX4_left_40 : decode cX4_left 40 = .ok (.invokevirtual 185, 3) := by decide +kernel
theorem dX4_left_43 : decode cX4_left 43 = .ok (.if_icmp .gt 53, 3) := by decide +kernel
theorem dX4_left_46 : decode cX4_left 46 = .ok (.aload_n 3, 1) := by decide +kernel
theorem dX4_left_47 : decode cX4_left 47 = .ok (.iload 4, 2) := by decide +kernel
theorem dX4_left_49 : decode cX4_left 49 = .ok (.invokevirtual 188, 3) := by decide +kernel
theorem dX4_left_52 : decode cX4_left 52 = .ok (.istore 5, 2) := by decide +kernel
theorem dX4_left_54 : decode cX4_left 54 = .ok (.iconst 0, 1) := by decide +kernel
theorem dX4_left_55 : decode cX4_left 55 = .ok (.istore 6, 2) := by decide +kernel
theorem dX4_left_57 : decode cX4_left 57 = .ok (.iload 6, 2) := by decide +kernel
theorem dX4_left_59 : decode cX4_left 59 = .ok (.aload_n 3, 1) := by decide +kernel
theorem dX4_left_60 : decode cX4_left 60 = .ok (.getfield 147, 3) := by decide +kernel
theorem dX4_left_63 : decode cX4_left 63 = .ok (.if_icmp .ge 27, 3) := by decide +kernel
theorem dX4_left_66 : decode cX4_left 66 = .ok (.aload_n 0, 1) := by decide +kernel
theorem dX4_left_67 : decode cX4_left 67 = .ok (.getfield 11, 3) := by decide +kernel
theorem dX4_left_70 : decode cX4_left 70 = .ok (.iload_n 2, 1) := by decide +kernel
theorem dX4_left_71 : decode cX4_left 71 = .ok (.aaload, 1) := by decide +kernel
theorem dX4_left_72 : decode cX4_left 72 = .ok (.aload_n 3, 1) := by decide +kernel
theorem dX4_left_73 : decode cX4_left 73 = .ok (.iload 5, 2) := by decide +kernel
theorem dX4_left_75 : decode cX4_left 75 = .ok (.iload 6, 2) := by decide +kernel
theorem dX4_left_77 : decode cX4_left 77 = .ok (.iadd, 1) := by decide +kernel
theorem dX4_left_78 : decode cX4_left 78 = .ok (.invokevirtual 191, 3) := by decide +kernel
theorem dX4_left_81 : decode cX4_left 81 = .ok (.invokevirtual 194, 3) := by decide +kernel
theorem dX4_left_84 : decode cX4_left 84 = .ok (.iinc 6 1, 3) := by decide +kernel
theorem dX4_left_87 : decode cX4_left 87 = .ok (.goto (-30), 3) := by decide +kernel
theorem dX4_left_90 : decode cX4_left 90 = .ok (.iinc 4 1, 3) := by decide +kernel
theorem dX4_left_93 : decode cX4_left 93 = .ok (.goto (-56), 3) := by decide +kernel
theorem dX4_left_96 : decode cX4_left 96 = .ok (.aload_n 0, 1) := by decide +kernel
theorem dX4_left_97 : decode cX4_left 97 = .ok (.getfield 11, 3) := by decide +kernel
theorem dX4_left_100 : decode cX4_left 100 = .ok (.iload_n 2, 1) := by decide +kernel
theorem dX4_left_101 : decode cX4_left 101 = .ok (.aaload, 1) := by decide +kernel
theorem dX4_left_102 : decode cX4_left 102 = .ok (.getfield 87, 3) := by decide +kernel
theorem dX4_left_105 : decode cX4_left 105 = .ok (.ireturn, 1) := by decide +kernel
theorem dX4_dates_0 : decode cX4_dates 0 = .ok (.aload_n 0, 1) := by decide +kernel
theorem dX4_dates_1 : decode cX4_dates 1 = .ok (.iload_n 1, 1) := by decide +kernel
theorem dX4_dates_2 : decode cX4_dates 2 = .ok (.invokevirtual 128, 3) := by decide +kernel
theorem dX4_dates_5 : decode cX4_dates 5 = .ok (.ifCond .eq 27, 3) := by decide +kernel
theorem dX4_dates_8 : decode cX4_dates 8 = .ok (.iload_n 2, 1) := by decide +kernel
theorem dX4_dates_9 : decode cX4_dates 9 = .ok (.iload_n 3, 1) := by decide +kernel
theorem dX4_dates_10 : decode cX4_dates 10 = .ok (.invokestatic 197, 3) := by decide +kernel
theorem dX4_dates_13 : decode cX4_dates 13 = .ok (.ifCond .eq 19, 3) := by decide +kernel
theorem dX4_dates_16 : decode cX4_dates 16 = .ok (.iload_n 3, 1) := by decide +kernel
theorem dX4_dates_17 : decode cX4_dates 17 = .ok (.iload_n 2, 1) := by decide +kernel
theorem dX4_dates_18 : decode cX4_dates 18 = .ok (.isub, 1) := by decide +kernel
theorem dX4_dates_19 : decode cX4_dates 19 = .ok (.bipush 40, 2) := by decide +kernel
theorem dX4_dates_21 : decode cX4_dates 21 = .ok (.if_icmp .ge 11, 3) := by decide +kernel
theorem dX4_dates_24 : decode cX4_dates 24 = .ok (.iload 4, 2) := by decide +kernel
theorem dX4_dates_26 : decode cX4_dates 26 = .ok (.invokestatic 65, 3) := by decide +kernel
theorem dX4_dates_29 : decode cX4_dates 29 = .ok (.ifCond .ne 5, 3) := by decide +kernel
theorem dX4_dates_32 : decode cX4_dates 32 = .ok (.iconst (-1), 1) := by decide +kernel
theorem dX4_dates_33 : decode cX4_dates 33 = .ok (.ireturn, 1) := by decide +kernel
theorem dX4_dates_34 : decode cX4_dates 34 = .ok (.aload_n 0, 1) := by decide +kernel
theorem dX4_dates_35 : decode cX4_dates 35 = .ok (.getfield 11, 3) := by decide +kernel
theorem dX4_dates_38 : decode cX4_dates 38 = .ok (.iload 4, 2) := by decide +kernel
theorem dX4_dates_40 : decode cX4_dates 40 = .ok (.aaload, 1) := by decide +kernel
theorem dX4_dates_41 : decode cX4_dates 41 = .ok (.iconst 0, 1) := by decide +kernel
theorem dX4_dates_42 : decode cX4_dates 42 = .ok (.invokevirtual 73, 3) := by decide +kernel
theorem dX4_dates_45 : decode cX4_dates 45 = .ok (.iload_n 2, 1) := by decide +kernel
theorem dX4_dates_46 : decode cX4_dates 46 = .ok (.istore 5, 2) := by decide +kernel
theorem dX4_dates_48 : decode cX4_dates 48 = .ok (.iload 5, 2) := by decide +kernel
theorem dX4_dates_50 : decode cX4_dates 50 = .ok (.iload_n 3, 1) := by decide +kernel
theorem dX4_dates_51 : decode cX4_dates 51 = .ok (.if_icmp .gt 30, 3) := by decide +kernel
theorem dX4_dates_54 : decode cX4_dates 54 = .ok (.aload_n 0, 1) := by decide +kernel
theorem dX4_dates_55 : decode cX4_dates 55 = .ok (.getfield 11, 3) := by decide +kernel
theorem dX4_dates_58 : decode cX4_dates 58 = .ok (.iload 4, 2) := by decide +kernel
theorem dX4_dates_60 : decode cX4_dates 60 = .ok (.aaload, 1) := by decide +kernel
theorem dX4_dates_61 : decode cX4_dates 61 = .ok (.aload_n 0, 1) := by decide +kernel
theorem dX4_dates_62 : decode cX4_dates 62 = .ok (.getfield 23, 3) := by decide +kernel
theorem dX4_dates_65 : decode cX4_dates 65 = .ok (.iload_n 1, 1) := by decide +kernel
theorem dX4_dates_66 : decode cX4_dates 66 = .ok (.aaload, 1) := by decide +kernel
theorem dX4_dates_67 : decode cX4_dates 67 = .ok (.iload 5, 2) := by decide +kernel
theorem dX4_dates_69 : decode cX4_dates 69 = .ok (.invokevirtual 171, 3) := by decide +kernel
theorem dX4_dates_72 : decode cX4_dates 72 = .ok (.invokevirtual 194, 3) := by decide +kernel
theorem dX4_dates_75 : decode cX4_dates 75 = .ok (.iinc 5 1, 3) := by decide +kernel
theorem dX4_dates_78 : decode cX4_dates 78 = .ok (.goto (-30), 3) := by decide +kernel
theorem dX4_dates_81 : decode cX4_dates 81 = .ok (.aload_n 0, 1) := by decide +kernel
theorem dX4_dates_82 : decode cX4_dates 82 = .ok (.getfield 11, 3) := by decide +kernel
theorem dX4_dates_85 : decode cX4_dates 85 = .ok (.iload 4, 2) := by decide +kernel
theorem dX4_dates_87 : decode cX4_dates 87 = .ok (.aaload, 1) := by decide +kernel
theorem dX4_dates_88 : decode cX4_dates 88 = .ok (.getfield 87, 3) := by decide +kernel
theorem dX4_dates_91 : decode cX4_dates 91 = .ok (.ireturn, 1) := by decide +kernel
theorem dX4_age_0 : decode cX4_age 0 = .ok (.aload_n 0, 1) := by decide +kernel
theorem dX4_age_1 : decode cX4_age 1 = .ok (.iload_n 1, 1) := by decide +kernel
theorem dX4_age_2 : decode cX4_age 2 = .ok (.invokevirtual 128, 3) := by decide +kernel
