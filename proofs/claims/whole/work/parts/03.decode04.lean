theorem dX5_apartOf_2 : decode cX5_apartOf 2 = .ok (.if_icmp .le 9, 3) := by decide +kernel
theorem dX5_apartOf_5 : decode cX5_apartOf 5 = .ok (.iload_n 0, 1) := by decide +kernel
theorem dX5_apartOf_6 : decode cX5_apartOf 6 = .ok (.iload_n 1, 1) := by decide +kernel
theorem dX5_apartOf_7 : decode cX5_apartOf 7 = .ok (.isub, 1) := by decide +kernel
theorem dX5_apartOf_8 : decode cX5_apartOf 8 = .ok (.goto 6, 3) := by decide +kernel
theorem dX5_apartOf_11 : decode cX5_apartOf 11 = .ok (.iload_n 1, 1) := by decide +kernel
theorem dX5_apartOf_12 : decode cX5_apartOf 12 = .ok (.iload_n 0, 1) := by decide +kernel
theorem dX5_apartOf_13 : decode cX5_apartOf 13 = .ok (.isub, 1) := by decide +kernel
theorem dX5_apartOf_14 : decode cX5_apartOf 14 = .ok (.ireturn, 1) := by decide +kernel
theorem dX5_part_0 : decode cX5_part 0 = .ok (.lload_n 1, 1) := by decide +kernel
theorem dX5_part_1 : decode cX5_part 1 = .ok (.lstore 5, 2) := by decide +kernel
theorem dX5_part_3 : decode cX5_part 3 = .ok (.lload_n 3, 1) := by decide +kernel
theorem dX5_part_4 : decode cX5_part 4 = .ok (.lstore 7, 2) := by decide +kernel
theorem dX5_part_6 : decode cX5_part 6 = .ok (.lload 7, 2) := by decide +kernel
theorem dX5_part_8 : decode cX5_part 8 = .ok (.lconst 0, 1) := by decide +kernel
theorem dX5_part_9 : decode cX5_part 9 = .ok (.lcmp, 1) := by decide +kernel
theorem dX5_part_10 : decode cX5_part 10 = .ok (.ifCond .eq 21, 3) := by decide +kernel
theorem dX5_part_13 : decode cX5_part 13 = .ok (.lload 5, 2) := by decide +kernel
theorem dX5_part_15 : decode cX5_part 15 = .ok (.lload 7, 2) := by decide +kernel
theorem dX5_part_17 : decode cX5_part 17 = .ok (.lrem, 1) := by decide +kernel
theorem dX5_part_18 : decode cX5_part 18 = .ok (.lstore 9, 2) := by decide +kernel
theorem dX5_part_20 : decode cX5_part 20 = .ok (.lload 7, 2) := by decide +kernel
theorem dX5_part_22 : decode cX5_part 22 = .ok (.lstore 5, 2) := by decide +kernel
theorem dX5_part_24 : decode cX5_part 24 = .ok (.lload 9, 2) := by decide +kernel
theorem dX5_part_26 : decode cX5_part 26 = .ok (.lstore 7, 2) := by decide +kernel
theorem dX5_part_28 : decode cX5_part 28 = .ok (.goto (-22), 3) := by decide +kernel
theorem dX5_part_31 : decode cX5_part 31 = .ok (.aload_n 0, 1) := by decide +kernel
theorem dX5_part_32 : decode cX5_part 32 = .ok (.lload_n 1, 1) := by decide +kernel
theorem dX5_part_33 : decode cX5_part 33 = .ok (.lload 5, 2) := by decide +kernel
theorem dX5_part_35 : decode cX5_part 35 = .ok (.ldiv, 1) := by decide +kernel
theorem dX5_part_36 : decode cX5_part 36 = .ok (.putfield 57, 3) := by decide +kernel
theorem dX5_part_39 : decode cX5_part 39 = .ok (.aload_n 0, 1) := by decide +kernel
theorem dX5_part_40 : decode cX5_part 40 = .ok (.lload_n 3, 1) := by decide +kernel
theorem dX5_part_41 : decode cX5_part 41 = .ok (.lload 5, 2) := by decide +kernel
theorem dX5_part_43 : decode cX5_part 43 = .ok (.ldiv, 1) := by decide +kernel
theorem dX5_part_44 : decode cX5_part 44 = .ok (.putfield 13, 3) := by decide +kernel
theorem dX5_part_47 : decode cX5_part 47 = .ok (.iconst 1, 1) := by decide +kernel
theorem dX5_part_48 : decode cX5_part 48 = .ok (.ireturn, 1) := by decide +kernel
theorem dX5_isRow_0 : decode cX5_isRow 0 = .ok (.iload_n 0, 1) := by decide +kernel
theorem dX5_isRow_1 : decode cX5_isRow 1 = .ok (.iconst 0, 1) := by decide +kernel
theorem dX5_isRow_2 : decode cX5_isRow 2 = .ok (.iconst 5, 1) := by decide +kernel
theorem dX5_isRow_3 : decode cX5_isRow 3 = .ok (.invokestatic 60, 3) := by decide +kernel
theorem dX5_isRow_6 : decode cX5_isRow 6 = .ok (.ireturn, 1) := by decide +kernel
theorem dX5_isText_0 : decode cX5_isText 0 = .ok (.iload_n 0, 1) := by decide +kernel
theorem dX5_isText_1 : decode cX5_isText 1 = .ok (.iconst 0, 1) := by decide +kernel
theorem dX5_isText_2 : decode cX5_isText 2 = .ok (.iconst 3, 1) := by decide +kernel
theorem dX5_isText_3 : decode cX5_isText 3 = .ok (.invokestatic 60, 3) := by decide +kernel
theorem dX5_isText_6 : decode cX5_isText 6 = .ok (.ireturn, 1) := by decide +kernel
theorem dX5_askedRow_0 : decode cX5_askedRow 0 = .ok (.iload_n 1, 1) := by decide +kernel
theorem dX5_askedRow_1 : decode cX5_askedRow 1 = .ok (.invokestatic 64, 3) := by decide +kernel
theorem dX5_askedRow_4 : decode cX5_askedRow 4 = .ok (.ifCond .ne 7, 3) := by decide +kernel
theorem dX5_askedRow_7 : decode cX5_askedRow 7 = .ok (.iconst (-1), 1) := by decide +kernel
theorem dX5_askedRow_8 : decode cX5_askedRow 8 = .ok (.goto 21, 3) := by decide +kernel
theorem dX5_askedRow_11 : decode cX5_askedRow 11 = .ok (.aload_n 0, 1) := by decide +kernel
theorem dX5_askedRow_12 : decode cX5_askedRow 12 = .ok (.getfield 17, 3) := by decide +kernel
theorem dX5_askedRow_15 : decode cX5_askedRow 15 = .ok (.iload_n 1, 1) := by decide +kernel
theorem dX5_askedRow_16 : decode cX5_askedRow 16 = .ok (.iaload, 1) := by decide +kernel
theorem dX5_askedRow_17 : decode cX5_askedRow 17 = .ok (.ifCond .ge 11, 3) := by decide +kernel
theorem dX5_askedRow_20 : decode cX5_askedRow 20 = .ok (.aload_n 0, 1) := by decide +kernel
theorem dX5_askedRow_21 : decode cX5_askedRow 21 = .ok (.iconst 1, 1) := by decide +kernel
theorem dX5_askedRow_22 : decode cX5_askedRow 22 = .ok (.invokevirtual 68, 3) := by decide +kernel
theorem dX5_askedRow_25 : decode cX5_askedRow 25 = .ok (.goto 4, 3) := by decide +kernel
theorem dX5_askedRow_28 : decode cX5_askedRow 28 = .ok (.iconst 0, 1) := by decide +kernel
theorem dX5_askedRow_29 : decode cX5_askedRow 29 = .ok (.ireturn, 1) := by decide +kernel
theorem dX5_askedText_0 : decode cX5_askedText 0 = .ok (.iload_n 1, 1) := by decide +kernel
theorem dX5_askedText_1 : decode cX5_askedText 1 = .ok (.invokestatic 72, 3) := by decide +kernel
theorem dX5_askedText_4 : decode cX5_askedText 4 = .ok (.ifCond .ne 7, 3) := by decide +kernel
theorem dX5_askedText_7 : decode cX5_askedText 7 = .ok (.iconst (-1), 1) := by decide +kernel
theorem dX5_askedText_8 : decode cX5_askedText 8 = .ok (.goto 21, 3) := by decide +kernel
theorem dX5_askedText_11 : decode cX5_askedText 11 = .ok (.aload_n 0, 1) := by decide +kernel
theorem dX5_askedText_12 : decode cX5_askedText 12 = .ok (.getfield 26, 3) := by decide +kernel
theorem dX5_askedText_15 : decode cX5_askedText 15 = .ok (.iload_n 1, 1) := by decide +kernel
theorem dX5_askedText_16 : decode cX5_askedText 16 = .ok (.iaload, 1) := by decide +kernel
theorem dX5_askedText_17 : decode cX5_askedText 17 = .ok (.ifCond .ge 11, 3) := by decide +kernel
theorem dX5_askedText_20 : decode cX5_askedText 20 = .ok (.aload_n 0, 1) := by decide +kernel
theorem dX5_askedText_21 : decode cX5_askedText 21 = .ok (.iconst 1, 1) := by decide +kernel
theorem dX5_askedText_22 : decode cX5_askedText 22 = .ok (.invokevirtual 68, 3) := by decide +kernel
theorem dX5_askedText_25 : decode cX5_askedText 25 = .ok (.goto 4, 3) := by decide +kernel
theorem dX5_askedText_28 : decode cX5_askedText 28 = .ok (.iconst 0, 1) := by decide +kernel
theorem dX5_askedText_29 : decode cX5_askedText 29 = .ok (.ireturn, 1) := by decide +kernel
theorem dX5_rowAt_0 : decode cX5_rowAt 0 = .ok (.aload_n 0, 1) := by decide +kernel
theorem dX5_rowAt_1 : decode cX5_rowAt 1 = .ok (.getfield 20, 3) := by decide +kernel
theorem dX5_rowAt_4 : decode cX5_rowAt 4 = .ok (.bipush 40, 2) := by decide +kernel
theorem dX5_rowAt_6 : decode cX5_rowAt 6 = .ok (.iload_n 1, 1) := by decide +kernel
theorem dX5_rowAt_7 : decode cX5_rowAt 7 = .ok (.imul, 1) := by decide +kernel
theorem dX5_rowAt_8 : decode cX5_rowAt 8 = .ok (.iload_n 2, 1) := by decide +kernel
theorem dX5_rowAt_9 : decode cX5_rowAt 9 = .ok (.iadd, 1) := by decide +kernel
theorem dX5_rowAt_10 : decode cX5_rowAt 10 = .ok (.iaload, 1) := by decide +kernel
theorem dX5_rowAt_11 : decode cX5_rowAt 11 = .ok (.ireturn, 1) := by decide +kernel
theorem dX5_setRow_0 : decode cX5_setRow 0 = .ok (.aload_n 0, 1) := by decide +kernel
theorem dX5_setRow_1 : decode cX5_setRow 1 = .ok (.getfield 20, 3) := by decide +kernel
theorem dX5_setRow_4 : decode cX5_setRow 4 = .ok (.bipush 40, 2) := by decide +kernel
theorem dX5_setRow_6 : decode cX5_setRow 6 = .ok (.iload_n 1, 1) := by decide +kernel
theorem dX5_setRow_7 : decode cX5_setRow 7 = .ok (.imul, 1) := by decide +kernel
theorem dX5_setRow_8 : decode cX5_setRow 8 = .ok (.iload_n 2, 1) := by decide +kernel
theorem dX5_setRow_9 : decode cX5_setRow 9 = .ok (.iadd, 1) := by decide +kernel
theorem dX5_setRow_10 : decode cX5_setRow 10 = .ok (.iload_n 3, 1) := by decide +kernel
theorem dX5_setRow_11 : decode cX5_setRow 11 = .ok (.iastore, 1) := by decide +kernel
theorem dX5_setRow_12 : decode cX5_setRow 12 = .ok (.return_, 1) := by decide +kernel
theorem dX5_row_0 : decode cX5_row 0 = .ok (.iload_n 1, 1) := by decide +kernel
theorem dX5_row_1 : decode cX5_row 1 = .ok (.invokestatic 64, 3) := by decide +kernel
theorem dX5_row_4 : decode cX5_row 4 = .ok (.ifCond .eq 9, 3) := by decide +kernel
theorem dX5_row_7 : decode cX5_row 7 = .ok (.iload_n 2, 1) := by decide +kernel
theorem dX5_row_8 : decode cX5_row 8 = .ok (.bipush 40, 2) := by decide +kernel
theorem dX5_row_10 : decode cX5_row 10 = .ok (.if_icmp .le 5, 3) := by decide +kernel
theorem dX5_row_13 : decode cX5_row 13 = .ok (.iconst (-1), 1) := by decide +kernel
theorem dX5_row_14 : decode cX5_row 14 = .ok (.ireturn, 1) := by decide +kernel
theorem dX5_row_15 : decode cX5_row 15 = .ok (.iload_n 2, 1) := by decide +kernel
theorem dX5_row_16 : decode cX5_row 16 = .ok (.ifCond .ge 9, 3) := by decide +kernel
theorem dX5_row_19 : decode cX5_row 19 = .ok (.aload_n 0, 1) := by decide +kernel
theorem dX5_row_20 : decode cX5_row 20 = .ok (.iconst 5, 1) := by decide +kernel
theorem dX5_row_21 : decode cX5_row 21 = .ok (.invokevirtual 68, 3) := by decide +kernel
theorem dX5_row_24 : decode cX5_row 24 = .ok (.ireturn, 1) := by decide +kernel
theorem dX5_row_25 : decode cX5_row 25 = .ok (.aload_n 0, 1) := by decide +kernel
theorem dX5_row_26 : decode cX5_row 26 = .ok (.getfield 17, 3) := by decide +kernel
theorem dX5_row_29 : decode cX5_row 29 = .ok (.iload_n 1, 1) := by decide +kernel
theorem dX5_row_30 : decode cX5_row 30 = .ok (.iload_n 2, 1) := by decide +kernel
theorem dX5_row_31 : decode cX5_row 31 = .ok (.iastore, 1) := by decide +kernel
theorem dX5_row_32 : decode cX5_row 32 = .ok (.iconst 0, 1) := by decide +kernel
theorem dX5_row_33 : decode cX5_row 33 = .ok (.istore_n 3, 1) := by decide +kernel
theorem dX5_row_34 : decode cX5_row 34 = .ok (.iload_n 3, 1) := by decide +kernel
theorem dX5_row_35 : decode cX5_row 35 = .ok (.bipush 40, 2) := by decide +kernel
theorem dX5_row_37 : decode cX5_row 37 = .ok (.if_icmp .ge 16, 3) := by decide +kernel
theorem dX5_row_40 : decode cX5_row 40 = .ok (.aload_n 0, 1) := by decide +kernel
theorem dX5_row_41 : decode cX5_row 41 = .ok (.iload_n 1, 1) := by decide +kernel
theorem dX5_row_42 : decode cX5_row 42 = .ok (.iload_n 3, 1) := by decide +kernel
theorem dX5_row_43 : decode cX5_row 43 = .ok (.iconst 0, 1) := by decide +kernel
theorem dX5_row_44 : decode cX5_row 44 = .ok (.invokevirtual 75, 3) := by decide +kernel
theorem dX5_row_47 : decode cX5_row 47 = .ok (.iinc 3 1, 3) := by decide +kernel
theorem dX5_row_50 : decode cX5_row 50 = .ok (.goto (-16), 3) := by decide +kernel
theorem dX5_row_53 : decode cX5_row 53 = .ok (.iload_n 2, 1) := by decide +kernel
theorem dX5_row_54 : decode cX5_row 54 = .ok (.ireturn, 1) := by decide +kernel
theorem dX5_at_0 : decode cX5_at 0 = .ok (.aload_n 0, 1) := by decide +kernel
theorem dX5_at_1 : decode cX5_at 1 = .ok (.iload_n 1, 1) := by decide +kernel
theorem dX5_at_2 : decode cX5_at 2 = .ok (.invokevirtual 79, 3) := by decide +kernel
theorem dX5_at_5 : decode cX5_at 5 = .ok (.istore_n 3, 1) := by decide +kernel
theorem dX5_at_6 : decode cX5_at 6 = .ok (.iload_n 3, 1) := by decide +kernel
theorem dX5_at_7 : decode cX5_at 7 = .ok (.ifCond .ge 5, 3) := by decide +kernel
theorem dX5_at_10 : decode cX5_at 10 = .ok (.iload_n 3, 1) := by decide +kernel
theorem dX5_at_11 : decode cX5_at 11 = .ok (.ireturn, 1) := by decide +kernel
theorem dX5_at_12 : decode cX5_at 12 = .ok (.iload_n 2, 1) := by decide +kernel
theorem dX5_at_13 : decode cX5_at 13 = .ok (.iconst 0, 1) := by decide +kernel
theorem dX5_at_14 : decode cX5_at 14 = .ok (.aload_n 0, 1) := by decide +kernel
theorem dX5_at_15 : decode cX5_at 15 = .ok (.getfield 17, 3) := by decide +kernel
theorem dX5_at_18 : decode cX5_at 18 = .ok (.iload_n 1, 1) := by decide +kernel
theorem dX5_at_19 : decode cX5_at 19 = .ok (.iaload, 1) := by decide +kernel
theorem dX5_at_20 : decode cX5_at 20 = .ok (.iconst 1, 1) := by decide +kernel
theorem dX5_at_21 : decode cX5_at 21 = .ok (.isub, 1) := by decide +kernel
theorem dX5_at_22 : decode cX5_at 22 = .ok (.invokestatic 60, 3) := by decide +kernel
theorem dX5_at_25 : decode cX5_at 25 = .ok (.ifCond .eq 17, 3) := by decide +kernel
theorem dX5_at_28 : decode cX5_at 28 = .ok (.aload_n 0, 1) := by decide +kernel
theorem dX5_at_29 : decode cX5_at 29 = .ok (.aload_n 0, 1) := by decide +kernel
theorem dX5_at_30 : decode cX5_at 30 = .ok (.iload_n 1, 1) := by decide +kernel
theorem dX5_at_31 : decode cX5_at 31 = .ok (.iload_n 2, 1) := by decide +kernel
theorem dX5_at_32 : decode cX5_at 32 = .ok (.invokevirtual 82, 3) := by decide +kernel
theorem dX5_at_35 : decode cX5_at 35 = .ok (.iconst 1, 1) := by decide +kernel
theorem dX5_at_36 : decode cX5_at 36 = .ok (.invokevirtual 86, 3) := by decide +kernel
theorem dX5_at_39 : decode cX5_at 39 = .ok (.goto 8, 3) := by decide +kernel
theorem dX5_at_42 : decode cX5_at 42 = .ok (.aload_n 0, 1) := by decide +kernel
theorem dX5_at_43 : decode cX5_at 43 = .ok (.iconst 2, 1) := by decide +kernel
theorem dX5_at_44 : decode cX5_at 44 = .ok (.invokevirtual 68, 3) := by decide +kernel
theorem dX5_at_47 : decode cX5_at 47 = .ok (.ireturn, 1) := by decide +kernel
theorem dX5_lay_0 : decode cX5_lay 0 = .ok (.aload_n 0, 1) := by decide +kernel
theorem dX5_lay_1 : decode cX5_lay 1 = .ok (.iload_n 1, 1) := by decide +kernel
theorem dX5_lay_2 : decode cX5_lay 2 = .ok (.iload_n 2, 1) := by decide +kernel
theorem dX5_lay_3 : decode cX5_lay 3 = .ok (.invokevirtual 89, 3) := by decide +kernel
theorem dX5_lay_6 : decode cX5_lay 6 = .ok (.istore 4, 2) := by decide +kernel
theorem dX5_lay_8 : decode cX5_lay 8 = .ok (.iload 4, 2) := by decide +kernel
theorem dX5_lay_10 : decode cX5_lay 10 = .ok (.ifCond .ge 6, 3) := by decide +kernel
theorem dX5_lay_13 : decode cX5_lay 13 = .ok (.iload 4, 2) := by decide +kernel
theorem dX5_lay_15 : decode cX5_lay 15 = .ok (.ireturn, 1) := by decide +kernel
theorem dX5_lay_16 : decode cX5_lay 16 = .ok (.aload_n 0, 1) := by decide +kernel
theorem dX5_lay_17 : decode cX5_lay 17 = .ok (.iload_n 1, 1) := by decide +kernel
theorem dX5_lay_18 : decode cX5_lay 18 = .ok (.iload_n 2, 1) := by decide +kernel
theorem dX5_lay_19 : decode cX5_lay 19 = .ok (.iload_n 3, 1) := by decide +kernel
theorem dX5_lay_20 : decode cX5_lay 20 = .ok (.invokevirtual 75, 3) := by decide +kernel
theorem dX5_lay_23 : decode cX5_lay 23 = .ok (.iconst 1, 1) := by decide +kernel
theorem dX5_lay_24 : decode cX5_lay 24 = .ok (.ireturn, 1) := by decide +kernel
theorem dX5_tear_0 : decode cX5_tear 0 = .ok (.aload_n 0, 1) := by decide +kernel
theorem dX5_tear_1 : decode cX5_tear 1 = .ok (.iload_n 1, 1) := by decide +kernel
theorem dX5_tear_2 : decode cX5_tear 2 = .ok (.invokevirtual 79, 3) := by decide +kernel
theorem dX5_tear_5 : decode cX5_tear 5 = .ok (.istore_n 2, 1) := by decide +kernel
theorem dX5_tear_6 : decode cX5_tear 6 = .ok (.iload_n 2, 1) := by decide +kernel
theorem dX5_tear_7 : decode cX5_tear 7 = .ok (.ifCond .ge 5, 3) := by decide +kernel
theorem dX5_tear_10 : decode cX5_tear 10 = .ok (.iload_n 2, 1) := by decide +kernel
theorem dX5_tear_11 : decode cX5_tear 11 = .ok (.ireturn, 1) := by decide +kernel
theorem dX5_tear_12 : decode cX5_tear 12 = .ok (.aload_n 0, 1) := by decide +kernel
theorem dX5_tear_13 : decode cX5_tear 13 = .ok (.getfield 17, 3) := by decide +kernel
theorem dX5_tear_16 : decode cX5_tear 16 = .ok (.iload_n 1, 1) := by decide +kernel
theorem dX5_tear_17 : decode cX5_tear 17 = .ok (.bipush (-9), 2) := by decide +kernel
theorem dX5_tear_19 : decode cX5_tear 19 = .ok (.iastore, 1) := by decide +kernel
theorem dX5_tear_20 : decode cX5_tear 20 = .ok (.iconst 1, 1) := by decide +kernel
theorem dX5_tear_21 : decode cX5_tear 21 = .ok (.ireturn, 1) := by decide +kernel
theorem dX5_copy_0 : decode cX5_copy 0 = .ok (.iload_n 1, 1) := by decide +kernel
theorem dX5_copy_1 : decode cX5_copy 1 = .ok (.invokestatic 64, 3) := by decide +kernel
theorem dX5_copy_4 : decode cX5_copy 4 = .ok (.ifCond .eq 10, 3) := by decide +kernel
theorem dX5_copy_7 : decode cX5_copy 7 = .ok (.iload_n 3, 1) := by decide +kernel
theorem dX5_copy_8 : decode cX5_copy 8 = .ok (.invokestatic 64, 3) := by decide +kernel
theorem dX5_copy_11 : decode cX5_copy 11 = .ok (.ifCond .ne 5, 3) := by decide +kernel
theorem dX5_copy_14 : decode cX5_copy 14 = .ok (.iconst (-1), 1) := by decide +kernel
theorem dX5_copy_15 : decode cX5_copy 15 = .ok (.ireturn, 1) := by decide +kernel
theorem dX5_copy_16 : decode cX5_copy 16 = .ok (.iload 5, 2) := by decide +kernel
theorem dX5_copy_18 : decode cX5_copy 18 = .ok (.ifCond .ge 9, 3) := by decide +kernel
theorem dX5_copy_21 : decode cX5_copy 21 = .ok (.aload_n 0, 1) := by decide +kernel
theorem dX5_copy_22 : decode cX5_copy 22 = .ok (.iconst 5, 1) := by decide +kernel
theorem dX5_copy_23 : decode cX5_copy 23 = .ok (.invokevirtual 68, 3) := by decide +kernel
theorem dX5_copy_26 : decode cX5_copy 26 = .ok (.ireturn, 1) := by decide +kernel
theorem dX5_copy_27 : decode cX5_copy 27 = .ok (.aload_n 0, 1) := by decide +kernel
theorem dX5_copy_28 : decode cX5_copy 28 = .ok (.getfield 17, 3) := by decide +kernel
theorem dX5_copy_31 : decode cX5_copy 31 = .ok (.iload_n 1, 1) := by decide +kernel
theorem dX5_copy_32 : decode cX5_copy 32 = .ok (.iaload, 1) := by decide +kernel
theorem dX5_copy_33 : decode cX5_copy 33 = .ok (.ifCond .lt 12, 3) := by decide +kernel
theorem dX5_copy_36 : decode cX5_copy 36 = .ok (.aload_n 0, 1) := by decide +kernel
theorem dX5_copy_37 : decode cX5_copy 37 = .ok (.getfield 17, 3) := by decide +kernel
theorem dX5_copy_40 : decode cX5_copy 40 = .ok (.iload_n 3, 1) := by decide +kernel
theorem dX5_copy_41 : decode cX5_copy 41 = .ok (.iaload, 1) := by decide +kernel
theorem dX5_copy_42 : decode cX5_copy 42 = .ok (.ifCond .ge 9, 3) := by decide +kernel
theorem dX5_copy_45 : decode cX5_copy 45 = .ok (.aload_n 0, 1) := by decide +kernel
theorem dX5_copy_46 : decode cX5_copy 46 = .ok (.iconst 1, 1) := by decide +kernel
theorem dX5_copy_47 : decode cX5_copy 47 = .ok (.invokevirtual 68, 3) := by decide +kernel
theorem dX5_copy_50 : decode cX5_copy 50 = .ok (.ireturn, 1) := by decide +kernel
theorem dX5_copy_51 : decode cX5_copy 51 = .ok (.iload_n 2, 1) := by decide +kernel
theorem dX5_copy_52 : decode cX5_copy 52 = .ok (.ifCond .lt 43, 3) := by decide +kernel
theorem dX5_copy_55 : decode cX5_copy 55 = .ok (.iload 4, 2) := by decide +kernel
theorem dX5_copy_57 : decode cX5_copy 57 = .ok (.ifCond .lt 38, 3) := by decide +kernel
theorem dX5_copy_60 : decode cX5_copy 60 = .ok (.iload_n 2, 1) := by decide +kernel
theorem dX5_copy_61 : decode cX5_copy 61 = .ok (.i2l, 1) := by decide +kernel
theorem dX5_copy_62 : decode cX5_copy 62 = .ok (.iload 5, 2) := by decide +kernel
theorem dX5_copy_64 : decode cX5_copy 64 = .ok (.i2l, 1) := by decide +kernel
theorem dX5_copy_65 : decode cX5_copy 65 = .ok (.ladd, 1) := by decide +kernel
theorem dX5_copy_66 : decode cX5_copy 66 = .ok (.aload_n 0, 1) := by decide +kernel
theorem dX5_copy_67 : decode cX5_copy 67 = .ok (.getfield 17, 3) := by decide +kernel
theorem dX5_copy_70 : decode cX5_copy 70 = .ok (.iload_n 1, 1) := by decide +kernel
theorem dX5_copy_71 : decode cX5_copy 71 = .ok (.iaload, 1) := by decide +kernel
theorem dX5_copy_72 : decode cX5_copy 72 = .ok (.i2l, 1) := by decide +kernel
theorem dX5_copy_73 : decode cX5_copy 73 = .ok (.lcmp, 1) := by decide +kernel
theorem dX5_copy_74 : decode cX5_copy 74 = .ok (.ifCond .gt 21, 3) := by decide +kernel
theorem dX5_copy_77 : decode cX5_copy 77 = .ok (.iload 4, 2) := by decide +kernel
theorem dX5_copy_79 : decode cX5_copy 79 = .ok (.i2l, 1) := by decide +kernel
theorem dX5_copy_80 : decode cX5_copy 80 = .ok (.iload 5, 2) := by decide +kernel
theorem dX5_copy_82 : decode cX5_copy 82 = .ok (.i2l, 1) := by decide +kernel
theorem dX5_copy_83 : decode cX5_copy 83 = .ok (.ladd, 1) := by decide +kernel
theorem dX5_copy_84 : decode cX5_copy 84 = .ok (.aload_n 0, 1) := by decide +kernel
theorem dX5_copy_85 : decode cX5_copy 85 = .ok (.getfield 17, 3) := by decide +kernel
theorem dX5_copy_88 : decode cX5_copy 88 = .ok (.iload_n 3, 1) := by decide +kernel
theorem dX5_copy_89 : decode cX5_copy 89 = .ok (.iaload, 1) := by decide +kernel
theorem dX5_copy_90 : decode cX5_copy 90 = .ok (.i2l, 1) := by decide +kernel
theorem dX5_copy_91 : decode cX5_copy 91 = .ok (.lcmp, 1) := by decide +kernel
theorem dX5_copy_92 : decode cX5_copy 92 = .ok (.ifCond .le 9, 3) := by decide +kernel
theorem dX5_copy_95 : decode cX5_copy 95 = .ok (.aload_n 0, 1) := by decide +kernel
theorem dX5_copy_96 : decode cX5_copy 96 = .ok (.iconst 2, 1) := by decide +kernel
theorem dX5_copy_97 : decode cX5_copy 97 = .ok (.invokevirtual 68, 3) := by decide +kernel
theorem dX5_copy_100 : decode cX5_copy 100 = .ok (.ireturn, 1) := by decide +kernel
theorem dX5_copy_101 : decode cX5_copy 101 = .ok (.iconst 0, 1) := by decide +kernel
theorem dX5_copy_102 : decode cX5_copy 102 = .ok (.istore 6, 2) := by decide +kernel
theorem dX5_copy_104 : decode cX5_copy 104 = .ok (.iload 6, 2) := by decide +kernel
theorem dX5_copy_106 : decode cX5_copy 106 = .ok (.iload 5, 2) := by decide +kernel
theorem dX5_copy_108 : decode cX5_copy 108 = .ok (.if_icmp .ge 25, 3) := by decide +kernel
theorem dX5_copy_111 : decode cX5_copy 111 = .ok (.aload_n 0, 1) := by decide +kernel
theorem dX5_copy_112 : decode cX5_copy 112 = .ok (.getfield 23, 3) := by decide +kernel
theorem dX5_copy_115 : decode cX5_copy 115 = .ok (.iload 6, 2) := by decide +kernel
theorem dX5_copy_117 : decode cX5_copy 117 = .ok (.aload_n 0, 1) := by decide +kernel
theorem dX5_copy_118 : decode cX5_copy 118 = .ok (.iload_n 1, 1) := by decide +kernel
theorem dX5_copy_119 : decode cX5_copy 119 = .ok (.iload_n 2, 1) := by decide +kernel
theorem dX5_copy_120 : decode cX5_copy 120 = .ok (.iload 6, 2) := by decide +kernel
theorem dX5_copy_122 : decode cX5_copy 122 = .ok (.iadd, 1) := by decide +kernel
theorem dX5_copy_123 : decode cX5_copy 123 = .ok (.invokevirtual 82, 3) := by decide +kernel
theorem dX5_copy_126 : decode cX5_copy 126 = .ok (.iastore, 1) := by decide +kernel
theorem dX5_copy_127 : decode cX5_copy 127 = .ok (.iinc 6 1, 3) := by decide +kernel
theorem dX5_copy_130 : decode cX5_copy 130 = .ok (.goto (-26), 3) := by decide +kernel
theorem dX5_copy_133 : decode cX5_copy 133 = .ok (.iconst 0, 1) := by decide +kernel
theorem dX5_copy_134 : decode cX5_copy 134 = .ok (.istore 6, 2) := by decide +kernel
theorem dX5_copy_136 : decode cX5_copy 136 = .ok (.iload 6, 2) := by decide +kernel
theorem dX5_copy_138 : decode cX5_copy 138 = .ok (.iload 5, 2) := by decide +kernel
theorem dX5_copy_140 : decode cX5_copy 140 = .ok (.if_icmp .ge 26, 3) := by decide +kernel
theorem dX5_copy_143 : decode cX5_copy 143 = .ok (.aload_n 0, 1) := by decide +kernel
theorem dX5_copy_144 : decode cX5_copy 144 = .ok (.iload_n 3, 1) := by decide +kernel
theorem dX5_copy_145 : decode cX5_copy 145 = .ok (.iload 4, 2) := by decide +kernel
theorem dX5_copy_147 : decode cX5_copy 147 = .ok (.iload 6, 2) := by decide +kernel
theorem dX5_copy_149 : decode cX5_copy 149 = .ok (.iadd, 1) := by decide +kernel
theorem dX5_copy_150 : decode cX5_copy 150 = .ok (.aload_n 0, 1) := by decide +kernel
theorem dX5_copy_151 : decode cX5_copy 151 = .ok (.getfield 23, 3) := by decide +kernel
theorem dX5_copy_154 : decode cX5_copy 154 = .ok (.iload 6, 2) := by decide +kernel
theorem dX5_copy_156 : decode cX5_copy 156 = .ok (.iaload, 1) := by decide +kernel
theorem dX5_copy_157 : decode cX5_copy 157 = .ok (.invokevirtual 75, 3) := by decide +kernel
theorem dX5_copy_160 : decode cX5_copy 160 = .ok (.iinc 6 1, 3) := by decide +kernel
theorem dX5_copy_163 : decode cX5_copy 163 = .ok (.goto (-27), 3) := by decide +kernel
theorem dX5_copy_166 : decode cX5_copy 166 = .ok (.iconst 1, 1) := by decide +kernel
theorem dX5_copy_167 : decode cX5_copy 167 = .ok (.ireturn, 1) := by decide +kernel
theorem dX5_mean_0 : decode cX5_mean 0 = .ok (.aload_n 0, 1) := by decide +kernel
theorem dX5_mean_1 : decode cX5_mean 1 = .ok (.iload_n 1, 1) := by decide +kernel
theorem dX5_mean_2 : decode cX5_mean 2 = .ok (.invokevirtual 79, 3) := by decide +kernel
theorem dX5_mean_5 : decode cX5_mean 5 = .ok (.istore_n 2, 1) := by decide +kernel
theorem dX5_mean_6 : decode cX5_mean 6 = .ok (.iload_n 2, 1) := by decide +kernel
theorem dX5_mean_7 : decode cX5_mean 7 = .ok (.ifCond .ge 5, 3) := by decide +kernel
theorem dX5_mean_10 : decode cX5_mean 10 = .ok (.iload_n 2, 1) := by decide +kernel
theorem dX5_mean_11 : decode cX5_mean 11 = .ok (.ireturn, 1) := by decide +kernel
theorem dX5_mean_12 : decode cX5_mean 12 = .ok (.lconst 0, 1) := by decide +kernel
theorem dX5_mean_13 : decode cX5_mean 13 = .ok (.lstore_n 3, 1) := by decide +kernel
theorem dX5_mean_14 : decode cX5_mean 14 = .ok (.iconst 0, 1) := by decide +kernel
theorem dX5_mean_15 : decode cX5_mean 15 = .ok (.istore 5, 2) := by decide +kernel
theorem dX5_mean_17 : decode cX5_mean 17 = .ok (.iload 5, 2) := by decide +kernel
theorem dX5_mean_19 : decode cX5_mean 19 = .ok (.aload_n 0, 1) := by decide +kernel
theorem dX5_mean_20 : decode cX5_mean 20 = .ok (.getfield 17, 3) := by decide +kernel
theorem dX5_mean_23 : decode cX5_mean 23 = .ok (.iload_n 1, 1) := by decide +kernel
theorem dX5_mean_24 : decode cX5_mean 24 = .ok (.iaload, 1) := by decide +kernel
theorem dX5_mean_25 : decode cX5_mean 25 = .ok (.if_icmp .ge 20, 3) := by decide +kernel
theorem dX5_mean_28 : decode cX5_mean 28 = .ok (.lload_n 3, 1) := by decide +kernel
theorem dX5_mean_29 : decode cX5_mean 29 = .ok (.aload_n 0, 1) := by decide +kernel
theorem dX5_mean_30 : decode cX5_mean 30 = .ok (.iload_n 1, 1) := by decide +kernel
theorem dX5_mean_31 : decode cX5_mean 31 = .ok (.iload 5, 2) := by decide +kernel
theorem dX5_mean_33 : decode cX5_mean 33 = .ok (.invokevirtual 82, 3) := by decide +kernel
theorem dX5_mean_36 : decode cX5_mean 36 = .ok (.i2l, 1) := by decide +kernel
theorem dX5_mean_37 : decode cX5_mean 37 = .ok (.ladd, 1) := by decide +kernel
theorem dX5_mean_38 : decode cX5_mean 38 = .ok (.lstore_n 3, 1) := by decide +kernel
theorem dX5_mean_39 : decode cX5_mean 39 = .ok (.iinc 5 1, 3) := by decide +kernel
theorem dX5_mean_42 : decode cX5_mean 42 = .ok (.goto (-25), 3) := by decide +kernel
theorem dX5_mean_45 : decode cX5_mean 45 = .ok (.aload_n 0, 1) := by decide +kernel
theorem dX5_mean_46 : decode cX5_mean 46 = .ok (.getfield 17, 3) := by decide +kernel
theorem dX5_mean_49 : decode cX5_mean 49 = .ok (.iload_n 1, 1) := by decide +kernel
theorem dX5_mean_50 : decode cX5_mean 50 = .ok (.iaload, 1) := by decide +kernel
theorem dX5_mean_51 : decode cX5_mean 51 = .ok (.ifCond .ne 11, 3) := by decide +kernel
theorem dX5_mean_54 : decode cX5_mean 54 = .ok (.aload_n 0, 1) := by decide +kernel
theorem dX5_mean_55 : decode cX5_mean 55 = .ok (.iconst 4, 1) := by decide +kernel
theorem dX5_mean_56 : decode cX5_mean 56 = .ok (.invokevirtual 68, 3) := by decide +kernel
theorem dX5_mean_59 : decode cX5_mean 59 = .ok (.goto 18, 3) := by decide +kernel
theorem dX5_mean_62 : decode cX5_mean 62 = .ok (.aload_n 0, 1) := by decide +kernel
theorem dX5_mean_63 : decode cX5_mean 63 = .ok (.lload_n 3, 1) := by decide +kernel
theorem dX5_mean_64 : decode cX5_mean 64 = .ok (.aload_n 0, 1) := by decide +kernel
theorem dX5_mean_65 : decode cX5_mean 65 = .ok (.getfield 17, 3) := by decide +kernel
theorem dX5_mean_68 : decode cX5_mean 68 = .ok (.iload_n 1, 1) := by decide +kernel
theorem dX5_mean_69 : decode cX5_mean 69 = .ok (.iaload, 1) := by decide +kernel
theorem dX5_mean_70 : decode cX5_mean 70 = .ok (.i2l, 1) := by decide +kernel
theorem dX5_mean_71 : decode cX5_mean 71 = .ok (.ldiv, 1) := by decide +kernel
theorem dX5_mean_72 : decode cX5_mean 72 = .ok (.l2i, 1) := by decide +kernel
theorem dX5_mean_73 : decode cX5_mean 73 = .ok (.iconst 1, 1) := by decide +kernel
theorem dX5_mean_74 : decode cX5_mean 74 = .ok (.invokevirtual 86, 3) := by decide +kernel
theorem dX5_mean_77 : decode cX5_mean 77 = .ok (.ireturn, 1) := by decide +kernel
theorem dX5_text_0 : decode cX5_text 0 = .ok (.iload_n 1, 1) := by decide +kernel
theorem dX5_text_1 : decode cX5_text 1 = .ok (.invokestatic 72, 3) := by decide +kernel
theorem dX5_text_4 : decode cX5_text 4 = .ok (.ifCond .eq 9, 3) := by decide +kernel
theorem dX5_text_7 : decode cX5_text 7 = .ok (.iload_n 2, 1) := by decide +kernel
theorem dX5_text_8 : decode cX5_text 8 = .ok (.bipush 60, 2) := by decide +kernel
theorem dX5_text_10 : decode cX5_text 10 = .ok (.if_icmp .le 5, 3) := by decide +kernel
theorem dX5_text_13 : decode cX5_text 13 = .ok (.iconst (-1), 1) := by decide +kernel
theorem dX5_text_14 : decode cX5_text 14 = .ok (.ireturn, 1) := by decide +kernel
theorem dX5_text_15 : decode cX5_text 15 = .ok (.iload_n 2, 1) := by decide +kernel
theorem dX5_text_16 : decode cX5_text 16 = .ok (.ifCond .ge 9, 3) := by decide +kernel
theorem dX5_text_19 : decode cX5_text 19 = .ok (.aload_n 0, 1) := by decide +kernel
theorem dX5_text_20 : decode cX5_text 20 = .ok (.iconst 5, 1) := by decide +kernel
theorem dX5_text_21 : decode cX5_text 21 = .ok (.invokevirtual 68, 3) := by decide +kernel
theorem dX5_text_24 : decode cX5_text 24 = .ok (.ireturn, 1) := by decide +kernel
theorem dX5_text_25 : decode cX5_text 25 = .ok (.aload_n 0, 1) := by decide +kernel
theorem dX5_text_26 : decode cX5_text 26 = .ok (.getfield 26, 3) := by decide +kernel
theorem dX5_text_29 : decode cX5_text 29 = .ok (.iload_n 1, 1) := by decide +kernel
theorem dX5_text_30 : decode cX5_text 30 = .ok (.iload_n 2, 1) := by decide +kernel
theorem dX5_text_31 : decode cX5_text 31 = .ok (.iastore, 1) := by decide +kernel
theorem dX5_text_32 : decode cX5_text 32 = .ok (.iconst 0, 1) := by decide +kernel
theorem dX5_text_33 : decode cX5_text 33 = .ok (.istore_n 3, 1) := by decide +kernel
theorem dX5_text_34 : decode cX5_text 34 = .ok (.iload_n 3, 1) := by decide +kernel
theorem dX5_text_35 : decode cX5_text 35 = .ok (.bipush 60, 2) := by decide +kernel
theorem dX5_text_37 : decode cX5_text 37 = .ok (.if_icmp .ge 22, 3) := by decide +kernel
theorem dX5_text_40 : decode cX5_text 40 = .ok (.aload_n 0, 1) := by decide +kernel
theorem dX5_text_41 : decode cX5_text 41 = .ok (.getfield 29, 3) := by decide +kernel
theorem dX5_text_44 : decode cX5_text 44 = .ok (.bipush 60, 2) := by decide +kernel
theorem dX5_text_46 : decode cX5_text 46 = .ok (.iload_n 1, 1) := by decide +kernel
theorem dX5_text_47 : decode cX5_text 47 = .ok (.imul, 1) := by decide +kernel
theorem dX5_text_48 : decode cX5_text 48 = .ok (.iload_n 3, 1) := by decide +kernel
theorem dX5_text_49 : decode cX5_text 49 = .ok (.iadd, 1) := by decide +kernel
theorem dX5_text_50 : decode cX5_text 50 = .ok (.bipush 32, 2) := by decide +kernel
theorem dX5_text_52 : decode cX5_text 52 = .ok (.iastore, 1) := by decide +kernel
theorem dX5_text_53 : decode cX5_text 53 = .ok (.iinc 3 1, 3) := by decide +kernel
theorem dX5_text_56 : decode cX5_text 56 = .ok (.goto (-22), 3) := by decide +kernel
theorem dX5_text_59 : decode cX5_text 59 = .ok (.iload_n 2, 1) := by decide +kernel
theorem dX5_text_60 : decode cX5_text 60 = .ok (.ireturn, 1) := by decide +kernel
theorem dX5_put_0 : decode cX5_put 0 = .ok (.aload_n 0, 1) := by decide +kernel
theorem dX5_put_1 : decode cX5_put 1 = .ok (.iload_n 1, 1) := by decide +kernel
theorem dX5_put_2 : decode cX5_put 2 = .ok (.invokevirtual 92, 3) := by decide +kernel
theorem dX5_put_5 : decode cX5_put 5 = .ok (.istore 4, 2) := by decide +kernel
theorem dX5_put_7 : decode cX5_put 7 = .ok (.iload 4, 2) := by decide +kernel
theorem dX5_put_9 : decode cX5_put 9 = .ok (.ifCond .ge 6, 3) := by decide +kernel
theorem dX5_put_12 : decode cX5_put 12 = .ok (.iload 4, 2) := by decide +kernel
theorem dX5_put_14 : decode cX5_put 14 = .ok (.ireturn, 1) := by decide +kernel
theorem dX5_put_15 : decode cX5_put 15 = .ok (.iload_n 2, 1) := by decide +kernel
theorem dX5_put_16 : decode cX5_put 16 = .ok (.iconst 0, 1) := by decide +kernel
theorem dX5_put_17 : decode cX5_put 17 = .ok (.aload_n 0, 1) := by decide +kernel
theorem dX5_put_18 : decode cX5_put 18 = .ok (.getfield 26, 3) := by decide +kernel
theorem dX5_put_21 : decode cX5_put 21 = .ok (.iload_n 1, 1) := by decide +kernel
theorem dX5_put_22 : decode cX5_put 22 = .ok (.iaload, 1) := by decide +kernel
theorem dX5_put_23 : decode cX5_put 23 = .ok (.iconst 1, 1) := by decide +kernel
theorem dX5_put_24 : decode cX5_put 24 = .ok (.isub, 1) := by decide +kernel
theorem dX5_put_25 : decode cX5_put 25 = .ok (.invokestatic 60, 3) := by decide +kernel
theorem dX5_put_28 : decode cX5_put 28 = .ok (.ifCond .ne 9, 3) := by decide +kernel
theorem dX5_put_31 : decode cX5_put 31 = .ok (.aload_n 0, 1) := by decide +kernel
theorem dX5_put_32 : decode cX5_put 32 = .ok (.iconst 2, 1) := by decide +kernel
theorem dX5_put_33 : decode cX5_put 33 = .ok (.invokevirtual 68, 3) := by decide +kernel
theorem dX5_put_36 : decode cX5_put 36 = .ok (.ireturn, 1) := by decide +kernel
theorem dX5_put_37 : decode cX5_put 37 = .ok (.aload_n 0, 1) := by decide +kernel
theorem dX5_put_38 : decode cX5_put 38 = .ok (.getfield 29, 3) := by decide +kernel
theorem dX5_put_41 : decode cX5_put 41 = .ok (.bipush 60, 2) := by decide +kernel
theorem dX5_put_43 : decode cX5_put 43 = .ok (.iload_n 1, 1) := by decide +kernel
theorem dX5_put_44 : decode cX5_put 44 = .ok (.imul, 1) := by decide +kernel
theorem dX5_put_45 : decode cX5_put 45 = .ok (.iload_n 2, 1) := by decide +kernel
theorem dX5_put_46 : decode cX5_put 46 = .ok (.iadd, 1) := by decide +kernel
theorem dX5_put_47 : decode cX5_put 47 = .ok (.iaload, 1) := by decide +kernel
theorem dX5_put_48 : decode cX5_put 48 = .ok (.istore 5, 2) := by decide +kernel
theorem dX5_put_50 : decode cX5_put 50 = .ok (.aload_n 0, 1) := by decide +kernel
theorem dX5_put_51 : decode cX5_put 51 = .ok (.getfield 29, 3) := by decide +kernel
theorem dX5_put_54 : decode cX5_put 54 = .ok (.bipush 60, 2) := by decide +kernel
theorem dX5_put_56 : decode cX5_put 56 = .ok (.iload_n 1, 1) := by decide +kernel
theorem dX5_put_57 : decode cX5_put 57 = .ok (.imul, 1) := by decide +kernel
theorem dX5_put_58 : decode cX5_put 58 = .ok (.iload_n 2, 1) := by decide +kernel
theorem dX5_put_59 : decode cX5_put 59 = .ok (.iadd, 1) := by decide +kernel
theorem dX5_put_60 : decode cX5_put 60 = .ok (.iload_n 3, 1) := by decide +kernel
theorem dX5_put_61 : decode cX5_put 61 = .ok (.i2b, 1) := by decide +kernel
theorem dX5_put_62 : decode cX5_put 62 = .ok (.iastore, 1) := by decide +kernel
theorem dX5_put_63 : decode cX5_put 63 = .ok (.iload 5, 2) := by decide +kernel
theorem dX5_put_65 : decode cX5_put 65 = .ok (.sipush 1000, 3) := by decide +kernel
theorem dX5_put_68 : decode cX5_put 68 = .ok (.iadd, 1) := by decide +kernel
theorem dX5_put_69 : decode cX5_put 69 = .ok (.ireturn, 1) := by decide +kernel
theorem dX5_here_0 : decode cX5_here 0 = .ok (.aload_n 0, 1) := by decide +kernel
theorem dX5_here_1 : decode cX5_here 1 = .ok (.getfield 95, 3) := by decide +kernel
theorem dX5_here_4 : decode cX5_here 4 = .ok (.aload_n 0, 1) := by decide +kernel
theorem dX5_here_5 : decode cX5_here 5 = .ok (.getfield 26, 3) := by decide +kernel
theorem dX5_here_8 : decode cX5_here 8 = .ok (.iload_n 1, 1) := by decide +kernel
theorem dX5_here_9 : decode cX5_here 9 = .ok (.iaload, 1) := by decide +kernel
theorem dX5_here_10 : decode cX5_here 10 = .ok (.if_icmp .ge 20, 3) := by decide +kernel
theorem dX5_here_13 : decode cX5_here 13 = .ok (.aload_n 0, 1) := by decide +kernel
theorem dX5_here_14 : decode cX5_here 14 = .ok (.getfield 29, 3) := by decide +kernel
theorem dX5_here_17 : decode cX5_here 17 = .ok (.bipush 60, 2) := by decide +kernel
theorem dX5_here_19 : decode cX5_here 19 = .ok (.iload_n 1, 1) := by decide +kernel
theorem dX5_here_20 : decode cX5_here 20 = .ok (.imul, 1) := by decide +kernel
theorem dX5_here_21 : decode cX5_here 21 = .ok (.aload_n 0, 1) := by decide +kernel
theorem dX5_here_22 : decode cX5_here 22 = .ok (.getfield 95, 3) := by decide +kernel
theorem dX5_here_25 : decode cX5_here 25 = .ok (.iadd, 1) := by decide +kernel
theorem dX5_here_26 : decode cX5_here 26 = .ok (.iaload, 1) := by decide +kernel
theorem dX5_here_27 : decode cX5_here 27 = .ok (.goto 5, 3) := by decide +kernel
theorem dX5_here_30 : decode cX5_here 30 = .ok (.bipush (-9), 2) := by decide +kernel
theorem dX5_here_32 : decode cX5_here 32 = .ok (.ireturn, 1) := by decide +kernel
theorem dX5_kindBy_0 : decode cX5_kindBy 0 = .ok (.iload_n 0, 1) := by decide +kernel
theorem dX5_kindBy_1 : decode cX5_kindBy 1 = .ok (.bipush 99, 2) := by decide +kernel
theorem dX5_kindBy_3 : decode cX5_kindBy 3 = .ok (.if_icmp .ne 7, 3) := by decide +kernel
theorem dX5_kindBy_6 : decode cX5_kindBy 6 = .ok (.iconst 0, 1) := by decide +kernel
theorem dX5_kindBy_7 : decode cX5_kindBy 7 = .ok (.goto 55, 3) := by decide +kernel
theorem dX5_kindBy_10 : decode cX5_kindBy 10 = .ok (.iload_n 0, 1) := by decide +kernel
theorem dX5_kindBy_11 : decode cX5_kindBy 11 = .ok (.bipush 108, 2) := by decide +kernel
theorem dX5_kindBy_13 : decode cX5_kindBy 13 = .ok (.if_icmp .ne 7, 3) := by decide +kernel
theorem dX5_kindBy_16 : decode cX5_kindBy 16 = .ok (.iconst 1, 1) := by decide +kernel
theorem dX5_kindBy_17 : decode cX5_kindBy 17 = .ok (.goto 45, 3) := by decide +kernel
theorem dX5_kindBy_20 : decode cX5_kindBy 20 = .ok (.iload_n 0, 1) := by decide +kernel
theorem dX5_kindBy_21 : decode cX5_kindBy 21 = .ok (.bipush 120, 2) := by decide +kernel
theorem dX5_kindBy_23 : decode cX5_kindBy 23 = .ok (.if_icmp .ne 7, 3) := by decide +kernel
theorem dX5_kindBy_26 : decode cX5_kindBy 26 = .ok (.iconst 2, 1) := by decide +kernel
theorem dX5_kindBy_27 : decode cX5_kindBy 27 = .ok (.goto 35, 3) := by decide +kernel
theorem dX5_kindBy_30 : decode cX5_kindBy 30 = .ok (.iload_n 0, 1) := by decide +kernel
theorem dX5_kindBy_31 : decode cX5_kindBy 31 = .ok (.bipush 109, 2) := by decide +kernel
theorem dX5_kindBy_33 : decode cX5_kindBy 33 = .ok (.if_icmp .ne 7, 3) := by decide +kernel
theorem dX5_kindBy_36 : decode cX5_kindBy 36 = .ok (.iconst 3, 1) := by decide +kernel
theorem dX5_kindBy_37 : decode cX5_kindBy 37 = .ok (.goto 25, 3) := by decide +kernel
theorem dX5_kindBy_40 : decode cX5_kindBy 40 = .ok (.iload_n 0, 1) := by decide +kernel
theorem dX5_kindBy_41 : decode cX5_kindBy 41 = .ok (.bipush 111, 2) := by decide +kernel
theorem dX5_kindBy_43 : decode cX5_kindBy 43 = .ok (.if_icmp .ne 7, 3) := by decide +kernel
theorem dX5_kindBy_46 : decode cX5_kindBy 46 = .ok (.iconst 4, 1) := by decide +kernel
theorem dX5_kindBy_47 : decode cX5_kindBy 47 = .ok (.goto 15, 3) := by decide +kernel
theorem dX5_kindBy_50 : decode cX5_kindBy 50 = .ok (.iload_n 0, 1) := by decide +kernel
theorem dX5_kindBy_51 : decode cX5_kindBy 51 = .ok (.bipush 100, 2) := by decide +kernel
theorem dX5_kindBy_53 : decode cX5_kindBy 53 = .ok (.if_icmp .ne 7, 3) := by decide +kernel
theorem dX5_kindBy_56 : decode cX5_kindBy 56 = .ok (.iconst 5, 1) := by decide +kernel
theorem dX5_kindBy_57 : decode cX5_kindBy 57 = .ok (.goto 5, 3) := by decide +kernel
theorem dX5_kindBy_60 : decode cX5_kindBy 60 = .ok (.bipush (-9), 2) := by decide +kernel
theorem dX5_kindBy_62 : decode cX5_kindBy 62 = .ok (.ireturn, 1) := by decide +kernel
theorem dX5_figure_0 : decode cX5_figure 0 = .ok (.aload_n 0, 1) := by decide +kernel
theorem dX5_figure_1 : decode cX5_figure 1 = .ok (.iload_n 1, 1) := by decide +kernel
theorem dX5_figure_2 : decode cX5_figure 2 = .ok (.invokevirtual 98, 3) := by decide +kernel
theorem dX5_figure_5 : decode cX5_figure 5 = .ok (.bipush 48, 2) := by decide +kernel
theorem dX5_figure_7 : decode cX5_figure 7 = .ok (.isub, 1) := by decide +kernel
theorem dX5_figure_8 : decode cX5_figure 8 = .ok (.istore_n 3, 1) := by decide +kernel
theorem dX5_figure_9 : decode cX5_figure 9 = .ok (.iload_n 3, 1) := by decide +kernel
theorem dX5_figure_10 : decode cX5_figure 10 = .ok (.iload_n 2, 1) := by decide +kernel
theorem dX5_figure_11 : decode cX5_figure 11 = .ok (.bipush 9, 2) := by decide +kernel
theorem dX5_figure_13 : decode cX5_figure 13 = .ok (.invokestatic 60, 3) := by decide +kernel
theorem dX5_figure_16 : decode cX5_figure 16 = .ok (.ifCond .ne 6, 3) := by decide +kernel
theorem dX5_figure_19 : decode cX5_figure 19 = .ok (.bipush (-9), 2) := by decide +kernel
theorem dX5_figure_21 : decode cX5_figure 21 = .ok (.ireturn, 1) := by decide +kernel
theorem dX5_figure_22 : decode cX5_figure 22 = .ok (.aload_n 0, 1) := by decide +kernel
theorem dX5_figure_23 : decode cX5_figure 23 = .ok (.dup, 1) := by decide +kernel
theorem dX5_figure_24 : decode cX5_figure 24 = .ok (.getfield 95, 3) := by decide +kernel
theorem dX5_figure_27 : decode cX5_figure 27 = .ok (.iconst 1, 1) := by decide +kernel
theorem dX5_figure_28 : decode cX5_figure 28 = .ok (.iadd, 1) := by decide +kernel
theorem dX5_figure_29 : decode cX5_figure 29 = .ok (.putfield 95, 3) := by decide +kernel
theorem dX5_figure_32 : decode cX5_figure 32 = .ok (.iload_n 3, 1) := by decide +kernel
theorem dX5_figure_33 : decode cX5_figure 33 = .ok (.ireturn, 1) := by decide +kernel
theorem dX5_readsTown_0 : decode cX5_readsTown 0 = .ok (.aload_n 0, 1) := by decide +kernel
theorem dX5_readsTown_1 : decode cX5_readsTown 1 = .ok (.iload_n 1, 1) := by decide +kernel
theorem dX5_readsTown_2 : decode cX5_readsTown 2 = .ok (.invokevirtual 98, 3) := by decide +kernel
theorem dX5_readsTown_5 : decode cX5_readsTown 5 = .ok (.invokestatic 101, 3) := by decide +kernel
theorem dX5_readsTown_8 : decode cX5_readsTown 8 = .ok (.istore_n 2, 1) := by decide +kernel
theorem dX5_readsTown_9 : decode cX5_readsTown 9 = .ok (.iload_n 2, 1) := by decide +kernel
theorem dX5_readsTown_10 : decode cX5_readsTown 10 = .ok (.bipush (-9), 2) := by decide +kernel
theorem dX5_readsTown_12 : decode cX5_readsTown 12 = .ok (.if_icmp .eq 11, 3) := by decide +kernel
theorem dX5_readsTown_15 : decode cX5_readsTown 15 = .ok (.aload_n 0, 1) := by decide +kernel
theorem dX5_readsTown_16 : decode cX5_readsTown 16 = .ok (.getfield 104, 3) := by decide +kernel
theorem dX5_readsTown_19 : decode cX5_readsTown 19 = .ok (.iconst 5, 1) := by decide +kernel
theorem dX5_readsTown_20 : decode cX5_readsTown 20 = .ok (.if_icmp .ne 5, 3) := by decide +kernel
theorem dX5_readsTown_23 : decode cX5_readsTown 23 = .ok (.iconst 0, 1) := by decide +kernel
theorem dX5_readsTown_24 : decode cX5_readsTown 24 = .ok (.ireturn, 1) := by decide +kernel
theorem dX5_readsTown_25 : decode cX5_readsTown 25 = .ok (.aload_n 0, 1) := by decide +kernel
theorem dX5_readsTown_26 : decode cX5_readsTown 26 = .ok (.dup, 1) := by decide +kernel
theorem dX5_readsTown_27 : decode cX5_readsTown 27 = .ok (.getfield 95, 3) := by decide +kernel
theorem dX5_readsTown_30 : decode cX5_readsTown 30 = .ok (.iconst 1, 1) := by decide +kernel
theorem dX5_readsTown_31 : decode cX5_readsTown 31 = .ok (.iadd, 1) := by decide +kernel
theorem dX5_readsTown_32 : decode cX5_readsTown 32 = .ok (.putfield 95, 3) := by decide +kernel
theorem dX5_readsTown_35 : decode cX5_readsTown 35 = .ok (.iconst 4, 1) := by decide +kernel
theorem dX5_readsTown_36 : decode cX5_readsTown 36 = .ok (.aload_n 0, 1) := by decide +kernel
theorem dX5_readsTown_37 : decode cX5_readsTown 37 = .ok (.getfield 104, 3) := by decide +kernel
theorem dX5_readsTown_40 : decode cX5_readsTown 40 = .ok (.imul, 1) := by decide +kernel
theorem dX5_readsTown_41 : decode cX5_readsTown 41 = .ok (.istore_n 3, 1) := by decide +kernel
theorem dX5_readsTown_42 : decode cX5_readsTown 42 = .ok (.aload_n 0, 1) := by decide +kernel
theorem dX5_readsTown_43 : decode cX5_readsTown 43 = .ok (.getfield 44, 3) := by decide +kernel
theorem dX5_readsTown_46 : decode cX5_readsTown 46 = .ok (.iload_n 3, 1) := by decide +kernel
theorem dX5_readsTown_47 : decode cX5_readsTown 47 = .ok (.iload_n 2, 1) := by decide +kernel
theorem dX5_readsTown_48 : decode cX5_readsTown 48 = .ok (.iastore, 1) := by decide +kernel
theorem dX5_readsTown_49 : decode cX5_readsTown 49 = .ok (.aload_n 0, 1) := by decide +kernel
theorem dX5_readsTown_50 : decode cX5_readsTown 50 = .ok (.getfield 44, 3) := by decide +kernel
theorem dX5_readsTown_53 : decode cX5_readsTown 53 = .ok (.iload_n 3, 1) := by decide +kernel
theorem dX5_readsTown_54 : decode cX5_readsTown 54 = .ok (.iconst 2, 1) := by decide +kernel
theorem dX5_readsTown_55 : decode cX5_readsTown 55 = .ok (.iadd, 1) := by decide +kernel
theorem dX5_readsTown_56 : decode cX5_readsTown 56 = .ok (.iconst 0, 1) := by decide +kernel
theorem dX5_readsTown_57 : decode cX5_readsTown 57 = .ok (.iastore, 1) := by decide +kernel
theorem dX5_readsTown_58 : decode cX5_readsTown 58 = .ok (.iconst 0, 1) := by decide +kernel
theorem dX5_readsTown_59 : decode cX5_readsTown 59 = .ok (.istore 4, 2) := by decide +kernel
theorem dX5_readsTown_61 : decode cX5_readsTown 61 = .ok (.iload 4, 2) := by decide +kernel
theorem dX5_readsTown_63 : decode cX5_readsTown 63 = .ok (.bipush 6, 2) := by decide +kernel
theorem dX5_readsTown_65 : decode cX5_readsTown 65 = .ok (.if_icmp .ge 94, 3) := by decide +kernel
theorem dX5_readsTown_68 : decode cX5_readsTown 68 = .ok (.aload_n 0, 1) := by decide +kernel
theorem dX5_readsTown_69 : decode cX5_readsTown 69 = .ok (.iload_n 1, 1) := by decide +kernel
theorem dX5_readsTown_70 : decode cX5_readsTown 70 = .ok (.iload 4, 2) := by decide +kernel
theorem dX5_readsTown_72 : decode cX5_readsTown 72 = .ok (.ifCond .ne 7, 3) := by decide +kernel
theorem dX5_readsTown_75 : decode cX5_readsTown 75 = .ok (.iconst 2, 1) := by decide +kernel
theorem dX5_readsTown_76 : decode cX5_readsTown 76 = .ok (.goto 4, 3) := by decide +kernel
theorem dX5_readsTown_79 : decode cX5_readsTown 79 = .ok (.iconst 0, 1) := by decide +kernel
theorem dX5_readsTown_80 : decode cX5_readsTown 80 = .ok (.invokevirtual 107, 3) := by decide +kernel
theorem dX5_readsTown_83 : decode cX5_readsTown 83 = .ok (.istore 5, 2) := by decide +kernel
theorem dX5_readsTown_85 : decode cX5_readsTown 85 = .ok (.iload 5, 2) := by decide +kernel
theorem dX5_readsTown_87 : decode cX5_readsTown 87 = .ok (.bipush (-9), 2) := by decide +kernel
theorem dX5_readsTown_89 : decode cX5_readsTown 89 = .ok (.if_icmp .ne 5, 3) := by decide +kernel
theorem dX5_readsTown_92 : decode cX5_readsTown 92 = .ok (.iconst 0, 1) := by decide +kernel
theorem dX5_readsTown_93 : decode cX5_readsTown 93 = .ok (.ireturn, 1) := by decide +kernel
theorem dX5_readsTown_94 : decode cX5_readsTown 94 = .ok (.iload 4, 2) := by decide +kernel
theorem dX5_readsTown_96 : decode cX5_readsTown 96 = .ok (.ifCond .ne 16, 3) := by decide +kernel
theorem dX5_readsTown_99 : decode cX5_readsTown 99 = .ok (.aload_n 0, 1) := by decide +kernel
theorem dX5_readsTown_100 : decode cX5_readsTown 100 = .ok (.getfield 44, 3) := by decide +kernel
theorem dX5_readsTown_103 : decode cX5_readsTown 103 = .ok (.iload_n 3, 1) := by decide +kernel
theorem dX5_readsTown_104 : decode cX5_readsTown 104 = .ok (.iconst 1, 1) := by decide +kernel
theorem dX5_readsTown_105 : decode cX5_readsTown 105 = .ok (.iadd, 1) := by decide +kernel
theorem dX5_readsTown_106 : decode cX5_readsTown 106 = .ok (.iload 5, 2) := by decide +kernel
theorem dX5_readsTown_108 : decode cX5_readsTown 108 = .ok (.iastore, 1) := by decide +kernel
theorem dX5_readsTown_109 : decode cX5_readsTown 109 = .ok (.goto 44, 3) := by decide +kernel
theorem dX5_readsTown_112 : decode cX5_readsTown 112 = .ok (.iload 4, 2) := by decide +kernel
theorem dX5_readsTown_114 : decode cX5_readsTown 114 = .ok (.iconst 5, 1) := by decide +kernel
theorem dX5_readsTown_115 : decode cX5_readsTown 115 = .ok (.if_icmp .ge 28, 3) := by decide +kernel
theorem dX5_readsTown_118 : decode cX5_readsTown 118 = .ok (.aload_n 0, 1) := by decide +kernel
theorem dX5_readsTown_119 : decode cX5_readsTown 119 = .ok (.getfield 44, 3) := by decide +kernel
theorem dX5_readsTown_122 : decode cX5_readsTown 122 = .ok (.iload_n 3, 1) := by decide +kernel
theorem dX5_readsTown_123 : decode cX5_readsTown 123 = .ok (.iconst 2, 1) := by decide +kernel
theorem dX5_readsTown_124 : decode cX5_readsTown 124 = .ok (.iadd, 1) := by decide +kernel
theorem dX5_readsTown_125 : decode cX5_readsTown 125 = .ok (.bipush 10, 2) := by decide +kernel
theorem dX5_readsTown_127 : decode cX5_readsTown 127 = .ok (.aload_n 0, 1) := by decide +kernel
theorem dX5_readsTown_128 : decode cX5_readsTown 128 = .ok (.getfield 44, 3) := by decide +kernel
theorem dX5_readsTown_131 : decode cX5_readsTown 131 = .ok (.iload_n 3, 1) := by decide +kernel
theorem dX5_readsTown_132 : decode cX5_readsTown 132 = .ok (.iconst 2, 1) := by decide +kernel
theorem dX5_readsTown_133 : decode cX5_readsTown 133 = .ok (.iadd, 1) := by decide +kernel
theorem dX5_readsTown_134 : decode cX5_readsTown 134 = .ok (.iaload, 1) := by decide +kernel
theorem dX5_readsTown_135 : decode cX5_readsTown 135 = .ok (.imul, 1) := by decide +kernel
theorem dX5_readsTown_136 : decode cX5_readsTown 136 = .ok (.iload 5, 2) := by decide +kernel
theorem dX5_readsTown_138 : decode cX5_readsTown 138 = .ok (.iadd, 1) := by decide +kernel
theorem dX5_readsTown_139 : decode cX5_readsTown 139 = .ok (.iastore, 1) := by decide +kernel
theorem dX5_readsTown_140 : decode cX5_readsTown 140 = .ok (.goto 13, 3) := by decide +kernel
theorem dX5_readsTown_143 : decode cX5_readsTown 143 = .ok (.aload_n 0, 1) := by decide +kernel
theorem dX5_readsTown_144 : decode cX5_readsTown 144 = .ok (.getfield 44, 3) := by decide +kernel
theorem dX5_readsTown_147 : decode cX5_readsTown 147 = .ok (.iload_n 3, 1) := by decide +kernel
theorem dX5_readsTown_148 : decode cX5_readsTown 148 = .ok (.iconst 3, 1) := by decide +kernel
theorem dX5_readsTown_149 : decode cX5_readsTown 149 = .ok (.iadd, 1) := by decide +kernel
theorem dX5_readsTown_150 : decode cX5_readsTown 150 = .ok (.iload 5, 2) := by decide +kernel
theorem dX5_readsTown_152 : decode cX5_readsTown 152 = .ok (.iastore, 1) := by decide +kernel
theorem dX5_readsTown_153 : decode cX5_readsTown 153 = .ok (.iinc 4 1, 3) := by decide +kernel
theorem dX5_readsTown_156 : decode cX5_readsTown 156 = .ok (.goto (-95), 3) := by decide +kernel
theorem dX5_readsTown_159 : decode cX5_readsTown 159 = .ok (.aload_n 0, 1) := by decide +kernel
theorem dX5_readsTown_160 : decode cX5_readsTown 160 = .ok (.dup, 1) := by decide +kernel
theorem dX5_readsTown_161 : decode cX5_readsTown 161 = .ok (.getfield 104, 3) := by decide +kernel
theorem dX5_readsTown_164 : decode cX5_readsTown 164 = .ok (.iconst 1, 1) := by decide +kernel
theorem dX5_readsTown_165 : decode cX5_readsTown 165 = .ok (.iadd, 1) := by decide +kernel
theorem dX5_readsTown_166 : decode cX5_readsTown 166 = .ok (.putfield 104, 3) := by decide +kernel
theorem dX5_readsTown_169 : decode cX5_readsTown 169 = .ok (.iconst 1, 1) := by decide +kernel
theorem dX5_readsTown_170 : decode cX5_readsTown 170 = .ok (.ireturn, 1) := by decide +kernel
theorem dX5_goesOn_0 : decode cX5_goesOn 0 = .ok (.aload_n 0, 1) := by decide +kernel
theorem dX5_goesOn_1 : decode cX5_goesOn 1 = .ok (.iconst 0, 1) := by decide +kernel
theorem dX5_goesOn_2 : decode cX5_goesOn 2 = .ok (.putfield 95, 3) := by decide +kernel
theorem dX5_goesOn_5 : decode cX5_goesOn 5 = .ok (.aload_n 0, 1) := by decide +kernel
theorem dX5_goesOn_6 : decode cX5_goesOn 6 = .ok (.iconst 0, 1) := by decide +kernel
theorem dX5_goesOn_7 : decode cX5_goesOn 7 = .ok (.putfield 104, 3) := by decide +kernel
theorem dX5_goesOn_10 : decode cX5_goesOn 10 = .ok (.aload_n 0, 1) := by decide +kernel
theorem dX5_goesOn_11 : decode cX5_goesOn 11 = .ok (.getfield 95, 3) := by decide +kernel
theorem dX5_goesOn_14 : decode cX5_goesOn 14 = .ok (.aload_n 0, 1) := by decide +kernel
theorem dX5_goesOn_15 : decode cX5_goesOn 15 = .ok (.getfield 26, 3) := by decide +kernel
theorem dX5_goesOn_18 : decode cX5_goesOn 18 = .ok (.iload_n 1, 1) := by decide +kernel
theorem dX5_goesOn_19 : decode cX5_goesOn 19 = .ok (.iaload, 1) := by decide +kernel
theorem dX5_goesOn_20 : decode cX5_goesOn 20 = .ok (.if_icmp .ge 39, 3) := by decide +kernel
theorem dX5_goesOn_23 : decode cX5_goesOn 23 = .ok (.aload_n 0, 1) := by decide +kernel
theorem dX5_goesOn_24 : decode cX5_goesOn 24 = .ok (.iload_n 1, 1) := by decide +kernel
theorem dX5_goesOn_25 : decode cX5_goesOn 25 = .ok (.invokevirtual 98, 3) := by decide +kernel
theorem dX5_goesOn_28 : decode cX5_goesOn 28 = .ok (.bipush 32, 2) := by decide +kernel
theorem dX5_goesOn_30 : decode cX5_goesOn 30 = .ok (.if_icmp .ne 16, 3) := by decide +kernel
theorem dX5_goesOn_33 : decode cX5_goesOn 33 = .ok (.aload_n 0, 1) := by decide +kernel
theorem dX5_goesOn_34 : decode cX5_goesOn 34 = .ok (.dup, 1) := by decide +kernel
theorem dX5_goesOn_35 : decode cX5_goesOn 35 = .ok (.getfield 95, 3) := by decide +kernel
theorem dX5_goesOn_38 : decode cX5_goesOn 38 = .ok (.iconst 1, 1) := by decide +kernel
theorem dX5_goesOn_39 : decode cX5_goesOn 39 = .ok (.iadd, 1) := by decide +kernel
theorem dX5_goesOn_40 : decode cX5_goesOn 40 = .ok (.putfield 95, 3) := by decide +kernel
theorem dX5_goesOn_43 : decode cX5_goesOn 43 = .ok (.goto (-33), 3) := by decide +kernel
theorem dX5_goesOn_46 : decode cX5_goesOn 46 = .ok (.aload_n 0, 1) := by decide +kernel
theorem dX5_goesOn_47 : decode cX5_goesOn 47 = .ok (.iload_n 1, 1) := by decide +kernel
theorem dX5_goesOn_48 : decode cX5_goesOn 48 = .ok (.invokevirtual 110, 3) := by decide +kernel
theorem dX5_goesOn_51 : decode cX5_goesOn 51 = .ok (.ifCond .ne (-41), 3) := by decide +kernel
theorem dX5_goesOn_54 : decode cX5_goesOn 54 = .ok (.aload_n 0, 1) := by decide +kernel
theorem dX5_goesOn_55 : decode cX5_goesOn 55 = .ok (.getfield 95, 3) := by decide +kernel
theorem dX5_goesOn_58 : decode cX5_goesOn 58 = .ok (.ireturn, 1) := by decide +kernel
theorem dX5_goesOn_59 : decode cX5_goesOn 59 = .ok (.bipush (-9), 2) := by decide +kernel
theorem dX5_goesOn_61 : decode cX5_goesOn 61 = .ok (.ireturn, 1) := by decide +kernel
theorem dX5_fault_0 : decode cX5_fault 0 = .ok (.aload_n 0, 1) := by decide +kernel
theorem dX5_fault_1 : decode cX5_fault 1 = .ok (.iload_n 1, 1) := by decide +kernel
theorem dX5_fault_2 : decode cX5_fault 2 = .ok (.invokevirtual 92, 3) := by decide +kernel
theorem dX5_fault_5 : decode cX5_fault 5 = .ok (.istore_n 2, 1) := by decide +kernel
theorem dX5_fault_6 : decode cX5_fault 6 = .ok (.iload_n 2, 1) := by decide +kernel
theorem dX5_fault_7 : decode cX5_fault 7 = .ok (.ifCond .ge 7, 3) := by decide +kernel
theorem dX5_fault_10 : decode cX5_fault 10 = .ok (.iload_n 2, 1) := by decide +kernel
theorem dX5_fault_11 : decode cX5_fault 11 = .ok (.goto 8, 3) := by decide +kernel
theorem dX5_fault_14 : decode cX5_fault 14 = .ok (.aload_n 0, 1) := by decide +kernel
theorem dX5_fault_15 : decode cX5_fault 15 = .ok (.iload_n 1, 1) := by decide +kernel
theorem dX5_fault_16 : decode cX5_fault 16 = .ok (.invokevirtual 113, 3) := by decide +kernel
theorem dX5_fault_19 : decode cX5_fault 19 = .ok (.ireturn, 1) := by decide +kernel
theorem dX5_almanac_0 : decode cX5_almanac 0 = .ok (.aload_n 0, 1) := by decide +kernel
theorem dX5_almanac_1 : decode cX5_almanac 1 = .ok (.iload_n 1, 1) := by decide +kernel
theorem dX5_almanac_2 : decode cX5_almanac 2 = .ok (.invokevirtual 92, 3) := by decide +kernel
theorem dX5_almanac_5 : decode cX5_almanac 5 = .ok (.istore_n 2, 1) := by decide +kernel
theorem dX5_almanac_6 : decode cX5_almanac 6 = .ok (.iload_n 2, 1) := by decide +kernel
theorem dX5_almanac_7 : decode cX5_almanac 7 = .ok (.ifCond .ge 5, 3) := by decide +kernel
theorem dX5_almanac_10 : decode cX5_almanac 10 = .ok (.iload_n 2, 1) := by decide +kernel
theorem dX5_almanac_11 : decode cX5_almanac 11 = .ok (.ireturn, 1) := by decide +kernel
theorem dX5_almanac_12 : decode cX5_almanac 12 = .ok (.aload_n 0, 1) := by decide +kernel
theorem dX5_almanac_13 : decode cX5_almanac 13 = .ok (.iload_n 1, 1) := by decide +kernel
theorem dX5_almanac_14 : decode cX5_almanac 14 = .ok (.invokevirtual 113, 3) := by decide +kernel
theorem dX5_almanac_17 : decode cX5_almanac 17 = .ok (.bipush (-9), 2) := by decide +kernel
theorem dX5_almanac_19 : decode cX5_almanac 19 = .ok (.if_icmp .eq 6, 3) := by decide +kernel
theorem dX5_almanac_22 : decode cX5_almanac 22 = .ok (.bipush (-4), 2) := by decide +kernel
theorem dX5_almanac_24 : decode cX5_almanac 24 = .ok (.ireturn, 1) := by decide +kernel
theorem dX5_almanac_25 : decode cX5_almanac 25 = .ok (.aload_n 0, 1) := by decide +kernel
theorem dX5_almanac_26 : decode cX5_almanac 26 = .ok (.aload_n 0, 1) := by decide +kernel
theorem dX5_almanac_27 : decode cX5_almanac 27 = .ok (.getfield 104, 3) := by decide +kernel
theorem dX5_almanac_30 : decode cX5_almanac 30 = .ok (.putfield 116, 3) := by decide +kernel
theorem dX5_almanac_33 : decode cX5_almanac 33 = .ok (.iconst 0, 1) := by decide +kernel
theorem dX5_almanac_34 : decode cX5_almanac 34 = .ok (.istore_n 3, 1) := by decide +kernel
theorem dX5_almanac_35 : decode cX5_almanac 35 = .ok (.iload_n 3, 1) := by decide +kernel
theorem dX5_almanac_36 : decode cX5_almanac 36 = .ok (.aload_n 0, 1) := by decide +kernel
theorem dX5_almanac_37 : decode cX5_almanac 37 = .ok (.getfield 116, 3) := by decide +kernel
theorem dX5_almanac_40 : decode cX5_almanac 40 = .ok (.if_icmp .ge 71, 3) := by decide +kernel
theorem dX5_almanac_43 : decode cX5_almanac 43 = .ok (.aload_n 0, 1) := by decide +kernel
theorem dX5_almanac_44 : decode cX5_almanac 44 = .ok (.getfield 32, 3) := by decide +kernel
theorem dX5_almanac_47 : decode cX5_almanac 47 = .ok (.iload_n 3, 1) := by decide +kernel
theorem dX5_almanac_48 : decode cX5_almanac 48 = .ok (.aload_n 0, 1) := by decide +kernel
theorem dX5_almanac_49 : decode cX5_almanac 49 = .ok (.getfield 44, 3) := by decide +kernel
theorem dX5_almanac_52 : decode cX5_almanac 52 = .ok (.iconst 4, 1) := by decide +kernel
theorem dX5_almanac_53 : decode cX5_almanac 53 = .ok (.iload_n 3, 1) := by decide +kernel
theorem dX5_almanac_54 : decode cX5_almanac 54 = .ok (.imul, 1) := by decide +kernel
theorem dX5_almanac_55 : decode cX5_almanac 55 = .ok (.iaload, 1) := by decide +kernel
theorem dX5_almanac_56 : decode cX5_almanac 56 = .ok (.iastore, 1) := by decide +kernel
theorem dX5_almanac_57 : decode cX5_almanac 57 = .ok (.aload_n 0, 1) := by decide +kernel
theorem dX5_almanac_58 : decode cX5_almanac 58 = .ok (.getfield 35, 3) := by decide +kernel
theorem dX5_almanac_61 : decode cX5_almanac 61 = .ok (.iload_n 3, 1) := by decide +kernel
theorem dX5_almanac_62 : decode cX5_almanac 62 = .ok (.aload_n 0, 1) := by decide +kernel
theorem dX5_almanac_63 : decode cX5_almanac 63 = .ok (.getfield 44, 3) := by decide +kernel
theorem dX5_almanac_66 : decode cX5_almanac 66 = .ok (.iconst 4, 1) := by decide +kernel
theorem dX5_almanac_67 : decode cX5_almanac 67 = .ok (.iload_n 3, 1) := by decide +kernel
theorem dX5_almanac_68 : decode cX5_almanac 68 = .ok (.imul, 1) := by decide +kernel
theorem dX5_almanac_69 : decode cX5_almanac 69 = .ok (.iconst 1, 1) := by decide +kernel
theorem dX5_almanac_70 : decode cX5_almanac 70 = .ok (.iadd, 1) := by decide +kernel
theorem dX5_almanac_71 : decode cX5_almanac 71 = .ok (.iaload, 1) := by decide +kernel
theorem dX5_almanac_72 : decode cX5_almanac 72 = .ok (.iastore, 1) := by decide +kernel
theorem dX5_almanac_73 : decode cX5_almanac 73 = .ok (.aload_n 0, 1) := by decide +kernel
theorem dX5_almanac_74 : decode cX5_almanac 74 = .ok (.getfield 38, 3) := by decide +kernel
theorem dX5_almanac_77 : decode cX5_almanac 77 = .ok (.iload_n 3, 1) := by decide +kernel
theorem dX5_almanac_78 : decode cX5_almanac 78 = .ok (.aload_n 0, 1) := by decide +kernel
theorem dX5_almanac_79 : decode cX5_almanac 79 = .ok (.getfield 44, 3) := by decide +kernel
theorem dX5_almanac_82 : decode cX5_almanac 82 = .ok (.iconst 4, 1) := by decide +kernel
theorem dX5_almanac_83 : decode cX5_almanac 83 = .ok (.iload_n 3, 1) := by decide +kernel
theorem dX5_almanac_84 : decode cX5_almanac 84 = .ok (.imul, 1) := by decide +kernel
theorem dX5_almanac_85 : decode cX5_almanac 85 = .ok (.iconst 2, 1) := by decide +kernel
theorem dX5_almanac_86 : decode cX5_almanac 86 = .ok (.iadd, 1) := by decide +kernel
theorem dX5_almanac_87 : decode cX5_almanac 87 = .ok (.iaload, 1) := by decide +kernel
theorem dX5_almanac_88 : decode cX5_almanac 88 = .ok (.iastore, 1) := by decide +kernel
theorem dX5_almanac_89 : decode cX5_almanac 89 = .ok (.aload_n 0, 1) := by decide +kernel
theorem dX5_almanac_90 : decode cX5_almanac 90 = .ok (.getfield 41, 3) := by decide +kernel
theorem dX5_almanac_93 : decode cX5_almanac 93 = .ok (.iload_n 3, 1) := by decide +kernel
theorem dX5_almanac_94 : decode cX5_almanac 94 = .ok (.aload_n 0, 1) := by decide +kernel
theorem dX5_almanac_95 : decode cX5_almanac 95 = .ok (.getfield 44, 3) := by decide +kernel
theorem dX5_almanac_98 : decode cX5_almanac 98 = .ok (.iconst 4, 1) := by decide +kernel
theorem dX5_almanac_99 : decode cX5_almanac 99 = .ok (.iload_n 3, 1) := by decide +kernel
theorem dX5_almanac_100 : decode cX5_almanac 100 = .ok (.imul, 1) := by decide +kernel
theorem dX5_almanac_101 : decode cX5_almanac 101 = .ok (.iconst 3, 1) := by decide +kernel
theorem dX5_almanac_102 : decode cX5_almanac 102 = .ok (.iadd, 1) := by decide +kernel
theorem dX5_almanac_103 : decode cX5_almanac 103 = .ok (.iaload, 1) := by decide +kernel
theorem dX5_almanac_104 : decode cX5_almanac 104 = .ok (.iastore, 1) := by decide +kernel
theorem dX5_almanac_105 : decode cX5_almanac 105 = .ok (.iinc 3 1, 3) := by decide +kernel
theorem dX5_almanac_108 : decode cX5_almanac 108 = .ok (.goto (-73), 3) := by decide +kernel
theorem dX5_almanac_111 : decode cX5_almanac 111 = .ok (.aload_n 0, 1) := by decide +kernel
theorem dX5_almanac_112 : decode cX5_almanac 112 = .ok (.iconst 0, 1) := by decide +kernel
theorem dX5_almanac_113 : decode cX5_almanac 113 = .ok (.putfield 119, 3) := by decide +kernel
theorem dX5_almanac_116 : decode cX5_almanac 116 = .ok (.iconst 0, 1) := by decide +kernel
theorem dX5_almanac_117 : decode cX5_almanac 117 = .ok (.istore_n 3, 1) := by decide +kernel
theorem dX5_almanac_118 : decode cX5_almanac 118 = .ok (.iload_n 3, 1) := by decide +kernel
theorem dX5_almanac_119 : decode cX5_almanac 119 = .ok (.iconst 3, 1) := by decide +kernel
theorem dX5_almanac_120 : decode cX5_almanac 120 = .ok (.if_icmp .ge 20, 3) := by decide +kernel
theorem dX5_almanac_123 : decode cX5_almanac 123 = .ok (.aload_n 0, 1) := by decide +kernel
theorem dX5_almanac_124 : decode cX5_almanac 124 = .ok (.getfield 47, 3) := by decide +kernel
theorem dX5_almanac_127 : decode cX5_almanac 127 = .ok (.bipush 21, 2) := by decide +kernel
theorem dX5_almanac_129 : decode cX5_almanac 129 = .ok (.iload_n 3, 1) := by decide +kernel
theorem dX5_almanac_130 : decode cX5_almanac 130 = .ok (.imul, 1) := by decide +kernel
theorem dX5_almanac_131 : decode cX5_almanac 131 = .ok (.bipush (-9), 2) := by decide +kernel
theorem dX5_almanac_133 : decode cX5_almanac 133 = .ok (.iastore, 1) := by decide +kernel
theorem dX5_almanac_134 : decode cX5_almanac 134 = .ok (.iinc 3 1, 3) := by decide +kernel
theorem dX5_almanac_137 : decode cX5_almanac 137 = .ok (.goto (-19), 3) := by decide +kernel
theorem dX5_almanac_140 : decode cX5_almanac 140 = .ok (.aload_n 0, 1) := by decide +kernel
theorem dX5_almanac_141 : decode cX5_almanac 141 = .ok (.getfield 116, 3) := by decide +kernel
theorem dX5_almanac_144 : decode cX5_almanac 144 = .ok (.ireturn, 1) := by decide +kernel
theorem dX5_isTown_0 : decode cX5_isTown 0 = .ok (.iload_n 1, 1) := by decide +kernel
theorem dX5_isTown_1 : decode cX5_isTown 1 = .ok (.iconst 0, 1) := by decide +kernel
theorem dX5_isTown_2 : decode cX5_isTown 2 = .ok (.aload_n 0, 1) := by decide +kernel
theorem dX5_isTown_3 : decode cX5_isTown 3 = .ok (.getfield 116, 3) := by decide +kernel
theorem dX5_isTown_6 : decode cX5_isTown 6 = .ok (.iconst 1, 1) := by decide +kernel
theorem dX5_isTown_7 : decode cX5_isTown 7 = .ok (.isub, 1) := by decide +kernel
theorem dX5_isTown_8 : decode cX5_isTown 8 = .ok (.invokestatic 60, 3) := by decide +kernel
theorem dX5_isTown_11 : decode cX5_isTown 11 = .ok (.ireturn, 1) := by decide +kernel
theorem dX5_isDay_0 : decode cX5_isDay 0 = .ok (.iload_n 0, 1) := by decide +kernel
theorem dX5_isDay_1 : decode cX5_isDay 1 = .ok (.iconst 0, 1) := by decide +kernel
theorem dX5_isDay_2 : decode cX5_isDay 2 = .ok (.sipush 19999, 3) := by decide +kernel
theorem dX5_isDay_5 : decode cX5_isDay 5 = .ok (.invokestatic 60, 3) := by decide +kernel
theorem dX5_isDay_8 : decode cX5_isDay 8 = .ok (.ireturn, 1) := by decide +kernel
theorem dX5_areDays_0 : decode cX5_areDays 0 = .ok (.iload_n 0, 1) := by decide +kernel
theorem dX5_areDays_1 : decode cX5_areDays 1 = .ok (.invokestatic 122, 3) := by decide +kernel
theorem dX5_areDays_4 : decode cX5_areDays 4 = .ok (.ifCond .eq 19, 3) := by decide +kernel
theorem dX5_areDays_7 : decode cX5_areDays 7 = .ok (.iload_n 1, 1) := by decide +kernel
theorem dX5_areDays_8 : decode cX5_areDays 8 = .ok (.invokestatic 122, 3) := by decide +kernel
theorem dX5_areDays_11 : decode cX5_areDays 11 = .ok (.ifCond .eq 12, 3) := by decide +kernel
theorem dX5_areDays_14 : decode cX5_areDays 14 = .ok (.iload_n 0, 1) := by decide +kernel
theorem dX5_areDays_15 : decode cX5_areDays 15 = .ok (.iload_n 1, 1) := by decide +kernel
theorem dX5_areDays_16 : decode cX5_areDays 16 = .ok (.if_icmp .gt 7, 3) := by decide +kernel
theorem dX5_areDays_19 : decode cX5_areDays 19 = .ok (.iconst 1, 1) := by decide +kernel
theorem dX5_areDays_20 : decode cX5_areDays 20 = .ok (.goto 4, 3) := by decide +kernel
theorem dX5_areDays_23 : decode cX5_areDays 23 = .ok (.iconst 0, 1) := by decide +kernel
theorem dX5_areDays_24 : decode cX5_areDays 24 = .ok (.ireturn, 1) := by decide +kernel
theorem dX5_take_0 : decode cX5_take 0 = .ok (.aload_n 0, 1) := by decide +kernel
theorem dX5_take_1 : decode cX5_take 1 = .ok (.aload_n 0, 1) := by decide +kernel
theorem dX5_take_2 : decode cX5_take 2 = .ok (.getfield 32, 3) := by decide +kernel
theorem dX5_take_5 : decode cX5_take 5 = .ok (.iload_n 1, 1) := by decide +kernel
theorem dX5_take_6 : decode cX5_take 6 = .ok (.iaload, 1) := by decide +kernel
theorem dX5_take_7 : decode cX5_take 7 = .ok (.putfield 125, 3) := by decide +kernel
theorem dX5_take_10 : decode cX5_take 10 = .ok (.aload_n 0, 1) := by decide +kernel
theorem dX5_take_11 : decode cX5_take 11 = .ok (.aload_n 0, 1) := by decide +kernel
theorem dX5_take_12 : decode cX5_take 12 = .ok (.getfield 35, 3) := by decide +kernel
theorem dX5_take_15 : decode cX5_take 15 = .ok (.iload_n 1, 1) := by decide +kernel
theorem dX5_take_16 : decode cX5_take 16 = .ok (.iaload, 1) := by decide +kernel
theorem dX5_take_17 : decode cX5_take 17 = .ok (.putfield 128, 3) := by decide +kernel
theorem dX5_take_20 : decode cX5_take 20 = .ok (.aload_n 0, 1) := by decide +kernel
theorem dX5_take_21 : decode cX5_take 21 = .ok (.aload_n 0, 1) := by decide +kernel
theorem dX5_take_22 : decode cX5_take 22 = .ok (.getfield 38, 3) := by decide +kernel
theorem dX5_take_25 : decode cX5_take 25 = .ok (.iload_n 1, 1) := by decide +kernel
theorem dX5_take_26 : decode cX5_take 26 = .ok (.iaload, 1) := by decide +kernel
theorem dX5_take_27 : decode cX5_take 27 = .ok (.putfield 131, 3) := by decide +kernel
theorem dX5_take_30 : decode cX5_take 30 = .ok (.aload_n 0, 1) := by decide +kernel
theorem dX5_take_31 : decode cX5_take 31 = .ok (.aload_n 0, 1) := by decide +kernel
theorem dX5_take_32 : decode cX5_take 32 = .ok (.getfield 41, 3) := by decide +kernel
theorem dX5_take_35 : decode cX5_take 35 = .ok (.iload_n 1, 1) := by decide +kernel
theorem dX5_take_36 : decode cX5_take 36 = .ok (.iaload, 1) := by decide +kernel
theorem dX5_take_37 : decode cX5_take 37 = .ok (.putfield 134, 3) := by decide +kernel
theorem dX5_take_40 : decode cX5_take 40 = .ok (.return_, 1) := by decide +kernel
theorem dX5_leaps_0 : decode cX5_leaps 0 = .ok (.aload_n 0, 1) := by decide +kernel
theorem dX5_leaps_1 : decode cX5_leaps 1 = .ok (.getfield 125, 3) := by decide +kernel
theorem dX5_leaps_4 : decode cX5_leaps 4 = .ok (.iconst 1, 1) := by decide +kernel
theorem dX5_leaps_5 : decode cX5_leaps 5 = .ok (.if_icmp .eq 11, 3) := by decide +kernel
theorem dX5_leaps_8 : decode cX5_leaps 8 = .ok (.aload_n 0, 1) := by decide +kernel
theorem dX5_leaps_9 : decode cX5_leaps 9 = .ok (.getfield 125, 3) := by decide +kernel
theorem dX5_leaps_12 : decode cX5_leaps 12 = .ok (.iconst 4, 1) := by decide +kernel
theorem dX5_leaps_13 : decode cX5_leaps 13 = .ok (.if_icmp .ne 7, 3) := by decide +kernel
theorem dX5_leaps_16 : decode cX5_leaps 16 = .ok (.iconst 1, 1) := by decide +kernel
theorem dX5_leaps_17 : decode cX5_leaps 17 = .ok (.goto 4, 3) := by decide +kernel
theorem dX5_leaps_20 : decode cX5_leaps 20 = .ok (.iconst 0, 1) := by decide +kernel
theorem dX5_leaps_21 : decode cX5_leaps 21 = .ok (.ireturn, 1) := by decide +kernel
theorem dX5_cuts_0 : decode cX5_cuts 0 = .ok (.aload_n 0, 1) := by decide +kernel
theorem dX5_cuts_1 : decode cX5_cuts 1 = .ok (.getfield 125, 3) := by decide +kernel
theorem dX5_cuts_4 : decode cX5_cuts 4 = .ok (.iconst 2, 1) := by decide +kernel
theorem dX5_cuts_5 : decode cX5_cuts 5 = .ok (.if_icmp .eq 19, 3) := by decide +kernel
theorem dX5_cuts_8 : decode cX5_cuts 8 = .ok (.aload_n 0, 1) := by decide +kernel
theorem dX5_cuts_9 : decode cX5_cuts 9 = .ok (.getfield 125, 3) := by decide +kernel
theorem dX5_cuts_12 : decode cX5_cuts 12 = .ok (.iconst 4, 1) := by decide +kernel
theorem dX5_cuts_13 : decode cX5_cuts 13 = .ok (.if_icmp .eq 11, 3) := by decide +kernel
theorem dX5_cuts_16 : decode cX5_cuts 16 = .ok (.aload_n 0, 1) := by decide +kernel
theorem dX5_cuts_17 : decode cX5_cuts 17 = .ok (.getfield 125, 3) := by decide +kernel
theorem dX5_cuts_20 : decode cX5_cuts 20 = .ok (.iconst 5, 1) := by decide +kernel
theorem dX5_cuts_21 : decode cX5_cuts 21 = .ok (.if_icmp .ne 7, 3) := by decide +kernel
theorem dX5_cuts_24 : decode cX5_cuts 24 = .ok (.iconst 1, 1) := by decide +kernel
theorem dX5_cuts_25 : decode cX5_cuts 25 = .ok (.goto 4, 3) := by decide +kernel
theorem dX5_cuts_28 : decode cX5_cuts 28 = .ok (.iconst 0, 1) := by decide +kernel
theorem dX5_cuts_29 : decode cX5_cuts 29 = .ok (.ireturn, 1) := by decide +kernel
theorem dX5_yearDays_0 : decode cX5_yearDays 0 = .ok (.aload_n 0, 1) := by decide +kernel
theorem dX5_yearDays_1 : decode cX5_yearDays 1 = .ok (.getfield 125, 3) := by decide +kernel
theorem dX5_yearDays_4 : decode cX5_yearDays 4 = .ok (.iconst 3, 1) := by decide +kernel
theorem dX5_yearDays_5 : decode cX5_yearDays 5 = .ok (.if_icmp .ne 8, 3) := by decide +kernel
theorem dX5_yearDays_8 : decode cX5_yearDays 8 = .ok (.bipush 98, 2) := by decide +kernel
theorem dX5_yearDays_10 : decode cX5_yearDays 10 = .ok (.goto 26, 3) := by decide +kernel
theorem dX5_yearDays_13 : decode cX5_yearDays 13 = .ok (.aload_n 0, 1) := by decide +kernel
theorem dX5_yearDays_14 : decode cX5_yearDays 14 = .ok (.invokevirtual 137, 3) := by decide +kernel
theorem dX5_yearDays_17 : decode cX5_yearDays 17 = .ok (.ifCond .eq 17, 3) := by decide +kernel
theorem dX5_yearDays_20 : decode cX5_yearDays 20 = .ok (.iload_n 1, 1) := by decide +kernel
theorem dX5_yearDays_21 : decode cX5_yearDays 21 = .ok (.aload_n 0, 1) := by decide +kernel
theorem dX5_yearDays_22 : decode cX5_yearDays 22 = .ok (.getfield 128, 3) := by decide +kernel
theorem dX5_yearDays_25 : decode cX5_yearDays 25 = .ok (.irem, 1) := by decide +kernel
theorem dX5_yearDays_26 : decode cX5_yearDays 26 = .ok (.ifCond .ne 8, 3) := by decide +kernel
theorem dX5_yearDays_29 : decode cX5_yearDays 29 = .ok (.bipush 101, 2) := by decide +kernel
theorem dX5_yearDays_31 : decode cX5_yearDays 31 = .ok (.goto 5, 3) := by decide +kernel
theorem dX5_yearDays_34 : decode cX5_yearDays 34 = .ok (.bipush 100, 2) := by decide +kernel
theorem dX5_yearDays_36 : decode cX5_yearDays 36 = .ok (.ireturn, 1) := by decide +kernel
theorem dX5_beginOf_0 : decode cX5_beginOf 0 = .ok (.aload_n 0, 1) := by decide +kernel
theorem dX5_beginOf_1 : decode cX5_beginOf 1 = .ok (.getfield 125, 3) := by decide +kernel
theorem dX5_beginOf_4 : decode cX5_beginOf 4 = .ok (.iconst 3, 1) := by decide +kernel
theorem dX5_beginOf_5 : decode cX5_beginOf 5 = .ok (.if_icmp .ne 10, 3) := by decide +kernel
theorem dX5_beginOf_8 : decode cX5_beginOf 8 = .ok (.bipush 98, 2) := by decide +kernel
theorem dX5_beginOf_10 : decode cX5_beginOf 10 = .ok (.iload_n 1, 1) := by decide +kernel
theorem dX5_beginOf_11 : decode cX5_beginOf 11 = .ok (.imul, 1) := by decide +kernel
theorem dX5_beginOf_12 : decode cX5_beginOf 12 = .ok (.goto 32, 3) := by decide +kernel
theorem dX5_beginOf_15 : decode cX5_beginOf 15 = .ok (.bipush 100, 2) := by decide +kernel
theorem dX5_beginOf_17 : decode cX5_beginOf 17 = .ok (.iload_n 1, 1) := by decide +kernel
theorem dX5_beginOf_18 : decode cX5_beginOf 18 = .ok (.imul, 1) := by decide +kernel
theorem dX5_beginOf_19 : decode cX5_beginOf 19 = .ok (.aload_n 0, 1) := by decide +kernel
theorem dX5_beginOf_20 : decode cX5_beginOf 20 = .ok (.invokevirtual 137, 3) := by decide +kernel
theorem dX5_beginOf_23 : decode cX5_beginOf 23 = .ok (.ifCond .eq 19, 3) := by decide +kernel
theorem dX5_beginOf_26 : decode cX5_beginOf 26 = .ok (.iload_n 1, 1) := by decide +kernel
theorem dX5_beginOf_27 : decode cX5_beginOf 27 = .ok (.aload_n 0, 1) := by decide +kernel
theorem dX5_beginOf_28 : decode cX5_beginOf 28 = .ok (.getfield 128, 3) := by decide +kernel
theorem dX5_beginOf_31 : decode cX5_beginOf 31 = .ok (.iadd, 1) := by decide +kernel
theorem dX5_beginOf_32 : decode cX5_beginOf 32 = .ok (.iconst 1, 1) := by decide +kernel
theorem dX5_beginOf_33 : decode cX5_beginOf 33 = .ok (.isub, 1) := by decide +kernel
theorem dX5_beginOf_34 : decode cX5_beginOf 34 = .ok (.aload_n 0, 1) := by decide +kernel
theorem dX5_beginOf_35 : decode cX5_beginOf 35 = .ok (.getfield 128, 3) := by decide +kernel
theorem dX5_beginOf_38 : decode cX5_beginOf 38 = .ok (.idiv, 1) := by decide +kernel
theorem dX5_beginOf_39 : decode cX5_beginOf 39 = .ok (.goto 4, 3) := by decide +kernel
theorem dX5_beginOf_42 : decode cX5_beginOf 42 = .ok (.iconst 0, 1) := by decide +kernel
theorem dX5_beginOf_43 : decode cX5_beginOf 43 = .ok (.iadd, 1) := by decide +kernel
theorem dX5_beginOf_44 : decode cX5_beginOf 44 = .ok (.ireturn, 1) := by decide +kernel
theorem dX5_countIn_0 : decode cX5_countIn 0 = .ok (.aload_n 0, 1) := by decide +kernel
theorem dX5_countIn_1 : decode cX5_countIn 1 = .ok (.iload_n 1, 1) := by decide +kernel
theorem dX5_countIn_2 : decode cX5_countIn 2 = .ok (.invokevirtual 141, 3) := by decide +kernel
theorem dX5_countIn_5 : decode cX5_countIn 5 = .ok (.aload_n 0, 1) := by decide +kernel
theorem dX5_countIn_6 : decode cX5_countIn 6 = .ok (.iload_n 2, 1) := by decide +kernel
theorem dX5_countIn_7 : decode cX5_countIn 7 = .ok (.invokevirtual 145, 3) := by decide +kernel
theorem dX5_countIn_10 : decode cX5_countIn 10 = .ok (.ireturn, 1) := by decide +kernel
theorem dX5_countOfDay_0 : decode cX5_countOfDay 0 = .ok (.aload_n 0, 1) := by decide +kernel
theorem dX5_countOfDay_1 : decode cX5_countOfDay 1 = .ok (.invokevirtual 148, 3) := by decide +kernel
theorem dX5_countOfDay_4 : decode cX5_countOfDay 4 = .ok (.ifCond .eq 18, 3) := by decide +kernel
theorem dX5_countOfDay_7 : decode cX5_countOfDay 7 = .ok (.iload_n 1, 1) := by decide +kernel
theorem dX5_countOfDay_8 : decode cX5_countOfDay 8 = .ok (.aload_n 0, 1) := by decide +kernel
theorem dX5_countOfDay_9 : decode cX5_countOfDay 9 = .ok (.getfield 131, 3) := by decide +kernel
theorem dX5_countOfDay_12 : decode cX5_countOfDay 12 = .ok (.if_icmp .lt 10, 3) := by decide +kernel
theorem dX5_countOfDay_15 : decode cX5_countOfDay 15 = .ok (.aload_n 0, 1) := by decide +kernel
theorem dX5_countOfDay_16 : decode cX5_countOfDay 16 = .ok (.getfield 134, 3) := by decide +kernel
theorem dX5_countOfDay_19 : decode cX5_countOfDay 19 = .ok (.goto 4, 3) := by decide +kernel
theorem dX5_countOfDay_22 : decode cX5_countOfDay 22 = .ok (.iconst 0, 1) := by decide +kernel
theorem dX5_countOfDay_23 : decode cX5_countOfDay 23 = .ok (.istore_n 2, 1) := by decide +kernel
theorem dX5_countOfDay_24 : decode cX5_countOfDay 24 = .ok (.iload_n 1, 1) := by decide +kernel
theorem dX5_countOfDay_25 : decode cX5_countOfDay 25 = .ok (.iload_n 2, 1) := by decide +kernel
theorem dX5_countOfDay_26 : decode cX5_countOfDay 26 = .ok (.iadd, 1) := by decide +kernel
theorem dX5_countOfDay_27 : decode cX5_countOfDay 27 = .ok (.aload_n 0, 1) := by decide +kernel
theorem dX5_countOfDay_28 : decode cX5_countOfDay 28 = .ok (.getfield 125, 3) := by decide +kernel
theorem dX5_countOfDay_31 : decode cX5_countOfDay 31 = .ok (.iconst 5, 1) := by decide +kernel
theorem dX5_countOfDay_32 : decode cX5_countOfDay 32 = .ok (.if_icmp .ne 22, 3) := by decide +kernel
theorem dX5_countOfDay_35 : decode cX5_countOfDay 35 = .ok (.iload_n 1, 1) := by decide +kernel
theorem dX5_countOfDay_36 : decode cX5_countOfDay 36 = .ok (.aload_n 0, 1) := by decide +kernel
theorem dX5_countOfDay_37 : decode cX5_countOfDay 37 = .ok (.getfield 131, 3) := by decide +kernel
theorem dX5_countOfDay_40 : decode cX5_countOfDay 40 = .ok (.sipush 1000, 3) := by decide +kernel
theorem dX5_countOfDay_43 : decode cX5_countOfDay 43 = .ok (.iadd, 1) := by decide +kernel
theorem dX5_countOfDay_44 : decode cX5_countOfDay 44 = .ok (.if_icmp .lt 10, 3) := by decide +kernel
theorem dX5_countOfDay_47 : decode cX5_countOfDay 47 = .ok (.aload_n 0, 1) := by decide +kernel
theorem dX5_countOfDay_48 : decode cX5_countOfDay 48 = .ok (.getfield 134, 3) := by decide +kernel
theorem dX5_countOfDay_51 : decode cX5_countOfDay 51 = .ok (.goto 4, 3) := by decide +kernel
theorem dX5_countOfDay_54 : decode cX5_countOfDay 54 = .ok (.iconst 0, 1) := by decide +kernel
theorem dX5_countOfDay_55 : decode cX5_countOfDay 55 = .ok (.iadd, 1) := by decide +kernel
theorem dX5_countOfDay_56 : decode cX5_countOfDay 56 = .ok (.ireturn, 1) := by decide +kernel
theorem dX5_dateOfCount_0 : decode cX5_dateOfCount 0 = .ok (.iload_n 1, 1) := by decide +kernel
theorem dX5_dateOfCount_1 : decode cX5_dateOfCount 1 = .ok (.bipush 102, 2) := by decide +kernel
theorem dX5_dateOfCount_3 : decode cX5_dateOfCount 3 = .ok (.idiv, 1) := by decide +kernel
theorem dX5_dateOfCount_4 : decode cX5_dateOfCount 4 = .ok (.istore_n 2, 1) := by decide +kernel
