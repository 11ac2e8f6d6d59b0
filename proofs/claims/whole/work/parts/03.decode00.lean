theorem dX0_init_0 : decode cX0_init 0 = .ok (.aload_n 0, 1) := by decide +kernel
theorem dX0_init_1 : decode cX0_init 1 = .ok (.invokespecial 3, 3) := by decide +kernel
theorem dX0_init_4 : decode cX0_init 4 = .ok (.aload_n 0, 1) := by decide +kernel
theorem dX0_init_5 : decode cX0_init 5 = .ok (.iconst 0, 1) := by decide +kernel
theorem dX0_init_6 : decode cX0_init 6 = .ok (.putfield 9, 3) := by decide +kernel
theorem dX0_init_9 : decode cX0_init 9 = .ok (.aload_n 0, 1) := by decide +kernel
theorem dX0_init_10 : decode cX0_init 10 = .ok (.iconst 2, 1) := by decide +kernel
theorem dX0_init_11 : decode cX0_init 11 = .ok (.putfield 15, 3) := by decide +kernel
theorem dX0_init_14 : decode cX0_init 14 = .ok (.aload_n 0, 1) := by decide +kernel
theorem dX0_init_15 : decode cX0_init 15 = .ok (.iconst 0, 1) := by decide +kernel
theorem dX0_init_16 : decode cX0_init 16 = .ok (.putfield 18, 3) := by decide +kernel
theorem dX0_init_19 : decode cX0_init 19 = .ok (.aload_n 0, 1) := by decide +kernel
theorem dX0_init_20 : decode cX0_init 20 = .ok (.iconst 0, 1) := by decide +kernel
theorem dX0_init_21 : decode cX0_init 21 = .ok (.putfield 21, 3) := by decide +kernel
theorem dX0_init_24 : decode cX0_init 24 = .ok (.return_, 1) := by decide +kernel
theorem dX0_becomeLike_0 : decode cX0_becomeLike 0 = .ok (.aload_n 0, 1) := by decide +kernel
theorem dX0_becomeLike_1 : decode cX0_becomeLike 1 = .ok (.aload_n 1, 1) := by decide +kernel
theorem dX0_becomeLike_2 : decode cX0_becomeLike 2 = .ok (.getfield 9, 3) := by decide +kernel
theorem dX0_becomeLike_5 : decode cX0_becomeLike 5 = .ok (.putfield 9, 3) := by decide +kernel
theorem dX0_becomeLike_8 : decode cX0_becomeLike 8 = .ok (.aload_n 0, 1) := by decide +kernel
theorem dX0_becomeLike_9 : decode cX0_becomeLike 9 = .ok (.aload_n 1, 1) := by decide +kernel
theorem dX0_becomeLike_10 : decode cX0_becomeLike 10 = .ok (.getfield 15, 3) := by decide +kernel
theorem dX0_becomeLike_13 : decode cX0_becomeLike 13 = .ok (.putfield 15, 3) := by decide +kernel
theorem dX0_becomeLike_16 : decode cX0_becomeLike 16 = .ok (.aload_n 0, 1) := by decide +kernel
theorem dX0_becomeLike_17 : decode cX0_becomeLike 17 = .ok (.aload_n 1, 1) := by decide +kernel
theorem dX0_becomeLike_18 : decode cX0_becomeLike 18 = .ok (.getfield 18, 3) := by decide +kernel
theorem dX0_becomeLike_21 : decode cX0_becomeLike 21 = .ok (.putfield 18, 3) := by decide +kernel
theorem dX0_becomeLike_24 : decode cX0_becomeLike 24 = .ok (.aload_n 0, 1) := by decide +kernel
theorem dX0_becomeLike_25 : decode cX0_becomeLike 25 = .ok (.aload_n 1, 1) := by decide +kernel
theorem dX0_becomeLike_26 : decode cX0_becomeLike 26 = .ok (.getfield 21, 3) := by decide +kernel
theorem dX0_becomeLike_29 : decode cX0_becomeLike 29 = .ok (.putfield 21, 3) := by decide +kernel
theorem dX0_becomeLike_32 : decode cX0_becomeLike 32 = .ok (.return_, 1) := by decide +kernel
theorem dX0_isOf_0 : decode cX0_isOf 0 = .ok (.iload_n 1, 1) := by decide +kernel
theorem dX0_isOf_1 : decode cX0_isOf 1 = .ok (.ifCond .eq 23, 3) := by decide +kernel
theorem dX0_isOf_4 : decode cX0_isOf 4 = .ok (.aload_n 0, 1) := by decide +kernel
theorem dX0_isOf_5 : decode cX0_isOf 5 = .ok (.getfield 9, 3) := by decide +kernel
theorem dX0_isOf_8 : decode cX0_isOf 8 = .ok (.iload_n 1, 1) := by decide +kernel
theorem dX0_isOf_9 : decode cX0_isOf 9 = .ok (.if_icmp .eq 15, 3) := by decide +kernel
theorem dX0_isOf_12 : decode cX0_isOf 12 = .ok (.getstatic 24, 3) := by decide +kernel
theorem dX0_isOf_15 : decode cX0_isOf 15 = .ok (.aload_n 0, 1) := by decide +kernel
theorem dX0_isOf_16 : decode cX0_isOf 16 = .ok (.getfield 9, 3) := by decide +kernel
theorem dX0_isOf_19 : decode cX0_isOf 19 = .ok (.iaload, 1) := by decide +kernel
theorem dX0_isOf_20 : decode cX0_isOf 20 = .ok (.iload_n 1, 1) := by decide +kernel
theorem dX0_isOf_21 : decode cX0_isOf 21 = .ok (.if_icmp .ne 7, 3) := by decide +kernel
theorem dX0_isOf_24 : decode cX0_isOf 24 = .ok (.iconst 1, 1) := by decide +kernel
theorem dX0_isOf_25 : decode cX0_isOf 25 = .ok (.goto 4, 3) := by decide +kernel
theorem dX0_isOf_28 : decode cX0_isOf 28 = .ok (.iconst 0, 1) := by decide +kernel
theorem dX0_isOf_29 : decode cX0_isOf 29 = .ok (.ireturn, 1) := by decide +kernel
theorem dX0_hasLeaps_0 : decode cX0_hasLeaps 0 = .ok (.aload_n 0, 1) := by decide +kernel
theorem dX0_hasLeaps_1 : decode cX0_hasLeaps 1 = .ok (.iconst 1, 1) := by decide +kernel
theorem dX0_hasLeaps_2 : decode cX0_hasLeaps 2 = .ok (.invokevirtual 28, 3) := by decide +kernel
theorem dX0_hasLeaps_5 : decode cX0_hasLeaps 5 = .ok (.ifCond .eq 17, 3) := by decide +kernel
theorem dX0_hasLeaps_8 : decode cX0_hasLeaps 8 = .ok (.aload_n 0, 1) := by decide +kernel
theorem dX0_hasLeaps_9 : decode cX0_hasLeaps 9 = .ok (.getfield 15, 3) := by decide +kernel
theorem dX0_hasLeaps_12 : decode cX0_hasLeaps 12 = .ok (.invokestatic 32, 3) := by decide +kernel
theorem dX0_hasLeaps_15 : decode cX0_hasLeaps 15 = .ok (.ifCond .eq 7, 3) := by decide +kernel
theorem dX0_hasLeaps_18 : decode cX0_hasLeaps 18 = .ok (.iconst 1, 1) := by decide +kernel
theorem dX0_hasLeaps_19 : decode cX0_hasLeaps 19 = .ok (.goto 4, 3) := by decide +kernel
theorem dX0_hasLeaps_22 : decode cX0_hasLeaps 22 = .ok (.iconst 0, 1) := by decide +kernel
theorem dX0_hasLeaps_23 : decode cX0_hasLeaps 23 = .ok (.ireturn, 1) := by decide +kernel
theorem dX0_timesCut_0 : decode cX0_timesCut 0 = .ok (.getstatic 35, 3) := by decide +kernel
theorem dX0_timesCut_3 : decode cX0_timesCut 3 = .ok (.aload_n 0, 1) := by decide +kernel
theorem dX0_timesCut_4 : decode cX0_timesCut 4 = .ok (.getfield 9, 3) := by decide +kernel
theorem dX0_timesCut_7 : decode cX0_timesCut 7 = .ok (.iaload, 1) := by decide +kernel
theorem dX0_timesCut_8 : decode cX0_timesCut 8 = .ok (.ireturn, 1) := by decide +kernel
theorem dX0_cutsBy_0 : decode cX0_cutsBy 0 = .ok (.aload_n 0, 1) := by decide +kernel
theorem dX0_cutsBy_1 : decode cX0_cutsBy 1 = .ok (.invokevirtual 38, 3) := by decide +kernel
theorem dX0_cutsBy_4 : decode cX0_cutsBy 4 = .ok (.istore_n 2, 1) := by decide +kernel
theorem dX0_cutsBy_5 : decode cX0_cutsBy 5 = .ok (.iload_n 2, 1) := by decide +kernel
theorem dX0_cutsBy_6 : decode cX0_cutsBy 6 = .ok (.ifCond .eq 11, 3) := by decide +kernel
theorem dX0_cutsBy_9 : decode cX0_cutsBy 9 = .ok (.iload_n 1, 1) := by decide +kernel
theorem dX0_cutsBy_10 : decode cX0_cutsBy 10 = .ok (.aload_n 0, 1) := by decide +kernel
theorem dX0_cutsBy_11 : decode cX0_cutsBy 11 = .ok (.getfield 18, 3) := by decide +kernel
theorem dX0_cutsBy_14 : decode cX0_cutsBy 14 = .ok (.if_icmp .ge 5, 3) := by decide +kernel
theorem dX0_cutsBy_17 : decode cX0_cutsBy 17 = .ok (.iconst 0, 1) := by decide +kernel
theorem dX0_cutsBy_18 : decode cX0_cutsBy 18 = .ok (.ireturn, 1) := by decide +kernel
theorem dX0_cutsBy_19 : decode cX0_cutsBy 19 = .ok (.iload_n 2, 1) := by decide +kernel
theorem dX0_cutsBy_20 : decode cX0_cutsBy 20 = .ok (.iconst 1, 1) := by decide +kernel
theorem dX0_cutsBy_21 : decode cX0_cutsBy 21 = .ok (.if_icmp .eq 15, 3) := by decide +kernel
theorem dX0_cutsBy_24 : decode cX0_cutsBy 24 = .ok (.iload_n 1, 1) := by decide +kernel
theorem dX0_cutsBy_25 : decode cX0_cutsBy 25 = .ok (.aload_n 0, 1) := by decide +kernel
theorem dX0_cutsBy_26 : decode cX0_cutsBy 26 = .ok (.getfield 18, 3) := by decide +kernel
theorem dX0_cutsBy_29 : decode cX0_cutsBy 29 = .ok (.sipush 1000, 3) := by decide +kernel
theorem dX0_cutsBy_32 : decode cX0_cutsBy 32 = .ok (.iadd, 1) := by decide +kernel
theorem dX0_cutsBy_33 : decode cX0_cutsBy 33 = .ok (.if_icmp .ge 7, 3) := by decide +kernel
theorem dX0_cutsBy_36 : decode cX0_cutsBy 36 = .ok (.iconst 1, 1) := by decide +kernel
theorem dX0_cutsBy_37 : decode cX0_cutsBy 37 = .ok (.goto 4, 3) := by decide +kernel
theorem dX0_cutsBy_40 : decode cX0_cutsBy 40 = .ok (.iconst 2, 1) := by decide +kernel
theorem dX0_cutsBy_41 : decode cX0_cutsBy 41 = .ok (.ireturn, 1) := by decide +kernel
theorem dX0_dayOfCut_0 : decode cX0_dayOfCut 0 = .ok (.iload_n 1, 1) := by decide +kernel
theorem dX0_dayOfCut_1 : decode cX0_dayOfCut 1 = .ok (.iconst 1, 1) := by decide +kernel
theorem dX0_dayOfCut_2 : decode cX0_dayOfCut 2 = .ok (.if_icmp .ne 10, 3) := by decide +kernel
theorem dX0_dayOfCut_5 : decode cX0_dayOfCut 5 = .ok (.aload_n 0, 1) := by decide +kernel
theorem dX0_dayOfCut_6 : decode cX0_dayOfCut 6 = .ok (.getfield 18, 3) := by decide +kernel
theorem dX0_dayOfCut_9 : decode cX0_dayOfCut 9 = .ok (.goto 11, 3) := by decide +kernel
theorem dX0_dayOfCut_12 : decode cX0_dayOfCut 12 = .ok (.aload_n 0, 1) := by decide +kernel
theorem dX0_dayOfCut_13 : decode cX0_dayOfCut 13 = .ok (.getfield 18, 3) := by decide +kernel
theorem dX0_dayOfCut_16 : decode cX0_dayOfCut 16 = .ok (.sipush 1000, 3) := by decide +kernel
theorem dX0_dayOfCut_19 : decode cX0_dayOfCut 19 = .ok (.iadd, 1) := by decide +kernel
theorem dX0_dayOfCut_20 : decode cX0_dayOfCut 20 = .ok (.ireturn, 1) := by decide +kernel
theorem dX0_firstLeftOut_0 : decode cX0_firstLeftOut 0 = .ok (.aload_n 0, 1) := by decide +kernel
theorem dX0_firstLeftOut_1 : decode cX0_firstLeftOut 1 = .ok (.iload_n 1, 1) := by decide +kernel
theorem dX0_firstLeftOut_2 : decode cX0_firstLeftOut 2 = .ok (.invokevirtual 42, 3) := by decide +kernel
theorem dX0_firstLeftOut_5 : decode cX0_firstLeftOut 5 = .ok (.iload_n 1, 1) := by decide +kernel
theorem dX0_firstLeftOut_6 : decode cX0_firstLeftOut 6 = .ok (.iconst 1, 1) := by decide +kernel
theorem dX0_firstLeftOut_7 : decode cX0_firstLeftOut 7 = .ok (.isub, 1) := by decide +kernel
theorem dX0_firstLeftOut_8 : decode cX0_firstLeftOut 8 = .ok (.aload_n 0, 1) := by decide +kernel
theorem dX0_firstLeftOut_9 : decode cX0_firstLeftOut 9 = .ok (.getfield 21, 3) := by decide +kernel
theorem dX0_firstLeftOut_12 : decode cX0_firstLeftOut 12 = .ok (.imul, 1) := by decide +kernel
theorem dX0_firstLeftOut_13 : decode cX0_firstLeftOut 13 = .ok (.iadd, 1) := by decide +kernel
theorem dX0_firstLeftOut_14 : decode cX0_firstLeftOut 14 = .ok (.ireturn, 1) := by decide +kernel
theorem dX0_countOn_0 : decode cX0_countOn 0 = .ok (.iload_n 1, 1) := by decide +kernel
theorem dX0_countOn_1 : decode cX0_countOn 1 = .ok (.aload_n 0, 1) := by decide +kernel
theorem dX0_countOn_2 : decode cX0_countOn 2 = .ok (.getfield 21, 3) := by decide +kernel
theorem dX0_countOn_5 : decode cX0_countOn 5 = .ok (.aload_n 0, 1) := by decide +kernel
theorem dX0_countOn_6 : decode cX0_countOn 6 = .ok (.iload_n 1, 1) := by decide +kernel
theorem dX0_countOn_7 : decode cX0_countOn 7 = .ok (.invokevirtual 46, 3) := by decide +kernel
theorem dX0_countOn_10 : decode cX0_countOn 10 = .ok (.imul, 1) := by decide +kernel
theorem dX0_countOn_11 : decode cX0_countOn 11 = .ok (.iadd, 1) := by decide +kernel
theorem dX0_countOn_12 : decode cX0_countOn 12 = .ok (.ireturn, 1) := by decide +kernel
theorem dX0_dayOfCount_0 : decode cX0_dayOfCount 0 = .ok (.iconst 0, 1) := by decide +kernel
theorem dX0_dayOfCount_1 : decode cX0_dayOfCount 1 = .ok (.istore_n 2, 1) := by decide +kernel
theorem dX0_dayOfCount_2 : decode cX0_dayOfCount 2 = .ok (.iload_n 2, 1) := by decide +kernel
theorem dX0_dayOfCount_3 : decode cX0_dayOfCount 3 = .ok (.aload_n 0, 1) := by decide +kernel
theorem dX0_dayOfCount_4 : decode cX0_dayOfCount 4 = .ok (.invokevirtual 38, 3) := by decide +kernel
theorem dX0_dayOfCount_7 : decode cX0_dayOfCount 7 = .ok (.if_icmp .gt 40, 3) := by decide +kernel
theorem dX0_dayOfCount_10 : decode cX0_dayOfCount 10 = .ok (.iload_n 1, 1) := by decide +kernel
theorem dX0_dayOfCount_11 : decode cX0_dayOfCount 11 = .ok (.iload_n 2, 1) := by decide +kernel
theorem dX0_dayOfCount_12 : decode cX0_dayOfCount 12 = .ok (.aload_n 0, 1) := by decide +kernel
theorem dX0_dayOfCount_13 : decode cX0_dayOfCount 13 = .ok (.getfield 21, 3) := by decide +kernel
theorem dX0_dayOfCount_16 : decode cX0_dayOfCount 16 = .ok (.imul, 1) := by decide +kernel
theorem dX0_dayOfCount_17 : decode cX0_dayOfCount 17 = .ok (.isub, 1) := by decide +kernel
theorem dX0_dayOfCount_18 : decode cX0_dayOfCount 18 = .ok (.istore_n 3, 1) := by decide +kernel
theorem dX0_dayOfCount_19 : decode cX0_dayOfCount 19 = .ok (.aload_n 0, 1) := by decide +kernel
theorem dX0_dayOfCount_20 : decode cX0_dayOfCount 20 = .ok (.iload_n 3, 1) := by decide +kernel
theorem dX0_dayOfCount_21 : decode cX0_dayOfCount 21 = .ok (.invokevirtual 46, 3) := by decide +kernel
theorem dX0_dayOfCount_24 : decode cX0_dayOfCount 24 = .ok (.iload_n 2, 1) := by decide +kernel
theorem dX0_dayOfCount_25 : decode cX0_dayOfCount 25 = .ok (.if_icmp .ne 16, 3) := by decide +kernel
theorem dX0_dayOfCount_28 : decode cX0_dayOfCount 28 = .ok (.iload_n 3, 1) := by decide +kernel
theorem dX0_dayOfCount_29 : decode cX0_dayOfCount 29 = .ok (.sipush 19999, 3) := by decide +kernel
theorem dX0_dayOfCount_32 : decode cX0_dayOfCount 32 = .ok (.if_icmp .gt 7, 3) := by decide +kernel
theorem dX0_dayOfCount_35 : decode cX0_dayOfCount 35 = .ok (.iload_n 3, 1) := by decide +kernel
theorem dX0_dayOfCount_36 : decode cX0_dayOfCount 36 = .ok (.goto 4, 3) := by decide +kernel
theorem dX0_dayOfCount_39 : decode cX0_dayOfCount 39 = .ok (.iconst (-1), 1) := by decide +kernel
theorem dX0_dayOfCount_40 : decode cX0_dayOfCount 40 = .ok (.ireturn, 1) := by decide +kernel
theorem dX0_dayOfCount_41 : decode cX0_dayOfCount 41 = .ok (.iinc 2 1, 3) := by decide +kernel
theorem dX0_dayOfCount_44 : decode cX0_dayOfCount 44 = .ok (.goto (-42), 3) := by decide +kernel
theorem dX0_dayOfCount_47 : decode cX0_dayOfCount 47 = .ok (.iconst (-1), 1) := by decide +kernel
theorem dX0_dayOfCount_48 : decode cX0_dayOfCount 48 = .ok (.ireturn, 1) := by decide +kernel
theorem dX0_shortLength_0 : decode cX0_shortLength 0 = .ok (.aload_n 0, 1) := by decide +kernel
theorem dX0_shortLength_1 : decode cX0_shortLength 1 = .ok (.getfield 9, 3) := by decide +kernel
theorem dX0_shortLength_4 : decode cX0_shortLength 4 = .ok (.iconst 3, 1) := by decide +kernel
theorem dX0_shortLength_5 : decode cX0_shortLength 5 = .ok (.if_icmp .ne 8, 3) := by decide +kernel
theorem dX0_shortLength_8 : decode cX0_shortLength 8 = .ok (.bipush 98, 2) := by decide +kernel
theorem dX0_shortLength_10 : decode cX0_shortLength 10 = .ok (.goto 5, 3) := by decide +kernel
theorem dX0_shortLength_13 : decode cX0_shortLength 13 = .ok (.bipush 100, 2) := by decide +kernel
theorem dX0_shortLength_15 : decode cX0_shortLength 15 = .ok (.ireturn, 1) := by decide +kernel
theorem dX0_lengthOf_0 : decode cX0_lengthOf 0 = .ok (.aload_n 0, 1) := by decide +kernel
theorem dX0_lengthOf_1 : decode cX0_lengthOf 1 = .ok (.invokevirtual 49, 3) := by decide +kernel
theorem dX0_lengthOf_4 : decode cX0_lengthOf 4 = .ok (.ifCond .eq 17, 3) := by decide +kernel
theorem dX0_lengthOf_7 : decode cX0_lengthOf 7 = .ok (.iload_n 1, 1) := by decide +kernel
theorem dX0_lengthOf_8 : decode cX0_lengthOf 8 = .ok (.aload_n 0, 1) := by decide +kernel
theorem dX0_lengthOf_9 : decode cX0_lengthOf 9 = .ok (.getfield 15, 3) := by decide +kernel
theorem dX0_lengthOf_12 : decode cX0_lengthOf 12 = .ok (.irem, 1) := by decide +kernel
theorem dX0_lengthOf_13 : decode cX0_lengthOf 13 = .ok (.ifCond .ne 8, 3) := by decide +kernel
theorem dX0_lengthOf_16 : decode cX0_lengthOf 16 = .ok (.bipush 101, 2) := by decide +kernel
theorem dX0_lengthOf_18 : decode cX0_lengthOf 18 = .ok (.goto 7, 3) := by decide +kernel
theorem dX0_lengthOf_21 : decode cX0_lengthOf 21 = .ok (.aload_n 0, 1) := by decide +kernel
theorem dX0_lengthOf_22 : decode cX0_lengthOf 22 = .ok (.invokevirtual 53, 3) := by decide +kernel
theorem dX0_lengthOf_25 : decode cX0_lengthOf 25 = .ok (.ireturn, 1) := by decide +kernel
theorem dX0_startOf_0 : decode cX0_startOf 0 = .ok (.aload_n 0, 1) := by decide +kernel
theorem dX0_startOf_1 : decode cX0_startOf 1 = .ok (.invokevirtual 53, 3) := by decide +kernel
theorem dX0_startOf_4 : decode cX0_startOf 4 = .ok (.iload_n 1, 1) := by decide +kernel
theorem dX0_startOf_5 : decode cX0_startOf 5 = .ok (.imul, 1) := by decide +kernel
theorem dX0_startOf_6 : decode cX0_startOf 6 = .ok (.aload_n 0, 1) := by decide +kernel
theorem dX0_startOf_7 : decode cX0_startOf 7 = .ok (.invokevirtual 49, 3) := by decide +kernel
theorem dX0_startOf_10 : decode cX0_startOf 10 = .ok (.ifCond .eq 14, 3) := by decide +kernel
theorem dX0_startOf_13 : decode cX0_startOf 13 = .ok (.iload_n 1, 1) := by decide +kernel
theorem dX0_startOf_14 : decode cX0_startOf 14 = .ok (.aload_n 0, 1) := by decide +kernel
theorem dX0_startOf_15 : decode cX0_startOf 15 = .ok (.getfield 15, 3) := by decide +kernel
theorem dX0_startOf_18 : decode cX0_startOf 18 = .ok (.invokestatic 56, 3) := by decide +kernel
theorem dX0_startOf_21 : decode cX0_startOf 21 = .ok (.goto 4, 3) := by decide +kernel
theorem dX0_startOf_24 : decode cX0_startOf 24 = .ok (.iconst 0, 1) := by decide +kernel
theorem dX0_startOf_25 : decode cX0_startOf 25 = .ok (.iadd, 1) := by decide +kernel
theorem dX0_startOf_26 : decode cX0_startOf 26 = .ok (.ireturn, 1) := by decide +kernel
theorem dX0_dateOfCount_0 : decode cX0_dateOfCount 0 = .ok (.aload_n 0, 1) := by decide +kernel
theorem dX0_dateOfCount_1 : decode cX0_dateOfCount 1 = .ok (.invokevirtual 49, 3) := by decide +kernel
theorem dX0_dateOfCount_4 : decode cX0_dateOfCount 4 = .ok (.ifCond .ne 20, 3) := by decide +kernel
theorem dX0_dateOfCount_7 : decode cX0_dateOfCount 7 = .ok (.aload_n 0, 1) := by decide +kernel
theorem dX0_dateOfCount_8 : decode cX0_dateOfCount 8 = .ok (.invokevirtual 53, 3) := by decide +kernel
theorem dX0_dateOfCount_11 : decode cX0_dateOfCount 11 = .ok (.istore_n 2, 1) := by decide +kernel
theorem dX0_dateOfCount_12 : decode cX0_dateOfCount 12 = .ok (.sipush 1000, 3) := by decide +kernel
theorem dX0_dateOfCount_15 : decode cX0_dateOfCount 15 = .ok (.iload_n 1, 1) := by decide +kernel
theorem dX0_dateOfCount_16 : decode cX0_dateOfCount 16 = .ok (.iload_n 2, 1) := by decide +kernel
theorem dX0_dateOfCount_17 : decode cX0_dateOfCount 17 = .ok (.idiv, 1) := by decide +kernel
theorem dX0_dateOfCount_18 : decode cX0_dateOfCount 18 = .ok (.imul, 1) := by decide +kernel
theorem dX0_dateOfCount_19 : decode cX0_dateOfCount 19 = .ok (.iload_n 1, 1) := by decide +kernel
theorem dX0_dateOfCount_20 : decode cX0_dateOfCount 20 = .ok (.iload_n 2, 1) := by decide +kernel
theorem dX0_dateOfCount_21 : decode cX0_dateOfCount 21 = .ok (.irem, 1) := by decide +kernel
theorem dX0_dateOfCount_22 : decode cX0_dateOfCount 22 = .ok (.iadd, 1) := by decide +kernel
theorem dX0_dateOfCount_23 : decode cX0_dateOfCount 23 = .ok (.ireturn, 1) := by decide +kernel
theorem dX0_dateOfCount_24 : decode cX0_dateOfCount 24 = .ok (.bipush 100, 2) := by decide +kernel
theorem dX0_dateOfCount_26 : decode cX0_dateOfCount 26 = .ok (.aload_n 0, 1) := by decide +kernel
theorem dX0_dateOfCount_27 : decode cX0_dateOfCount 27 = .ok (.getfield 15, 3) := by decide +kernel
theorem dX0_dateOfCount_30 : decode cX0_dateOfCount 30 = .ok (.imul, 1) := by decide +kernel
theorem dX0_dateOfCount_31 : decode cX0_dateOfCount 31 = .ok (.iconst 1, 1) := by decide +kernel
theorem dX0_dateOfCount_32 : decode cX0_dateOfCount 32 = .ok (.iadd, 1) := by decide +kernel
theorem dX0_dateOfCount_33 : decode cX0_dateOfCount 33 = .ok (.istore_n 2, 1) := by decide +kernel
theorem dX0_dateOfCount_34 : decode cX0_dateOfCount 34 = .ok (.iload_n 1, 1) := by decide +kernel
theorem dX0_dateOfCount_35 : decode cX0_dateOfCount 35 = .ok (.iload_n 2, 1) := by decide +kernel
theorem dX0_dateOfCount_36 : decode cX0_dateOfCount 36 = .ok (.idiv, 1) := by decide +kernel
theorem dX0_dateOfCount_37 : decode cX0_dateOfCount 37 = .ok (.aload_n 0, 1) := by decide +kernel
theorem dX0_dateOfCount_38 : decode cX0_dateOfCount 38 = .ok (.getfield 15, 3) := by decide +kernel
theorem dX0_dateOfCount_41 : decode cX0_dateOfCount 41 = .ok (.imul, 1) := by decide +kernel
theorem dX0_dateOfCount_42 : decode cX0_dateOfCount 42 = .ok (.istore_n 3, 1) := by decide +kernel
theorem dX0_dateOfCount_43 : decode cX0_dateOfCount 43 = .ok (.iload_n 1, 1) := by decide +kernel
theorem dX0_dateOfCount_44 : decode cX0_dateOfCount 44 = .ok (.iload_n 2, 1) := by decide +kernel
theorem dX0_dateOfCount_45 : decode cX0_dateOfCount 45 = .ok (.irem, 1) := by decide +kernel
theorem dX0_dateOfCount_46 : decode cX0_dateOfCount 46 = .ok (.istore 4, 2) := by decide +kernel
theorem dX0_dateOfCount_48 : decode cX0_dateOfCount 48 = .ok (.iload 4, 2) := by decide +kernel
theorem dX0_dateOfCount_50 : decode cX0_dateOfCount 50 = .ok (.bipush 101, 2) := by decide +kernel
theorem dX0_dateOfCount_52 : decode cX0_dateOfCount 52 = .ok (.if_icmp .ge 12, 3) := by decide +kernel
theorem dX0_dateOfCount_55 : decode cX0_dateOfCount 55 = .ok (.sipush 1000, 3) := by decide +kernel
theorem dX0_dateOfCount_58 : decode cX0_dateOfCount 58 = .ok (.iload_n 3, 1) := by decide +kernel
theorem dX0_dateOfCount_59 : decode cX0_dateOfCount 59 = .ok (.imul, 1) := by decide +kernel
theorem dX0_dateOfCount_60 : decode cX0_dateOfCount 60 = .ok (.iload 4, 2) := by decide +kernel
theorem dX0_dateOfCount_62 : decode cX0_dateOfCount 62 = .ok (.iadd, 1) := by decide +kernel
theorem dX0_dateOfCount_63 : decode cX0_dateOfCount 63 = .ok (.ireturn, 1) := by decide +kernel
theorem dX0_dateOfCount_64 : decode cX0_dateOfCount 64 = .ok (.sipush 1000, 3) := by decide +kernel
theorem dX0_dateOfCount_67 : decode cX0_dateOfCount 67 = .ok (.iload_n 3, 1) := by decide +kernel
theorem dX0_dateOfCount_68 : decode cX0_dateOfCount 68 = .ok (.iload 4, 2) := by decide +kernel
theorem dX0_dateOfCount_70 : decode cX0_dateOfCount 70 = .ok (.iconst 1, 1) := by decide +kernel
theorem dX0_dateOfCount_71 : decode cX0_dateOfCount 71 = .ok (.isub, 1) := by decide +kernel
theorem dX0_dateOfCount_72 : decode cX0_dateOfCount 72 = .ok (.bipush 100, 2) := by decide +kernel
theorem dX0_dateOfCount_74 : decode cX0_dateOfCount 74 = .ok (.idiv, 1) := by decide +kernel
theorem dX0_dateOfCount_75 : decode cX0_dateOfCount 75 = .ok (.iadd, 1) := by decide +kernel
theorem dX0_dateOfCount_76 : decode cX0_dateOfCount 76 = .ok (.imul, 1) := by decide +kernel
theorem dX0_dateOfCount_77 : decode cX0_dateOfCount 77 = .ok (.iload 4, 2) := by decide +kernel
theorem dX0_dateOfCount_79 : decode cX0_dateOfCount 79 = .ok (.iconst 1, 1) := by decide +kernel
theorem dX0_dateOfCount_80 : decode cX0_dateOfCount 80 = .ok (.isub, 1) := by decide +kernel
theorem dX0_dateOfCount_81 : decode cX0_dateOfCount 81 = .ok (.bipush 100, 2) := by decide +kernel
theorem dX0_dateOfCount_83 : decode cX0_dateOfCount 83 = .ok (.irem, 1) := by decide +kernel
theorem dX0_dateOfCount_84 : decode cX0_dateOfCount 84 = .ok (.iadd, 1) := by decide +kernel
theorem dX0_dateOfCount_85 : decode cX0_dateOfCount 85 = .ok (.ireturn, 1) := by decide +kernel
theorem dX0_dateOn_0 : decode cX0_dateOn 0 = .ok (.aload_n 0, 1) := by decide +kernel
theorem dX0_dateOn_1 : decode cX0_dateOn 1 = .ok (.aload_n 0, 1) := by decide +kernel
theorem dX0_dateOn_2 : decode cX0_dateOn 2 = .ok (.iload_n 1, 1) := by decide +kernel
theorem dX0_dateOn_3 : decode cX0_dateOn 3 = .ok (.invokevirtual 60, 3) := by decide +kernel
theorem dX0_dateOn_6 : decode cX0_dateOn 6 = .ok (.invokevirtual 63, 3) := by decide +kernel
theorem dX0_dateOn_9 : decode cX0_dateOn 9 = .ok (.ireturn, 1) := by decide +kernel
theorem dX0_dayOfDate_0 : decode cX0_dayOfDate 0 = .ok (.iload_n 1, 1) := by decide +kernel
theorem dX0_dayOfDate_1 : decode cX0_dayOfDate 1 = .ok (.ifCond .ge 5, 3) := by decide +kernel
theorem dX0_dayOfDate_4 : decode cX0_dayOfDate 4 = .ok (.iconst (-1), 1) := by decide +kernel
theorem dX0_dayOfDate_5 : decode cX0_dayOfDate 5 = .ok (.ireturn, 1) := by decide +kernel
theorem dX0_dayOfDate_6 : decode cX0_dayOfDate 6 = .ok (.iload_n 1, 1) := by decide +kernel
theorem dX0_dayOfDate_7 : decode cX0_dayOfDate 7 = .ok (.sipush 1000, 3) := by decide +kernel
theorem dX0_dayOfDate_10 : decode cX0_dayOfDate 10 = .ok (.idiv, 1) := by decide +kernel
theorem dX0_dayOfDate_11 : decode cX0_dayOfDate 11 = .ok (.istore_n 2, 1) := by decide +kernel
theorem dX0_dayOfDate_12 : decode cX0_dayOfDate 12 = .ok (.iload_n 1, 1) := by decide +kernel
theorem dX0_dayOfDate_13 : decode cX0_dayOfDate 13 = .ok (.sipush 1000, 3) := by decide +kernel
theorem dX0_dayOfDate_16 : decode cX0_dayOfDate 16 = .ok (.irem, 1) := by decide +kernel
theorem dX0_dayOfDate_17 : decode cX0_dayOfDate 17 = .ok (.istore_n 3, 1) := by decide +kernel
theorem dX0_dayOfDate_18 : decode cX0_dayOfDate 18 = .ok (.iload_n 3, 1) := by decide +kernel
theorem dX0_dayOfDate_19 : decode cX0_dayOfDate 19 = .ok (.aload_n 0, 1) := by decide +kernel
theorem dX0_dayOfDate_20 : decode cX0_dayOfDate 20 = .ok (.iload_n 2, 1) := by decide +kernel
theorem dX0_dayOfDate_21 : decode cX0_dayOfDate 21 = .ok (.invokevirtual 66, 3) := by decide +kernel
theorem dX0_dayOfDate_24 : decode cX0_dayOfDate 24 = .ok (.if_icmp .ge 17, 3) := by decide +kernel
theorem dX0_dayOfDate_27 : decode cX0_dayOfDate 27 = .ok (.aload_n 0, 1) := by decide +kernel
theorem dX0_dayOfDate_28 : decode cX0_dayOfDate 28 = .ok (.aload_n 0, 1) := by decide +kernel
theorem dX0_dayOfDate_29 : decode cX0_dayOfDate 29 = .ok (.iload_n 2, 1) := by decide +kernel
theorem dX0_dayOfDate_30 : decode cX0_dayOfDate 30 = .ok (.invokevirtual 69, 3) := by decide +kernel
theorem dX0_dayOfDate_33 : decode cX0_dayOfDate 33 = .ok (.iload_n 3, 1) := by decide +kernel
theorem dX0_dayOfDate_34 : decode cX0_dayOfDate 34 = .ok (.iadd, 1) := by decide +kernel
theorem dX0_dayOfDate_35 : decode cX0_dayOfDate 35 = .ok (.invokevirtual 72, 3) := by decide +kernel
theorem dX0_dayOfDate_38 : decode cX0_dayOfDate 38 = .ok (.goto 4, 3) := by decide +kernel
theorem dX0_dayOfDate_41 : decode cX0_dayOfDate 41 = .ok (.iconst (-1), 1) := by decide +kernel
theorem dX0_dayOfDate_42 : decode cX0_dayOfDate 42 = .ok (.ireturn, 1) := by decide +kernel
theorem dX0_stretchEndFrom_0 : decode cX0_stretchEndFrom 0 = .ok (.aload_n 0, 1) := by decide +kernel
theorem dX0_stretchEndFrom_1 : decode cX0_stretchEndFrom 1 = .ok (.iload_n 1, 1) := by decide +kernel
theorem dX0_stretchEndFrom_2 : decode cX0_stretchEndFrom 2 = .ok (.invokevirtual 75, 3) := by decide +kernel
theorem dX0_stretchEndFrom_5 : decode cX0_stretchEndFrom 5 = .ok (.istore_n 2, 1) := by decide +kernel
theorem dX0_stretchEndFrom_6 : decode cX0_stretchEndFrom 6 = .ok (.iload_n 1, 1) := by decide +kernel
theorem dX0_stretchEndFrom_7 : decode cX0_stretchEndFrom 7 = .ok (.aload_n 0, 1) := by decide +kernel
theorem dX0_stretchEndFrom_8 : decode cX0_stretchEndFrom 8 = .ok (.iload_n 2, 1) := by decide +kernel
theorem dX0_stretchEndFrom_9 : decode cX0_stretchEndFrom 9 = .ok (.sipush 1000, 3) := by decide +kernel
theorem dX0_stretchEndFrom_12 : decode cX0_stretchEndFrom 12 = .ok (.idiv, 1) := by decide +kernel
theorem dX0_stretchEndFrom_13 : decode cX0_stretchEndFrom 13 = .ok (.invokevirtual 66, 3) := by decide +kernel
theorem dX0_stretchEndFrom_16 : decode cX0_stretchEndFrom 16 = .ok (.iadd, 1) := by decide +kernel
theorem dX0_stretchEndFrom_17 : decode cX0_stretchEndFrom 17 = .ok (.iconst 1, 1) := by decide +kernel
theorem dX0_stretchEndFrom_18 : decode cX0_stretchEndFrom 18 = .ok (.isub, 1) := by decide +kernel
theorem dX0_stretchEndFrom_19 : decode cX0_stretchEndFrom 19 = .ok (.iload_n 2, 1) := by decide +kernel
theorem dX0_stretchEndFrom_20 : decode cX0_stretchEndFrom 20 = .ok (.sipush 1000, 3) := by decide +kernel
theorem dX0_stretchEndFrom_23 : decode cX0_stretchEndFrom 23 = .ok (.irem, 1) := by decide +kernel
theorem dX0_stretchEndFrom_24 : decode cX0_stretchEndFrom 24 = .ok (.isub, 1) := by decide +kernel
theorem dX0_stretchEndFrom_25 : decode cX0_stretchEndFrom 25 = .ok (.istore_n 3, 1) := by decide +kernel
theorem dX0_stretchEndFrom_26 : decode cX0_stretchEndFrom 26 = .ok (.aload_n 0, 1) := by decide +kernel
theorem dX0_stretchEndFrom_27 : decode cX0_stretchEndFrom 27 = .ok (.iload_n 1, 1) := by decide +kernel
theorem dX0_stretchEndFrom_28 : decode cX0_stretchEndFrom 28 = .ok (.invokevirtual 46, 3) := by decide +kernel
theorem dX0_stretchEndFrom_31 : decode cX0_stretchEndFrom 31 = .ok (.iconst 1, 1) := by decide +kernel
theorem dX0_stretchEndFrom_32 : decode cX0_stretchEndFrom 32 = .ok (.iadd, 1) := by decide +kernel
theorem dX0_stretchEndFrom_33 : decode cX0_stretchEndFrom 33 = .ok (.istore 4, 2) := by decide +kernel
theorem dX0_stretchEndFrom_35 : decode cX0_stretchEndFrom 35 = .ok (.iload 4, 2) := by decide +kernel
theorem dX0_stretchEndFrom_37 : decode cX0_stretchEndFrom 37 = .ok (.aload_n 0, 1) := by decide +kernel
theorem dX0_stretchEndFrom_38 : decode cX0_stretchEndFrom 38 = .ok (.invokevirtual 38, 3) := by decide +kernel
theorem dX0_stretchEndFrom_41 : decode cX0_stretchEndFrom 41 = .ok (.if_icmp .le 7, 3) := by decide +kernel
theorem dX0_stretchEndFrom_44 : decode cX0_stretchEndFrom 44 = .ok (.iload_n 3, 1) := by decide +kernel
theorem dX0_stretchEndFrom_45 : decode cX0_stretchEndFrom 45 = .ok (.goto 15, 3) := by decide +kernel
theorem dX0_stretchEndFrom_48 : decode cX0_stretchEndFrom 48 = .ok (.iload_n 3, 1) := by decide +kernel
theorem dX0_stretchEndFrom_49 : decode cX0_stretchEndFrom 49 = .ok (.aload_n 0, 1) := by decide +kernel
theorem dX0_stretchEndFrom_50 : decode cX0_stretchEndFrom 50 = .ok (.iload 4, 2) := by decide +kernel
theorem dX0_stretchEndFrom_52 : decode cX0_stretchEndFrom 52 = .ok (.invokevirtual 42, 3) := by decide +kernel
theorem dX0_stretchEndFrom_55 : decode cX0_stretchEndFrom 55 = .ok (.iconst 1, 1) := by decide +kernel
theorem dX0_stretchEndFrom_56 : decode cX0_stretchEndFrom 56 = .ok (.isub, 1) := by decide +kernel
theorem dX0_stretchEndFrom_57 : decode cX0_stretchEndFrom 57 = .ok (.invokestatic 78, 3) := by decide +kernel
theorem dX0_stretchEndFrom_60 : decode cX0_stretchEndFrom 60 = .ok (.ireturn, 1) := by decide +kernel
theorem dX0_timesAgain_0 : decode cX0_timesAgain 0 = .ok (.iload_n 1, 1) := by decide +kernel
theorem dX0_timesAgain_1 : decode cX0_timesAgain 1 = .ok (.sipush 1000, 3) := by decide +kernel
theorem dX0_timesAgain_4 : decode cX0_timesAgain 4 = .ok (.irem, 1) := by decide +kernel
theorem dX0_timesAgain_5 : decode cX0_timesAgain 5 = .ok (.istore_n 3, 1) := by decide +kernel
theorem dX0_timesAgain_6 : decode cX0_timesAgain 6 = .ok (.aload_n 0, 1) := by decide +kernel
theorem dX0_timesAgain_7 : decode cX0_timesAgain 7 = .ok (.iload_n 2, 1) := by decide +kernel
theorem dX0_timesAgain_8 : decode cX0_timesAgain 8 = .ok (.invokevirtual 75, 3) := by decide +kernel
theorem dX0_timesAgain_11 : decode cX0_timesAgain 11 = .ok (.sipush 1000, 3) := by decide +kernel
theorem dX0_timesAgain_14 : decode cX0_timesAgain 14 = .ok (.idiv, 1) := by decide +kernel
theorem dX0_timesAgain_15 : decode cX0_timesAgain 15 = .ok (.istore 4, 2) := by decide +kernel
theorem dX0_timesAgain_17 : decode cX0_timesAgain 17 = .ok (.iconst 0, 1) := by decide +kernel
theorem dX0_timesAgain_18 : decode cX0_timesAgain 18 = .ok (.istore 5, 2) := by decide +kernel
theorem dX0_timesAgain_20 : decode cX0_timesAgain 20 = .ok (.iload_n 1, 1) := by decide +kernel
theorem dX0_timesAgain_21 : decode cX0_timesAgain 21 = .ok (.sipush 1000, 3) := by decide +kernel
theorem dX0_timesAgain_24 : decode cX0_timesAgain 24 = .ok (.idiv, 1) := by decide +kernel
theorem dX0_timesAgain_25 : decode cX0_timesAgain 25 = .ok (.iconst 1, 1) := by decide +kernel
theorem dX0_timesAgain_26 : decode cX0_timesAgain 26 = .ok (.iadd, 1) := by decide +kernel
theorem dX0_timesAgain_27 : decode cX0_timesAgain 27 = .ok (.istore 6, 2) := by decide +kernel
theorem dX0_timesAgain_29 : decode cX0_timesAgain 29 = .ok (.iload 6, 2) := by decide +kernel
theorem dX0_timesAgain_31 : decode cX0_timesAgain 31 = .ok (.iload 4, 2) := by decide +kernel
theorem dX0_timesAgain_33 : decode cX0_timesAgain 33 = .ok (.if_icmp .gt 38, 3) := by decide +kernel
theorem dX0_timesAgain_36 : decode cX0_timesAgain 36 = .ok (.aload_n 0, 1) := by decide +kernel
theorem dX0_timesAgain_37 : decode cX0_timesAgain 37 = .ok (.sipush 1000, 3) := by decide +kernel
theorem dX0_timesAgain_40 : decode cX0_timesAgain 40 = .ok (.iload 6, 2) := by decide +kernel
theorem dX0_timesAgain_42 : decode cX0_timesAgain 42 = .ok (.imul, 1) := by decide +kernel
theorem dX0_timesAgain_43 : decode cX0_timesAgain 43 = .ok (.iload_n 3, 1) := by decide +kernel
theorem dX0_timesAgain_44 : decode cX0_timesAgain 44 = .ok (.iadd, 1) := by decide +kernel
theorem dX0_timesAgain_45 : decode cX0_timesAgain 45 = .ok (.invokevirtual 83, 3) := by decide +kernel
theorem dX0_timesAgain_48 : decode cX0_timesAgain 48 = .ok (.istore 7, 2) := by decide +kernel
theorem dX0_timesAgain_50 : decode cX0_timesAgain 50 = .ok (.iload 7, 2) := by decide +kernel
theorem dX0_timesAgain_52 : decode cX0_timesAgain 52 = .ok (.iconst (-1), 1) := by decide +kernel
theorem dX0_timesAgain_53 : decode cX0_timesAgain 53 = .ok (.if_icmp .eq 12, 3) := by decide +kernel
theorem dX0_timesAgain_56 : decode cX0_timesAgain 56 = .ok (.iload 7, 2) := by decide +kernel
theorem dX0_timesAgain_58 : decode cX0_timesAgain 58 = .ok (.iload_n 2, 1) := by decide +kernel
theorem dX0_timesAgain_59 : decode cX0_timesAgain 59 = .ok (.if_icmp .gt 6, 3) := by decide +kernel
theorem dX0_timesAgain_62 : decode cX0_timesAgain 62 = .ok (.iinc 5 1, 3) := by decide +kernel
theorem dX0_timesAgain_65 : decode cX0_timesAgain 65 = .ok (.iinc 6 1, 3) := by decide +kernel
theorem dX0_timesAgain_68 : decode cX0_timesAgain 68 = .ok (.goto (-39), 3) := by decide +kernel
theorem dX0_timesAgain_71 : decode cX0_timesAgain 71 = .ok (.iload 5, 2) := by decide +kernel
theorem dX0_timesAgain_73 : decode cX0_timesAgain 73 = .ok (.ireturn, 1) := by decide +kernel
theorem dX0_markOf_0 : decode cX0_markOf 0 = .ok (.iload_n 1, 1) := by decide +kernel
theorem dX0_markOf_1 : decode cX0_markOf 1 = .ok (.tableswitch 101 1 4 #[31, 67, 78, 90], 31) := by decide +kernel
theorem dX0_markOf_32 : decode cX0_markOf 32 = .ok (.aload_n 0, 1) := by decide +kernel
theorem dX0_markOf_33 : decode cX0_markOf 33 = .ok (.invokevirtual 49, 3) := by decide +kernel
theorem dX0_markOf_36 : decode cX0_markOf 36 = .ok (.ifCond .eq 30, 3) := by decide +kernel
theorem dX0_markOf_39 : decode cX0_markOf 39 = .ok (.aload_n 0, 1) := by decide +kernel
theorem dX0_markOf_40 : decode cX0_markOf 40 = .ok (.getfield 15, 3) := by decide +kernel
theorem dX0_markOf_43 : decode cX0_markOf 43 = .ok (.aload_n 0, 1) := by decide +kernel
theorem dX0_markOf_44 : decode cX0_markOf 44 = .ok (.iload_n 2, 1) := by decide +kernel
theorem dX0_markOf_45 : decode cX0_markOf 45 = .ok (.invokevirtual 75, 3) := by decide +kernel
theorem dX0_markOf_48 : decode cX0_markOf 48 = .ok (.sipush 1000, 3) := by decide +kernel
theorem dX0_markOf_51 : decode cX0_markOf 51 = .ok (.idiv, 1) := by decide +kernel
theorem dX0_markOf_52 : decode cX0_markOf 52 = .ok (.aload_n 0, 1) := by decide +kernel
theorem dX0_markOf_53 : decode cX0_markOf 53 = .ok (.getfield 15, 3) := by decide +kernel
theorem dX0_markOf_56 : decode cX0_markOf 56 = .ok (.irem, 1) := by decide +kernel
theorem dX0_markOf_57 : decode cX0_markOf 57 = .ok (.isub, 1) := by decide +kernel
theorem dX0_markOf_58 : decode cX0_markOf 58 = .ok (.aload_n 0, 1) := by decide +kernel
theorem dX0_markOf_59 : decode cX0_markOf 59 = .ok (.getfield 15, 3) := by decide +kernel
theorem dX0_markOf_62 : decode cX0_markOf 62 = .ok (.irem, 1) := by decide +kernel
theorem dX0_markOf_63 : decode cX0_markOf 63 = .ok (.goto 4, 3) := by decide +kernel
theorem dX0_markOf_66 : decode cX0_markOf 66 = .ok (.iconst 0, 1) := by decide +kernel
theorem dX0_markOf_67 : decode cX0_markOf 67 = .ok (.ireturn, 1) := by decide +kernel
theorem dX0_markOf_68 : decode cX0_markOf 68 = .ok (.iconst 0, 1) := by decide +kernel
theorem dX0_markOf_69 : decode cX0_markOf 69 = .ok (.aload_n 0, 1) := by decide +kernel
theorem dX0_markOf_70 : decode cX0_markOf 70 = .ok (.getfield 18, 3) := by decide +kernel
theorem dX0_markOf_73 : decode cX0_markOf 73 = .ok (.iload_n 2, 1) := by decide +kernel
theorem dX0_markOf_74 : decode cX0_markOf 74 = .ok (.isub, 1) := by decide +kernel
theorem dX0_markOf_75 : decode cX0_markOf 75 = .ok (.invokestatic 86, 3) := by decide +kernel
theorem dX0_markOf_78 : decode cX0_markOf 78 = .ok (.ireturn, 1) := by decide +kernel
theorem dX0_markOf_79 : decode cX0_markOf 79 = .ok (.aload_n 0, 1) := by decide +kernel
theorem dX0_markOf_80 : decode cX0_markOf 80 = .ok (.iload_n 2, 1) := by decide +kernel
theorem dX0_markOf_81 : decode cX0_markOf 81 = .ok (.invokevirtual 75, 3) := by decide +kernel
theorem dX0_markOf_84 : decode cX0_markOf 84 = .ok (.sipush 1000, 3) := by decide +kernel
theorem dX0_markOf_87 : decode cX0_markOf 87 = .ok (.idiv, 1) := by decide +kernel
theorem dX0_markOf_88 : decode cX0_markOf 88 = .ok (.iconst 1, 1) := by decide +kernel
theorem dX0_markOf_89 : decode cX0_markOf 89 = .ok (.iadd, 1) := by decide +kernel
theorem dX0_markOf_90 : decode cX0_markOf 90 = .ok (.ireturn, 1) := by decide +kernel
theorem dX0_markOf_91 : decode cX0_markOf 91 = .ok (.aload_n 0, 1) := by decide +kernel
theorem dX0_markOf_92 : decode cX0_markOf 92 = .ok (.getfield 21, 3) := by decide +kernel
theorem dX0_markOf_95 : decode cX0_markOf 95 = .ok (.aload_n 0, 1) := by decide +kernel
theorem dX0_markOf_96 : decode cX0_markOf 96 = .ok (.iload_n 2, 1) := by decide +kernel
theorem dX0_markOf_97 : decode cX0_markOf 97 = .ok (.invokevirtual 46, 3) := by decide +kernel
theorem dX0_markOf_100 : decode cX0_markOf 100 = .ok (.imul, 1) := by decide +kernel
theorem dX0_markOf_101 : decode cX0_markOf 101 = .ok (.ireturn, 1) := by decide +kernel
theorem dX0_markOf_102 : decode cX0_markOf 102 = .ok (.aload_n 0, 1) := by decide +kernel
theorem dX0_markOf_103 : decode cX0_markOf 103 = .ok (.getfield 21, 3) := by decide +kernel
theorem dX0_markOf_106 : decode cX0_markOf 106 = .ok (.ifCond .ne 7, 3) := by decide +kernel
theorem dX0_markOf_109 : decode cX0_markOf 109 = .ok (.iconst 0, 1) := by decide +kernel
theorem dX0_markOf_110 : decode cX0_markOf 110 = .ok (.goto 8, 3) := by decide +kernel
theorem dX0_markOf_113 : decode cX0_markOf 113 = .ok (.aload_n 0, 1) := by decide +kernel
theorem dX0_markOf_114 : decode cX0_markOf 114 = .ok (.iload_n 2, 1) := by decide +kernel
theorem dX0_markOf_115 : decode cX0_markOf 115 = .ok (.invokevirtual 46, 3) := by decide +kernel
theorem dX0_markOf_118 : decode cX0_markOf 118 = .ok (.ireturn, 1) := by decide +kernel
theorem dX1_init_0 : decode cX1_init 0 = .ok (.aload_n 0, 1) := by decide +kernel
theorem dX1_init_1 : decode cX1_init 1 = .ok (.invokespecial 3, 3) := by decide +kernel
theorem dX1_init_4 : decode cX1_init 4 = .ok (.aload_n 0, 1) := by decide +kernel
theorem dX1_init_5 : decode cX1_init 5 = .ok (.iconst 5, 1) := by decide +kernel
theorem dX1_init_6 : decode cX1_init 6 = .ok (.newarray .int, 2) := by decide +kernel
theorem dX1_init_8 : decode cX1_init 8 = .ok (.putfield 9, 3) := by decide +kernel
theorem dX1_init_11 : decode cX1_init 11 = .ok (.aload_n 0, 1) := by decide +kernel
theorem dX1_init_12 : decode cX1_init 12 = .ok (.iconst 5, 1) := by decide +kernel
theorem dX1_init_13 : decode cX1_init 13 = .ok (.newarray .int, 2) := by decide +kernel
theorem dX1_init_15 : decode cX1_init 15 = .ok (.putfield 15, 3) := by decide +kernel
theorem dX1_init_18 : decode cX1_init 18 = .ok (.aload_n 0, 1) := by decide +kernel
theorem dX1_init_19 : decode cX1_init 19 = .ok (.iconst 5, 1) := by decide +kernel
theorem dX1_init_20 : decode cX1_init 20 = .ok (.newarray .int, 2) := by decide +kernel
theorem dX1_init_22 : decode cX1_init 22 = .ok (.putfield 18, 3) := by decide +kernel
theorem dX1_init_25 : decode cX1_init 25 = .ok (.aload_n 0, 1) := by decide +kernel
theorem dX1_init_26 : decode cX1_init 26 = .ok (.iconst 0, 1) := by decide +kernel
theorem dX1_init_27 : decode cX1_init 27 = .ok (.putfield 21, 3) := by decide +kernel
theorem dX1_init_30 : decode cX1_init 30 = .ok (.aload_n 0, 1) := by decide +kernel
theorem dX1_init_31 : decode cX1_init 31 = .ok (.iconst 0, 1) := by decide +kernel
theorem dX1_init_32 : decode cX1_init 32 = .ok (.putfield 25, 3) := by decide +kernel
theorem dX1_init_35 : decode cX1_init 35 = .ok (.return_, 1) := by decide +kernel
theorem dX1_take_0 : decode cX1_take 0 = .ok (.aload_n 0, 1) := by decide +kernel
theorem dX1_take_1 : decode cX1_take 1 = .ok (.iconst 1, 1) := by decide +kernel
theorem dX1_take_2 : decode cX1_take 2 = .ok (.putfield 21, 3) := by decide +kernel
theorem dX1_take_5 : decode cX1_take 5 = .ok (.aload_n 0, 1) := by decide +kernel
theorem dX1_take_6 : decode cX1_take 6 = .ok (.iload_n 2, 1) := by decide +kernel
theorem dX1_take_7 : decode cX1_take 7 = .ok (.putfield 25, 3) := by decide +kernel
theorem dX1_take_10 : decode cX1_take 10 = .ok (.iconst 0, 1) := by decide +kernel
theorem dX1_take_11 : decode cX1_take 11 = .ok (.istore_n 3, 1) := by decide +kernel
theorem dX1_take_12 : decode cX1_take 12 = .ok (.iload_n 3, 1) := by decide +kernel
theorem dX1_take_13 : decode cX1_take 13 = .ok (.iconst 5, 1) := by decide +kernel
theorem dX1_take_14 : decode cX1_take 14 = .ok (.if_icmp .ge 51, 3) := by decide +kernel
theorem dX1_take_17 : decode cX1_take 17 = .ok (.iload_n 3, 1) := by decide +kernel
theorem dX1_take_18 : decode cX1_take 18 = .ok (.aload_n 1, 1) := by decide +kernel
theorem dX1_take_19 : decode cX1_take 19 = .ok (.arraylength, 1) := by decide +kernel
theorem dX1_take_20 : decode cX1_take 20 = .ok (.if_icmp .ge 45, 3) := by decide +kernel
theorem dX1_take_23 : decode cX1_take 23 = .ok (.aload_n 0, 1) := by decide +kernel
theorem dX1_take_24 : decode cX1_take 24 = .ok (.getfield 9, 3) := by decide +kernel
theorem dX1_take_27 : decode cX1_take 27 = .ok (.iload_n 3, 1) := by decide +kernel
theorem dX1_take_28 : decode cX1_take 28 = .ok (.aload_n 1, 1) := by decide +kernel
theorem dX1_take_29 : decode cX1_take 29 = .ok (.iload_n 3, 1) := by decide +kernel
theorem dX1_take_30 : decode cX1_take 30 = .ok (.aaload, 1) := by decide +kernel
theorem dX1_take_31 : decode cX1_take 31 = .ok (.getfield 29, 3) := by decide +kernel
theorem dX1_take_34 : decode cX1_take 34 = .ok (.iastore, 1) := by decide +kernel
theorem dX1_take_35 : decode cX1_take 35 = .ok (.aload_n 0, 1) := by decide +kernel
theorem dX1_take_36 : decode cX1_take 36 = .ok (.getfield 15, 3) := by decide +kernel
theorem dX1_take_39 : decode cX1_take 39 = .ok (.iload_n 3, 1) := by decide +kernel
theorem dX1_take_40 : decode cX1_take 40 = .ok (.aload_n 1, 1) := by decide +kernel
theorem dX1_take_41 : decode cX1_take 41 = .ok (.iload_n 3, 1) := by decide +kernel
theorem dX1_take_42 : decode cX1_take 42 = .ok (.aaload, 1) := by decide +kernel
theorem dX1_take_43 : decode cX1_take 43 = .ok (.getfield 34, 3) := by decide +kernel
theorem dX1_take_46 : decode cX1_take 46 = .ok (.iastore, 1) := by decide +kernel
theorem dX1_take_47 : decode cX1_take 47 = .ok (.aload_n 0, 1) := by decide +kernel
theorem dX1_take_48 : decode cX1_take 48 = .ok (.getfield 18, 3) := by decide +kernel
theorem dX1_take_51 : decode cX1_take 51 = .ok (.iload_n 3, 1) := by decide +kernel
theorem dX1_take_52 : decode cX1_take 52 = .ok (.aload_n 1, 1) := by decide +kernel
theorem dX1_take_53 : decode cX1_take 53 = .ok (.iload_n 3, 1) := by decide +kernel
theorem dX1_take_54 : decode cX1_take 54 = .ok (.aaload, 1) := by decide +kernel
theorem dX1_take_55 : decode cX1_take 55 = .ok (.getfield 37, 3) := by decide +kernel
theorem dX1_take_58 : decode cX1_take 58 = .ok (.iastore, 1) := by decide +kernel
theorem dX1_take_59 : decode cX1_take 59 = .ok (.iinc 3 1, 3) := by decide +kernel
theorem dX1_take_62 : decode cX1_take 62 = .ok (.goto (-50), 3) := by decide +kernel
theorem dX1_take_65 : decode cX1_take 65 = .ok (.return_, 1) := by decide +kernel
theorem dX1_giveBack_0 : decode cX1_giveBack 0 = .ok (.iconst 0, 1) := by decide +kernel
theorem dX1_giveBack_1 : decode cX1_giveBack 1 = .ok (.istore_n 2, 1) := by decide +kernel
theorem dX1_giveBack_2 : decode cX1_giveBack 2 = .ok (.iload_n 2, 1) := by decide +kernel
theorem dX1_giveBack_3 : decode cX1_giveBack 3 = .ok (.iconst 5, 1) := by decide +kernel
theorem dX1_giveBack_4 : decode cX1_giveBack 4 = .ok (.if_icmp .ge 51, 3) := by decide +kernel
theorem dX1_giveBack_7 : decode cX1_giveBack 7 = .ok (.iload_n 2, 1) := by decide +kernel
theorem dX1_giveBack_8 : decode cX1_giveBack 8 = .ok (.aload_n 1, 1) := by decide +kernel
theorem dX1_giveBack_9 : decode cX1_giveBack 9 = .ok (.arraylength, 1) := by decide +kernel
theorem dX1_giveBack_10 : decode cX1_giveBack 10 = .ok (.if_icmp .ge 45, 3) := by decide +kernel
theorem dX1_giveBack_13 : decode cX1_giveBack 13 = .ok (.aload_n 1, 1) := by decide +kernel
theorem dX1_giveBack_14 : decode cX1_giveBack 14 = .ok (.iload_n 2, 1) := by decide +kernel
theorem dX1_giveBack_15 : decode cX1_giveBack 15 = .ok (.aaload, 1) := by decide +kernel
theorem dX1_giveBack_16 : decode cX1_giveBack 16 = .ok (.aload_n 0, 1) := by decide +kernel
theorem dX1_giveBack_17 : decode cX1_giveBack 17 = .ok (.getfield 9, 3) := by decide +kernel
theorem dX1_giveBack_20 : decode cX1_giveBack 20 = .ok (.iload_n 2, 1) := by decide +kernel
theorem dX1_giveBack_21 : decode cX1_giveBack 21 = .ok (.iaload, 1) := by decide +kernel
theorem dX1_giveBack_22 : decode cX1_giveBack 22 = .ok (.putfield 29, 3) := by decide +kernel
theorem dX1_giveBack_25 : decode cX1_giveBack 25 = .ok (.aload_n 1, 1) := by decide +kernel
theorem dX1_giveBack_26 : decode cX1_giveBack 26 = .ok (.iload_n 2, 1) := by decide +kernel
theorem dX1_giveBack_27 : decode cX1_giveBack 27 = .ok (.aaload, 1) := by decide +kernel
theorem dX1_giveBack_28 : decode cX1_giveBack 28 = .ok (.aload_n 0, 1) := by decide +kernel
theorem dX1_giveBack_29 : decode cX1_giveBack 29 = .ok (.getfield 15, 3) := by decide +kernel
theorem dX1_giveBack_32 : decode cX1_giveBack 32 = .ok (.iload_n 2, 1) := by decide +kernel
theorem dX1_giveBack_33 : decode cX1_giveBack 33 = .ok (.iaload, 1) := by decide +kernel
theorem dX1_giveBack_34 : decode cX1_giveBack 34 = .ok (.putfield 34, 3) := by decide +kernel
theorem dX1_giveBack_37 : decode cX1_giveBack 37 = .ok (.aload_n 1, 1) := by decide +kernel
theorem dX1_giveBack_38 : decode cX1_giveBack 38 = .ok (.iload_n 2, 1) := by decide +kernel
theorem dX1_giveBack_39 : decode cX1_giveBack 39 = .ok (.aaload, 1) := by decide +kernel
theorem dX1_giveBack_40 : decode cX1_giveBack 40 = .ok (.aload_n 0, 1) := by decide +kernel
theorem dX1_giveBack_41 : decode cX1_giveBack 41 = .ok (.getfield 18, 3) := by decide +kernel
theorem dX1_giveBack_44 : decode cX1_giveBack 44 = .ok (.iload_n 2, 1) := by decide +kernel
theorem dX1_giveBack_45 : decode cX1_giveBack 45 = .ok (.iaload, 1) := by decide +kernel
theorem dX1_giveBack_46 : decode cX1_giveBack 46 = .ok (.putfield 37, 3) := by decide +kernel
theorem dX1_giveBack_49 : decode cX1_giveBack 49 = .ok (.iinc 2 1, 3) := by decide +kernel
theorem dX1_giveBack_52 : decode cX1_giveBack 52 = .ok (.goto (-50), 3) := by decide +kernel
theorem dX1_giveBack_55 : decode cX1_giveBack 55 = .ok (.return_, 1) := by decide +kernel
theorem dX2_init_0 : decode cX2_init 0 = .ok (.aload_n 0, 1) := by decide +kernel
theorem dX2_init_1 : decode cX2_init 1 = .ok (.invokespecial 3, 3) := by decide +kernel
theorem dX2_init_4 : decode cX2_init 4 = .ok (.aload_n 0, 1) := by decide +kernel
theorem dX2_init_5 : decode cX2_init 5 = .ok (.bipush 40, 2) := by decide +kernel
theorem dX2_init_7 : decode cX2_init 7 = .ok (.newarray .int, 2) := by decide +kernel
theorem dX2_init_9 : decode cX2_init 9 = .ok (.putfield 9, 3) := by decide +kernel
theorem dX2_init_12 : decode cX2_init 12 = .ok (.aload_n 0, 1) := by decide +kernel
theorem dX2_init_13 : decode cX2_init 13 = .ok (.iconst (-1), 1) := by decide +kernel
theorem dX2_init_14 : decode cX2_init 14 = .ok (.putfield 15, 3) := by decide +kernel
theorem dX2_init_17 : decode cX2_init 17 = .ok (.return_, 1) := by decide +kernel
theorem dX2_renew_0 : decode cX2_renew 0 = .ok (.aload_n 0, 1) := by decide +kernel
theorem dX2_renew_1 : decode cX2_renew 1 = .ok (.iload_n 1, 1) := by decide +kernel
theorem dX2_renew_2 : decode cX2_renew 2 = .ok (.putfield 15, 3) := by decide +kernel
theorem dX2_renew_5 : decode cX2_renew 5 = .ok (.iconst 0, 1) := by decide +kernel
theorem dX2_renew_6 : decode cX2_renew 6 = .ok (.istore_n 2, 1) := by decide +kernel
theorem dX2_renew_7 : decode cX2_renew 7 = .ok (.iload_n 2, 1) := by decide +kernel
theorem dX2_renew_8 : decode cX2_renew 8 = .ok (.bipush 40, 2) := by decide +kernel
theorem dX2_renew_10 : decode cX2_renew 10 = .ok (.if_icmp .ge 16, 3) := by decide +kernel
theorem dX2_renew_13 : decode cX2_renew 13 = .ok (.aload_n 0, 1) := by decide +kernel
theorem dX2_renew_14 : decode cX2_renew 14 = .ok (.getfield 9, 3) := by decide +kernel
theorem dX2_renew_17 : decode cX2_renew 17 = .ok (.iload_n 2, 1) := by decide +kernel
theorem dX2_renew_18 : decode cX2_renew 18 = .ok (.iconst 0, 1) := by decide +kernel
theorem dX2_renew_19 : decode cX2_renew 19 = .ok (.iastore, 1) := by decide +kernel
theorem dX2_renew_20 : decode cX2_renew 20 = .ok (.iinc 2 1, 3) := by decide +kernel
theorem dX2_renew_23 : decode cX2_renew 23 = .ok (.goto (-16), 3) := by decide +kernel
theorem dX2_renew_26 : decode cX2_renew 26 = .ok (.return_, 1) := by decide +kernel
theorem dX2_add_0 : decode cX2_add 0 = .ok (.aload_n 0, 1) := by decide +kernel
theorem dX2_add_1 : decode cX2_add 1 = .ok (.getfield 15, 3) := by decide +kernel
theorem dX2_add_4 : decode cX2_add 4 = .ok (.ifCond .lt 32, 3) := by decide +kernel
theorem dX2_add_7 : decode cX2_add 7 = .ok (.aload_n 0, 1) := by decide +kernel
theorem dX2_add_8 : decode cX2_add 8 = .ok (.getfield 15, 3) := by decide +kernel
theorem dX2_add_11 : decode cX2_add 11 = .ok (.bipush 40, 2) := by decide +kernel
theorem dX2_add_13 : decode cX2_add 13 = .ok (.if_icmp .ge 23, 3) := by decide +kernel
theorem dX2_add_16 : decode cX2_add 16 = .ok (.aload_n 0, 1) := by decide +kernel
theorem dX2_add_17 : decode cX2_add 17 = .ok (.getfield 9, 3) := by decide +kernel
theorem dX2_add_20 : decode cX2_add 20 = .ok (.aload_n 0, 1) := by decide +kernel
theorem dX2_add_21 : decode cX2_add 21 = .ok (.getfield 15, 3) := by decide +kernel
theorem dX2_add_24 : decode cX2_add 24 = .ok (.iload_n 1, 1) := by decide +kernel
theorem dX2_add_25 : decode cX2_add 25 = .ok (.iastore, 1) := by decide +kernel
theorem dX2_add_26 : decode cX2_add 26 = .ok (.aload_n 0, 1) := by decide +kernel
theorem dX2_add_27 : decode cX2_add 27 = .ok (.dup, 1) := by decide +kernel
theorem dX2_add_28 : decode cX2_add 28 = .ok (.getfield 15, 3) := by decide +kernel
theorem dX2_add_31 : decode cX2_add 31 = .ok (.iconst 1, 1) := by decide +kernel
theorem dX2_add_32 : decode cX2_add 32 = .ok (.iadd, 1) := by decide +kernel
theorem dX2_add_33 : decode cX2_add 33 = .ok (.putfield 15, 3) := by decide +kernel
theorem dX2_add_36 : decode cX2_add 36 = .ok (.return_, 1) := by decide +kernel
theorem dX2_holds_0 : decode cX2_holds 0 = .ok (.iload_n 1, 1) := by decide +kernel
theorem dX2_holds_1 : decode cX2_holds 1 = .ok (.ifCond .lt 17, 3) := by decide +kernel
theorem dX2_holds_4 : decode cX2_holds 4 = .ok (.iload_n 2, 1) := by decide +kernel
theorem dX2_holds_5 : decode cX2_holds 5 = .ok (.aload_n 0, 1) := by decide +kernel
theorem dX2_holds_6 : decode cX2_holds 6 = .ok (.getfield 15, 3) := by decide +kernel
theorem dX2_holds_9 : decode cX2_holds 9 = .ok (.iload_n 1, 1) := by decide +kernel
theorem dX2_holds_10 : decode cX2_holds 10 = .ok (.isub, 1) := by decide +kernel
theorem dX2_holds_11 : decode cX2_holds 11 = .ok (.if_icmp .gt 7, 3) := by decide +kernel
theorem dX2_holds_14 : decode cX2_holds 14 = .ok (.iconst 1, 1) := by decide +kernel
theorem dX2_holds_15 : decode cX2_holds 15 = .ok (.goto 4, 3) := by decide +kernel
theorem dX2_holds_18 : decode cX2_holds 18 = .ok (.iconst 0, 1) := by decide +kernel
theorem dX2_holds_19 : decode cX2_holds 19 = .ok (.ireturn, 1) := by decide +kernel
theorem dX2_sum_0 : decode cX2_sum 0 = .ok (.lconst 0, 1) := by decide +kernel
theorem dX2_sum_1 : decode cX2_sum 1 = .ok (.lstore_n 1, 1) := by decide +kernel
theorem dX2_sum_2 : decode cX2_sum 2 = .ok (.iconst 0, 1) := by decide +kernel
theorem dX2_sum_3 : decode cX2_sum 3 = .ok (.istore_n 3, 1) := by decide +kernel
theorem dX2_sum_4 : decode cX2_sum 4 = .ok (.iload_n 3, 1) := by decide +kernel
theorem dX2_sum_5 : decode cX2_sum 5 = .ok (.aload_n 0, 1) := by decide +kernel
theorem dX2_sum_6 : decode cX2_sum 6 = .ok (.getfield 15, 3) := by decide +kernel
theorem dX2_sum_9 : decode cX2_sum 9 = .ok (.if_icmp .ge 19, 3) := by decide +kernel
theorem dX2_sum_12 : decode cX2_sum 12 = .ok (.lload_n 1, 1) := by decide +kernel
theorem dX2_sum_13 : decode cX2_sum 13 = .ok (.aload_n 0, 1) := by decide +kernel
theorem dX2_sum_14 : decode cX2_sum 14 = .ok (.getfield 9, 3) := by decide +kernel
theorem dX2_sum_17 : decode cX2_sum 17 = .ok (.iload_n 3, 1) := by decide +kernel
theorem dX2_sum_18 : decode cX2_sum 18 = .ok (.iaload, 1) := by decide +kernel
theorem dX2_sum_19 : decode cX2_sum 19 = .ok (.i2l, 1) := by decide +kernel
theorem dX2_sum_20 : decode cX2_sum 20 = .ok (.ladd, 1) := by decide +kernel
theorem dX2_sum_21 : decode cX2_sum 21 = .ok (.lstore_n 1, 1) := by decide +kernel
theorem dX2_sum_22 : decode cX2_sum 22 = .ok (.iinc 3 1, 3) := by decide +kernel
theorem dX2_sum_25 : decode cX2_sum 25 = .ok (.goto (-21), 3) := by decide +kernel
theorem dX2_sum_28 : decode cX2_sum 28 = .ok (.lload_n 1, 1) := by decide +kernel
theorem dX2_sum_29 : decode cX2_sum 29 = .ok (.lreturn, 1) := by decide +kernel
theorem dX2_digestFrom_0 : decode cX2_digestFrom 0 = .ok (.ldc2_w 19, 3) := by decide +kernel
theorem dX2_digestFrom_3 : decode cX2_digestFrom 3 = .ok (.lload_n 1, 1) := by decide +kernel
theorem dX2_digestFrom_4 : decode cX2_digestFrom 4 = .ok (.lmul, 1) := by decide +kernel
theorem dX2_digestFrom_5 : decode cX2_digestFrom 5 = .ok (.aload_n 0, 1) := by decide +kernel
theorem dX2_digestFrom_6 : decode cX2_digestFrom 6 = .ok (.getfield 15, 3) := by decide +kernel
theorem dX2_digestFrom_9 : decode cX2_digestFrom 9 = .ok (.i2l, 1) := by decide +kernel
theorem dX2_digestFrom_10 : decode cX2_digestFrom 10 = .ok (.ladd, 1) := by decide +kernel
theorem dX2_digestFrom_11 : decode cX2_digestFrom 11 = .ok (.lstore_n 3, 1) := by decide +kernel
theorem dX2_digestFrom_12 : decode cX2_digestFrom 12 = .ok (.iconst 0, 1) := by decide +kernel
theorem dX2_digestFrom_13 : decode cX2_digestFrom 13 = .ok (.istore 5, 2) := by decide +kernel
theorem dX2_digestFrom_15 : decode cX2_digestFrom 15 = .ok (.iload 5, 2) := by decide +kernel
theorem dX2_digestFrom_17 : decode cX2_digestFrom 17 = .ok (.aload_n 0, 1) := by decide +kernel
theorem dX2_digestFrom_18 : decode cX2_digestFrom 18 = .ok (.getfield 15, 3) := by decide +kernel
theorem dX2_digestFrom_21 : decode cX2_digestFrom 21 = .ok (.if_icmp .ge 24, 3) := by decide +kernel
theorem dX2_digestFrom_24 : decode cX2_digestFrom 24 = .ok (.ldc2_w 19, 3) := by decide +kernel
theorem dX2_digestFrom_27 : decode cX2_digestFrom 27 = .ok (.lload_n 3, 1) := by decide +kernel
theorem dX2_digestFrom_28 : decode cX2_digestFrom 28 = .ok (.lmul, 1) := by decide +kernel
theorem dX2_digestFrom_29 : decode cX2_digestFrom 29 = .ok (.aload_n 0, 1) := by decide +kernel
theorem dX2_digestFrom_30 : decode cX2_digestFrom 30 = .ok (.getfield 9, 3) := by decide +kernel
theorem dX2_digestFrom_33 : decode cX2_digestFrom 33 = .ok (.iload 5, 2) := by decide +kernel
theorem dX2_digestFrom_35 : decode cX2_digestFrom 35 = .ok (.iaload, 1) := by decide +kernel
theorem dX2_digestFrom_36 : decode cX2_digestFrom 36 = .ok (.i2l, 1) := by decide +kernel
theorem dX2_digestFrom_37 : decode cX2_digestFrom 37 = .ok (.ladd, 1) := by decide +kernel
theorem dX2_digestFrom_38 : decode cX2_digestFrom 38 = .ok (.lstore_n 3, 1) := by decide +kernel
theorem dX2_digestFrom_39 : decode cX2_digestFrom 39 = .ok (.iinc 5 1, 3) := by decide +kernel
theorem dX2_digestFrom_42 : decode cX2_digestFrom 42 = .ok (.goto (-27), 3) := by decide +kernel
theorem dX2_digestFrom_45 : decode cX2_digestFrom 45 = .ok (.lload_n 3, 1) := by decide +kernel
theorem dX2_digestFrom_46 : decode cX2_digestFrom 46 = .ok (.lreturn, 1) := by decide +kernel
theorem dX3_init_0 : decode cX3_init 0 = .ok (.aload_n 0, 1) := by decide +kernel
theorem dX3_init_1 : decode cX3_init 1 = .ok (.invokespecial 3, 3) := by decide +kernel
theorem dX3_init_4 : decode cX3_init 4 = .ok (.aload_n 0, 1) := by decide +kernel
theorem dX3_init_5 : decode cX3_init 5 = .ok (.bipush 60, 2) := by decide +kernel
theorem dX3_init_7 : decode cX3_init 7 = .ok (.newarray .byte, 2) := by decide +kernel
theorem dX3_init_9 : decode cX3_init 9 = .ok (.putfield 9, 3) := by decide +kernel
theorem dX3_init_12 : decode cX3_init 12 = .ok (.aload_n 0, 1) := by decide +kernel
theorem dX3_init_13 : decode cX3_init 13 = .ok (.iconst (-1), 1) := by decide +kernel
theorem dX3_init_14 : decode cX3_init 14 = .ok (.putfield 15, 3) := by decide +kernel
theorem dX3_init_17 : decode cX3_init 17 = .ok (.return_, 1) := by decide +kernel
theorem dX3_renew_0 : decode cX3_renew 0 = .ok (.aload_n 0, 1) := by decide +kernel
theorem dX3_renew_1 : decode cX3_renew 1 = .ok (.iload_n 1, 1) := by decide +kernel
theorem dX3_renew_2 : decode cX3_renew 2 = .ok (.putfield 15, 3) := by decide +kernel
theorem dX3_renew_5 : decode cX3_renew 5 = .ok (.iconst 0, 1) := by decide +kernel
theorem dX3_renew_6 : decode cX3_renew 6 = .ok (.istore_n 2, 1) := by decide +kernel
theorem dX3_renew_7 : decode cX3_renew 7 = .ok (.iload_n 2, 1) := by decide +kernel
theorem dX3_renew_8 : decode cX3_renew 8 = .ok (.bipush 60, 2) := by decide +kernel
theorem dX3_renew_10 : decode cX3_renew 10 = .ok (.if_icmp .ge 17, 3) := by decide +kernel
theorem dX3_renew_13 : decode cX3_renew 13 = .ok (.aload_n 0, 1) := by decide +kernel
theorem dX3_renew_14 : decode cX3_renew 14 = .ok (.getfield 9, 3) := by decide +kernel
theorem dX3_renew_17 : decode cX3_renew 17 = .ok (.iload_n 2, 1) := by decide +kernel
theorem dX3_renew_18 : decode cX3_renew 18 = .ok (.bipush 32, 2) := by decide +kernel
theorem dX3_renew_20 : decode cX3_renew 20 = .ok (.bastore, 1) := by decide +kernel
theorem dX3_renew_21 : decode cX3_renew 21 = .ok (.iinc 2 1, 3) := by decide +kernel
theorem dX3_renew_24 : decode cX3_renew 24 = .ok (.goto (-17), 3) := by decide +kernel
theorem dX3_renew_27 : decode cX3_renew 27 = .ok (.return_, 1) := by decide +kernel
theorem dX3_firstFault_0 : decode cX3_firstFault 0 = .ok (.iconst 0, 1) := by decide +kernel
theorem dX3_firstFault_1 : decode cX3_firstFault 1 = .ok (.istore_n 1, 1) := by decide +kernel
theorem dX3_firstFault_2 : decode cX3_firstFault 2 = .ok (.iconst 0, 1) := by decide +kernel
theorem dX3_firstFault_3 : decode cX3_firstFault 3 = .ok (.istore_n 2, 1) := by decide +kernel
theorem dX3_firstFault_4 : decode cX3_firstFault 4 = .ok (.iload_n 2, 1) := by decide +kernel
theorem dX3_firstFault_5 : decode cX3_firstFault 5 = .ok (.aload_n 0, 1) := by decide +kernel
theorem dX3_firstFault_6 : decode cX3_firstFault 6 = .ok (.getfield 15, 3) := by decide +kernel
theorem dX3_firstFault_9 : decode cX3_firstFault 9 = .ok (.if_icmp .ge 49, 3) := by decide +kernel
theorem dX3_firstFault_12 : decode cX3_firstFault 12 = .ok (.aload_n 0, 1) := by decide +kernel
theorem dX3_firstFault_13 : decode cX3_firstFault 13 = .ok (.getfield 9, 3) := by decide +kernel
theorem dX3_firstFault_16 : decode cX3_firstFault 16 = .ok (.iload_n 2, 1) := by decide +kernel
theorem dX3_firstFault_17 : decode cX3_firstFault 17 = .ok (.baload, 1) := by decide +kernel
theorem dX3_firstFault_18 : decode cX3_firstFault 18 = .ok (.bipush 32, 2) := by decide +kernel
theorem dX3_firstFault_20 : decode cX3_firstFault 20 = .ok (.if_icmp .eq 32, 3) := by decide +kernel
theorem dX3_firstFault_23 : decode cX3_firstFault 23 = .ok (.iload_n 1, 1) := by decide +kernel
theorem dX3_firstFault_24 : decode cX3_firstFault 24 = .ok (.iconst 5, 1) := by decide +kernel
theorem dX3_firstFault_25 : decode cX3_firstFault 25 = .ok (.if_icmp .ne 7, 3) := by decide +kernel
theorem dX3_firstFault_28 : decode cX3_firstFault 28 = .ok (.iload_n 2, 1) := by decide +kernel
theorem dX3_firstFault_29 : decode cX3_firstFault 29 = .ok (.goto 8, 3) := by decide +kernel
theorem dX3_firstFault_32 : decode cX3_firstFault 32 = .ok (.aload_n 0, 1) := by decide +kernel
theorem dX3_firstFault_33 : decode cX3_firstFault 33 = .ok (.iload_n 2, 1) := by decide +kernel
theorem dX3_firstFault_34 : decode cX3_firstFault 34 = .ok (.invokevirtual 19, 3) := by decide +kernel
theorem dX3_firstFault_37 : decode cX3_firstFault 37 = .ok (.istore_n 3, 1) := by decide +kernel
theorem dX3_firstFault_38 : decode cX3_firstFault 38 = .ok (.iload_n 3, 1) := by decide +kernel
theorem dX3_firstFault_39 : decode cX3_firstFault 39 = .ok (.bipush (-9), 2) := by decide +kernel
theorem dX3_firstFault_41 : decode cX3_firstFault 41 = .ok (.if_icmp .eq 5, 3) := by decide +kernel
theorem dX3_firstFault_44 : decode cX3_firstFault 44 = .ok (.iload_n 3, 1) := by decide +kernel
theorem dX3_firstFault_45 : decode cX3_firstFault 45 = .ok (.ireturn, 1) := by decide +kernel
theorem dX3_firstFault_46 : decode cX3_firstFault 46 = .ok (.iinc 1 1, 3) := by decide +kernel
theorem dX3_firstFault_49 : decode cX3_firstFault 49 = .ok (.iinc 2 6, 3) := by decide +kernel
theorem dX3_firstFault_52 : decode cX3_firstFault 52 = .ok (.iinc 2 1, 3) := by decide +kernel
theorem dX3_firstFault_55 : decode cX3_firstFault 55 = .ok (.goto (-51), 3) := by decide +kernel
theorem dX3_firstFault_58 : decode cX3_firstFault 58 = .ok (.bipush (-9), 2) := by decide +kernel
theorem dX3_firstFault_60 : decode cX3_firstFault 60 = .ok (.ireturn, 1) := by decide +kernel
theorem dX3_faultOfItem_0 : decode cX3_faultOfItem 0 = .ok (.iload_n 1, 1) := by decide +kernel
theorem dX3_faultOfItem_1 : decode cX3_faultOfItem 1 = .ok (.istore_n 2, 1) := by decide +kernel
theorem dX3_faultOfItem_2 : decode cX3_faultOfItem 2 = .ok (.iload_n 2, 1) := by decide +kernel
theorem dX3_faultOfItem_3 : decode cX3_faultOfItem 3 = .ok (.iload_n 1, 1) := by decide +kernel
theorem dX3_faultOfItem_4 : decode cX3_faultOfItem 4 = .ok (.bipush 7, 2) := by decide +kernel
theorem dX3_faultOfItem_6 : decode cX3_faultOfItem 6 = .ok (.iadd, 1) := by decide +kernel
theorem dX3_faultOfItem_7 : decode cX3_faultOfItem 7 = .ok (.if_icmp .ge 39, 3) := by decide +kernel
theorem dX3_faultOfItem_10 : decode cX3_faultOfItem 10 = .ok (.iload_n 2, 1) := by decide +kernel
theorem dX3_faultOfItem_11 : decode cX3_faultOfItem 11 = .ok (.aload_n 0, 1) := by decide +kernel
theorem dX3_faultOfItem_12 : decode cX3_faultOfItem 12 = .ok (.getfield 15, 3) := by decide +kernel
theorem dX3_faultOfItem_15 : decode cX3_faultOfItem 15 = .ok (.if_icmp .lt 8, 3) := by decide +kernel
theorem dX3_faultOfItem_18 : decode cX3_faultOfItem 18 = .ok (.aload_n 0, 1) := by decide +kernel
theorem dX3_faultOfItem_19 : decode cX3_faultOfItem 19 = .ok (.getfield 15, 3) := by decide +kernel
theorem dX3_faultOfItem_22 : decode cX3_faultOfItem 22 = .ok (.ireturn, 1) := by decide +kernel
theorem dX3_faultOfItem_23 : decode cX3_faultOfItem 23 = .ok (.aload_n 0, 1) := by decide +kernel
theorem dX3_faultOfItem_24 : decode cX3_faultOfItem 24 = .ok (.getfield 9, 3) := by decide +kernel
theorem dX3_faultOfItem_27 : decode cX3_faultOfItem 27 = .ok (.iload_n 2, 1) := by decide +kernel
theorem dX3_faultOfItem_28 : decode cX3_faultOfItem 28 = .ok (.baload, 1) := by decide +kernel
theorem dX3_faultOfItem_29 : decode cX3_faultOfItem 29 = .ok (.iload_n 2, 1) := by decide +kernel
theorem dX3_faultOfItem_30 : decode cX3_faultOfItem 30 = .ok (.iload_n 1, 1) := by decide +kernel
theorem dX3_faultOfItem_31 : decode cX3_faultOfItem 31 = .ok (.isub, 1) := by decide +kernel
theorem dX3_faultOfItem_32 : decode cX3_faultOfItem 32 = .ok (.invokestatic 23, 3) := by decide +kernel
theorem dX3_faultOfItem_35 : decode cX3_faultOfItem 35 = .ok (.ifCond .ne 5, 3) := by decide +kernel
theorem dX3_faultOfItem_38 : decode cX3_faultOfItem 38 = .ok (.iload_n 2, 1) := by decide +kernel
theorem dX3_faultOfItem_39 : decode cX3_faultOfItem 39 = .ok (.ireturn, 1) := by decide +kernel
theorem dX3_faultOfItem_40 : decode cX3_faultOfItem 40 = .ok (.iinc 2 1, 3) := by decide +kernel
theorem dX3_faultOfItem_43 : decode cX3_faultOfItem 43 = .ok (.goto (-41), 3) := by decide +kernel
theorem dX3_faultOfItem_46 : decode cX3_faultOfItem 46 = .ok (.bipush (-9), 2) := by decide +kernel
theorem dX3_faultOfItem_48 : decode cX3_faultOfItem 48 = .ok (.ireturn, 1) := by decide +kernel
theorem dX3_fits_0 : decode cX3_fits 0 = .ok (.iload_n 1, 1) := by decide +kernel
theorem dX3_fits_1 : decode cX3_fits 1 = .ok (.ifCond .ne 18, 3) := by decide +kernel
theorem dX3_fits_4 : decode cX3_fits 4 = .ok (.iload_n 0, 1) := by decide +kernel
theorem dX3_fits_5 : decode cX3_fits 5 = .ok (.invokestatic 27, 3) := by decide +kernel
theorem dX3_fits_8 : decode cX3_fits 8 = .ok (.bipush (-9), 2) := by decide +kernel
theorem dX3_fits_10 : decode cX3_fits 10 = .ok (.if_icmp .eq 7, 3) := by decide +kernel
theorem dX3_fits_13 : decode cX3_fits 13 = .ok (.iconst 1, 1) := by decide +kernel
theorem dX3_fits_14 : decode cX3_fits 14 = .ok (.goto 4, 3) := by decide +kernel
theorem dX3_fits_17 : decode cX3_fits 17 = .ok (.iconst 0, 1) := by decide +kernel
theorem dX3_fits_18 : decode cX3_fits 18 = .ok (.ireturn, 1) := by decide +kernel
theorem dX3_fits_19 : decode cX3_fits 19 = .ok (.iload_n 0, 1) := by decide +kernel
theorem dX3_fits_20 : decode cX3_fits 20 = .ok (.bipush 48, 2) := by decide +kernel
theorem dX3_fits_22 : decode cX3_fits 22 = .ok (.isub, 1) := by decide +kernel
theorem dX3_fits_23 : decode cX3_fits 23 = .ok (.istore_n 2, 1) := by decide +kernel
theorem dX3_fits_24 : decode cX3_fits 24 = .ok (.iload_n 1, 1) := by decide +kernel
theorem dX3_fits_25 : decode cX3_fits 25 = .ok (.iconst 1, 1) := by decide +kernel
theorem dX3_fits_26 : decode cX3_fits 26 = .ok (.if_icmp .ne 10, 3) := by decide +kernel
theorem dX3_fits_29 : decode cX3_fits 29 = .ok (.iload_n 2, 1) := by decide +kernel
theorem dX3_fits_30 : decode cX3_fits 30 = .ok (.invokestatic 30, 3) := by decide +kernel
theorem dX3_fits_33 : decode cX3_fits 33 = .ok (.goto 18, 3) := by decide +kernel
theorem dX3_fits_36 : decode cX3_fits 36 = .ok (.iload_n 2, 1) := by decide +kernel
theorem dX3_fits_37 : decode cX3_fits 37 = .ok (.ifCond .lt 13, 3) := by decide +kernel
theorem dX3_fits_40 : decode cX3_fits 40 = .ok (.iload_n 2, 1) := by decide +kernel
theorem dX3_fits_41 : decode cX3_fits 41 = .ok (.bipush 9, 2) := by decide +kernel
theorem dX3_fits_43 : decode cX3_fits 43 = .ok (.if_icmp .gt 7, 3) := by decide +kernel
theorem dX3_fits_46 : decode cX3_fits 46 = .ok (.iconst 1, 1) := by decide +kernel
theorem dX3_fits_47 : decode cX3_fits 47 = .ok (.goto 4, 3) := by decide +kernel
theorem dX3_fits_50 : decode cX3_fits 50 = .ok (.iconst 0, 1) := by decide +kernel
theorem dX3_fits_51 : decode cX3_fits 51 = .ok (.ireturn, 1) := by decide +kernel
theorem dX3_kindOf_0 : decode cX3_kindOf 0 = .ok (.iconst 0, 1) := by decide +kernel
theorem dX3_kindOf_1 : decode cX3_kindOf 1 = .ok (.istore_n 1, 1) := by decide +kernel
theorem dX3_kindOf_2 : decode cX3_kindOf 2 = .ok (.iload_n 1, 1) := by decide +kernel
theorem dX3_kindOf_3 : decode cX3_kindOf 3 = .ok (.bipush 6, 2) := by decide +kernel
theorem dX3_kindOf_5 : decode cX3_kindOf 5 = .ok (.if_icmp .ge 20, 3) := by decide +kernel
theorem dX3_kindOf_8 : decode cX3_kindOf 8 = .ok (.getstatic 34, 3) := by decide +kernel
theorem dX3_kindOf_11 : decode cX3_kindOf 11 = .ok (.iload_n 1, 1) := by decide +kernel
theorem dX3_kindOf_12 : decode cX3_kindOf 12 = .ok (.caload, 1) := by decide +kernel
theorem dX3_kindOf_13 : decode cX3_kindOf 13 = .ok (.iload_n 0, 1) := by decide +kernel
theorem dX3_kindOf_14 : decode cX3_kindOf 14 = .ok (.if_icmp .ne 5, 3) := by decide +kernel
theorem dX3_kindOf_17 : decode cX3_kindOf 17 = .ok (.iload_n 1, 1) := by decide +kernel
theorem dX3_kindOf_18 : decode cX3_kindOf 18 = .ok (.ireturn, 1) := by decide +kernel
theorem dX3_kindOf_19 : decode cX3_kindOf 19 = .ok (.iinc 1 1, 3) := by decide +kernel
theorem dX3_kindOf_22 : decode cX3_kindOf 22 = .ok (.goto (-20), 3) := by decide +kernel
theorem dX3_kindOf_25 : decode cX3_kindOf 25 = .ok (.bipush (-9), 2) := by decide +kernel
theorem dX3_kindOf_27 : decode cX3_kindOf 27 = .ok (.ireturn, 1) := by decide +kernel
theorem dX3_readInto_0 : decode cX3_readInto 0 = .ok (.iconst 0, 1) := by decide +kernel
theorem dX3_readInto_1 : decode cX3_readInto 1 = .ok (.istore_n 2, 1) := by decide +kernel
theorem dX3_readInto_2 : decode cX3_readInto 2 = .ok (.iconst 0, 1) := by decide +kernel
theorem dX3_readInto_3 : decode cX3_readInto 3 = .ok (.istore_n 3, 1) := by decide +kernel
theorem dX3_readInto_4 : decode cX3_readInto 4 = .ok (.iload_n 3, 1) := by decide +kernel
theorem dX3_readInto_5 : decode cX3_readInto 5 = .ok (.bipush 7, 2) := by decide +kernel
theorem dX3_readInto_7 : decode cX3_readInto 7 = .ok (.iadd, 1) := by decide +kernel
theorem dX3_readInto_8 : decode cX3_readInto 8 = .ok (.aload_n 0, 1) := by decide +kernel
theorem dX3_readInto_9 : decode cX3_readInto 9 = .ok (.getfield 15, 3) := by decide +kernel
theorem dX3_readInto_12 : decode cX3_readInto 12 = .ok (.if_icmp .gt 40, 3) := by decide +kernel
theorem dX3_readInto_15 : decode cX3_readInto 15 = .ok (.iload_n 2, 1) := by decide +kernel
theorem dX3_readInto_16 : decode cX3_readInto 16 = .ok (.aload_n 1, 1) := by decide +kernel
theorem dX3_readInto_17 : decode cX3_readInto 17 = .ok (.arraylength, 1) := by decide +kernel
theorem dX3_readInto_18 : decode cX3_readInto 18 = .ok (.if_icmp .ge 34, 3) := by decide +kernel
theorem dX3_readInto_21 : decode cX3_readInto 21 = .ok (.aload_n 0, 1) := by decide +kernel
theorem dX3_readInto_22 : decode cX3_readInto 22 = .ok (.getfield 9, 3) := by decide +kernel
theorem dX3_readInto_25 : decode cX3_readInto 25 = .ok (.iload_n 3, 1) := by decide +kernel
theorem dX3_readInto_26 : decode cX3_readInto 26 = .ok (.baload, 1) := by decide +kernel
theorem dX3_readInto_27 : decode cX3_readInto 27 = .ok (.bipush 32, 2) := by decide +kernel
theorem dX3_readInto_29 : decode cX3_readInto 29 = .ok (.if_icmp .eq 17, 3) := by decide +kernel
theorem dX3_readInto_32 : decode cX3_readInto 32 = .ok (.aload_n 0, 1) := by decide +kernel
theorem dX3_readInto_33 : decode cX3_readInto 33 = .ok (.iload_n 3, 1) := by decide +kernel
theorem dX3_readInto_34 : decode cX3_readInto 34 = .ok (.aload_n 1, 1) := by decide +kernel
theorem dX3_readInto_35 : decode cX3_readInto 35 = .ok (.iload_n 2, 1) := by decide +kernel
theorem dX3_readInto_36 : decode cX3_readInto 36 = .ok (.aaload, 1) := by decide +kernel
theorem dX3_readInto_37 : decode cX3_readInto 37 = .ok (.invokevirtual 38, 3) := by decide +kernel
theorem dX3_readInto_40 : decode cX3_readInto 40 = .ok (.iinc 2 1, 3) := by decide +kernel
theorem dX3_readInto_43 : decode cX3_readInto 43 = .ok (.iinc 3 6, 3) := by decide +kernel
theorem dX3_readInto_46 : decode cX3_readInto 46 = .ok (.iinc 3 1, 3) := by decide +kernel
theorem dX3_readInto_49 : decode cX3_readInto 49 = .ok (.goto (-45), 3) := by decide +kernel
theorem dX3_readInto_52 : decode cX3_readInto 52 = .ok (.iload_n 2, 1) := by decide +kernel
theorem dX3_readInto_53 : decode cX3_readInto 53 = .ok (.ireturn, 1) := by decide +kernel
theorem dX3_readItem_0 : decode cX3_readItem 0 = .ok (.aload_n 2, 1) := by decide +kernel
theorem dX3_readItem_1 : decode cX3_readItem 1 = .ok (.iconst 0, 1) := by decide +kernel
theorem dX3_readItem_2 : decode cX3_readItem 2 = .ok (.aload_n 0, 1) := by decide +kernel
theorem dX3_readItem_3 : decode cX3_readItem 3 = .ok (.getfield 9, 3) := by decide +kernel
theorem dX3_readItem_6 : decode cX3_readItem 6 = .ok (.iload_n 1, 1) := by decide +kernel
theorem dX3_readItem_7 : decode cX3_readItem 7 = .ok (.baload, 1) := by decide +kernel
theorem dX3_readItem_8 : decode cX3_readItem 8 = .ok (.invokestatic 27, 3) := by decide +kernel
theorem dX3_readItem_11 : decode cX3_readItem 11 = .ok (.invokestatic 42, 3) := by decide +kernel
theorem dX3_readItem_14 : decode cX3_readItem 14 = .ok (.putfield 48, 3) := by decide +kernel
theorem dX3_readItem_17 : decode cX3_readItem 17 = .ok (.aload_n 2, 1) := by decide +kernel
theorem dX3_readItem_18 : decode cX3_readItem 18 = .ok (.aload_n 0, 1) := by decide +kernel
theorem dX3_readItem_19 : decode cX3_readItem 19 = .ok (.getfield 9, 3) := by decide +kernel
theorem dX3_readItem_22 : decode cX3_readItem 22 = .ok (.iload_n 1, 1) := by decide +kernel
theorem dX3_readItem_23 : decode cX3_readItem 23 = .ok (.iconst 1, 1) := by decide +kernel
theorem dX3_readItem_24 : decode cX3_readItem 24 = .ok (.iadd, 1) := by decide +kernel
theorem dX3_readItem_25 : decode cX3_readItem 25 = .ok (.baload, 1) := by decide +kernel
theorem dX3_readItem_26 : decode cX3_readItem 26 = .ok (.bipush 48, 2) := by decide +kernel
theorem dX3_readItem_28 : decode cX3_readItem 28 = .ok (.isub, 1) := by decide +kernel
theorem dX3_readItem_29 : decode cX3_readItem 29 = .ok (.putfield 53, 3) := by decide +kernel
theorem dX3_readItem_32 : decode cX3_readItem 32 = .ok (.aload_n 2, 1) := by decide +kernel
theorem dX3_readItem_33 : decode cX3_readItem 33 = .ok (.iconst 0, 1) := by decide +kernel
theorem dX3_readItem_34 : decode cX3_readItem 34 = .ok (.putfield 56, 3) := by decide +kernel
theorem dX3_readItem_37 : decode cX3_readItem 37 = .ok (.iconst 2, 1) := by decide +kernel
theorem dX3_readItem_38 : decode cX3_readItem 38 = .ok (.istore_n 3, 1) := by decide +kernel
theorem dX3_readItem_39 : decode cX3_readItem 39 = .ok (.iload_n 3, 1) := by decide +kernel
theorem dX3_readItem_40 : decode cX3_readItem 40 = .ok (.iconst 5, 1) := by decide +kernel
theorem dX3_readItem_41 : decode cX3_readItem 41 = .ok (.if_icmp .gt 32, 3) := by decide +kernel
theorem dX3_readItem_44 : decode cX3_readItem 44 = .ok (.aload_n 2, 1) := by decide +kernel
theorem dX3_readItem_45 : decode cX3_readItem 45 = .ok (.bipush 10, 2) := by decide +kernel
theorem dX3_readItem_47 : decode cX3_readItem 47 = .ok (.aload_n 2, 1) := by decide +kernel
theorem dX3_readItem_48 : decode cX3_readItem 48 = .ok (.getfield 56, 3) := by decide +kernel
theorem dX3_readItem_51 : decode cX3_readItem 51 = .ok (.imul, 1) := by decide +kernel
theorem dX3_readItem_52 : decode cX3_readItem 52 = .ok (.aload_n 0, 1) := by decide +kernel
theorem dX3_readItem_53 : decode cX3_readItem 53 = .ok (.getfield 9, 3) := by decide +kernel
theorem dX3_readItem_56 : decode cX3_readItem 56 = .ok (.iload_n 1, 1) := by decide +kernel
theorem dX3_readItem_57 : decode cX3_readItem 57 = .ok (.iload_n 3, 1) := by decide +kernel
theorem dX3_readItem_58 : decode cX3_readItem 58 = .ok (.iadd, 1) := by decide +kernel
theorem dX3_readItem_59 : decode cX3_readItem 59 = .ok (.baload, 1) := by decide +kernel
theorem dX3_readItem_60 : decode cX3_readItem 60 = .ok (.iadd, 1) := by decide +kernel
theorem dX3_readItem_61 : decode cX3_readItem 61 = .ok (.bipush 48, 2) := by decide +kernel
theorem dX3_readItem_63 : decode cX3_readItem 63 = .ok (.isub, 1) := by decide +kernel
theorem dX3_readItem_64 : decode cX3_readItem 64 = .ok (.putfield 56, 3) := by decide +kernel
theorem dX3_readItem_67 : decode cX3_readItem 67 = .ok (.iinc 3 1, 3) := by decide +kernel
theorem dX3_readItem_70 : decode cX3_readItem 70 = .ok (.goto (-31), 3) := by decide +kernel
theorem dX3_readItem_73 : decode cX3_readItem 73 = .ok (.aload_n 2, 1) := by decide +kernel
theorem dX3_readItem_74 : decode cX3_readItem 74 = .ok (.aload_n 0, 1) := by decide +kernel
theorem dX3_readItem_75 : decode cX3_readItem 75 = .ok (.getfield 9, 3) := by decide +kernel
theorem dX3_readItem_78 : decode cX3_readItem 78 = .ok (.iload_n 1, 1) := by decide +kernel
theorem dX3_readItem_79 : decode cX3_readItem 79 = .ok (.bipush 6, 2) := by decide +kernel
theorem dX3_readItem_81 : decode cX3_readItem 81 = .ok (.iadd, 1) := by decide +kernel
theorem dX3_readItem_82 : decode cX3_readItem 82 = .ok (.baload, 1) := by decide +kernel
theorem dX3_readItem_83 : decode cX3_readItem 83 = .ok (.bipush 48, 2) := by decide +kernel
theorem dX3_readItem_85 : decode cX3_readItem 85 = .ok (.isub, 1) := by decide +kernel
theorem dX3_readItem_86 : decode cX3_readItem 86 = .ok (.putfield 59, 3) := by decide +kernel
theorem dX3_readItem_89 : decode cX3_readItem 89 = .ok (.return_, 1) := by decide +kernel
theorem dX3_digestFrom_0 : decode cX3_digestFrom 0 = .ok (.ldc2_w 62, 3) := by decide +kernel
theorem dX3_digestFrom_3 : decode cX3_digestFrom 3 = .ok (.lload_n 1, 1) := by decide +kernel
theorem dX3_digestFrom_4 : decode cX3_digestFrom 4 = .ok (.lmul, 1) := by decide +kernel
theorem dX3_digestFrom_5 : decode cX3_digestFrom 5 = .ok (.aload_n 0, 1) := by decide +kernel
theorem dX3_digestFrom_6 : decode cX3_digestFrom 6 = .ok (.getfield 15, 3) := by decide +kernel
theorem dX3_digestFrom_9 : decode cX3_digestFrom 9 = .ok (.i2l, 1) := by decide +kernel
theorem dX3_digestFrom_10 : decode cX3_digestFrom 10 = .ok (.ladd, 1) := by decide +kernel
theorem dX3_digestFrom_11 : decode cX3_digestFrom 11 = .ok (.lstore_n 3, 1) := by decide +kernel
theorem dX3_digestFrom_12 : decode cX3_digestFrom 12 = .ok (.iconst 0, 1) := by decide +kernel
theorem dX3_digestFrom_13 : decode cX3_digestFrom 13 = .ok (.istore 5, 2) := by decide +kernel
theorem dX3_digestFrom_15 : decode cX3_digestFrom 15 = .ok (.iload 5, 2) := by decide +kernel
theorem dX3_digestFrom_17 : decode cX3_digestFrom 17 = .ok (.aload_n 0, 1) := by decide +kernel
theorem dX3_digestFrom_18 : decode cX3_digestFrom 18 = .ok (.getfield 15, 3) := by decide +kernel
theorem dX3_digestFrom_21 : decode cX3_digestFrom 21 = .ok (.if_icmp .ge 24, 3) := by decide +kernel
theorem dX3_digestFrom_24 : decode cX3_digestFrom 24 = .ok (.ldc2_w 62, 3) := by decide +kernel
theorem dX3_digestFrom_27 : decode cX3_digestFrom 27 = .ok (.lload_n 3, 1) := by decide +kernel
theorem dX3_digestFrom_28 : decode cX3_digestFrom 28 = .ok (.lmul, 1) := by decide +kernel
theorem dX3_digestFrom_29 : decode cX3_digestFrom 29 = .ok (.aload_n 0, 1) := by decide +kernel
theorem dX3_digestFrom_30 : decode cX3_digestFrom 30 = .ok (.getfield 9, 3) := by decide +kernel
theorem dX3_digestFrom_33 : decode cX3_digestFrom 33 = .ok (.iload 5, 2) := by decide +kernel
theorem dX3_digestFrom_35 : decode cX3_digestFrom 35 = .ok (.baload, 1) := by decide +kernel
theorem dX3_digestFrom_36 : decode cX3_digestFrom 36 = .ok (.i2l, 1) := by decide +kernel
theorem dX3_digestFrom_37 : decode cX3_digestFrom 37 = .ok (.ladd, 1) := by decide +kernel
theorem dX3_digestFrom_38 : decode cX3_digestFrom 38 = .ok (.lstore_n 3, 1) := by decide +kernel
theorem dX3_digestFrom_39 : decode cX3_digestFrom 39 = .ok (.iinc 5 1, 3) := by decide +kernel
theorem dX3_digestFrom_42 : decode cX3_digestFrom 42 = .ok (.goto (-27), 3) := by decide +kernel
theorem dX3_digestFrom_45 : decode cX3_digestFrom 45 = .ok (.lload_n 3, 1) := by decide +kernel
theorem dX3_digestFrom_46 : decode cX3_digestFrom 46 = .ok (.lreturn, 1) := by decide +kernel
theorem dX4_init_0 : decode cX4_init 0 = .ok (.aload_n 0, 1) := by decide +kernel
theorem dX4_init_1 : decode cX4_init 1 = .ok (.invokespecial 1, 3) := by decide +kernel
theorem dX4_init_4 : decode cX4_init 4 = .ok (.aload_n 0, 1) := by decide +kernel
theorem dX4_init_5 : decode cX4_init 5 = .ok (.bipush 6, 2) := by decide +kernel
theorem dX4_init_7 : decode cX4_init 7 = .ok (.anewarray 9, 3) := by decide +kernel
theorem dX4_init_10 : decode cX4_init 10 = .ok (.putfield 11, 3) := by decide +kernel
theorem dX4_init_13 : decode cX4_init 13 = .ok (.aload_n 0, 1) := by decide +kernel
theorem dX4_init_14 : decode cX4_init 14 = .ok (.iconst 4, 1) := by decide +kernel
theorem dX4_init_15 : decode cX4_init 15 = .ok (.anewarray 15, 3) := by decide +kernel
theorem dX4_init_18 : decode cX4_init 18 = .ok (.putfield 17, 3) := by decide +kernel
theorem dX4_init_21 : decode cX4_init 21 = .ok (.aload_n 0, 1) := by decide +kernel
theorem dX4_init_22 : decode cX4_init 22 = .ok (.iconst 5, 1) := by decide +kernel
theorem dX4_init_23 : decode cX4_init 23 = .ok (.anewarray 21, 3) := by decide +kernel
theorem dX4_init_26 : decode cX4_init 26 = .ok (.putfield 23, 3) := by decide +kernel
theorem dX4_init_29 : decode cX4_init 29 = .ok (.aload_n 0, 1) := by decide +kernel
theorem dX4_init_30 : decode cX4_init 30 = .ok (.iconst 3, 1) := by decide +kernel
theorem dX4_init_31 : decode cX4_init 31 = .ok (.anewarray 27, 3) := by decide +kernel
theorem dX4_init_34 : decode cX4_init 34 = .ok (.putfield 29, 3) := by decide +kernel
theorem dX4_init_37 : decode cX4_init 37 = .ok (.aload_n 0, 1) := by decide +kernel
theorem dX4_init_38 : decode cX4_init 38 = .ok (.new 21, 3) := by decide +kernel
theorem dX4_init_41 : decode cX4_init 41 = .ok (.dup, 1) := by decide +kernel
theorem dX4_init_42 : decode cX4_init 42 = .ok (.invokespecial 33, 3) := by decide +kernel
theorem dX4_init_45 : decode cX4_init 45 = .ok (.putfield 34, 3) := by decide +kernel
theorem dX4_init_48 : decode cX4_init 48 = .ok (.aload_n 0, 1) := by decide +kernel
theorem dX4_init_49 : decode cX4_init 49 = .ok (.bipush 6, 2) := by decide +kernel
theorem dX4_init_51 : decode cX4_init 51 = .ok (.newarray .int, 2) := by decide +kernel
theorem dX4_init_53 : decode cX4_init 53 = .ok (.putfield 38, 3) := by decide +kernel
theorem dX4_init_56 : decode cX4_init 56 = .ok (.aload_n 0, 1) := by decide +kernel
theorem dX4_init_57 : decode cX4_init 57 = .ok (.iconst 0, 1) := by decide +kernel
theorem dX4_init_58 : decode cX4_init 58 = .ok (.putfield 42, 3) := by decide +kernel
theorem dX4_init_61 : decode cX4_init 61 = .ok (.aload_n 0, 1) := by decide +kernel
theorem dX4_init_62 : decode cX4_init 62 = .ok (.iconst 0, 1) := by decide +kernel
theorem dX4_init_63 : decode cX4_init 63 = .ok (.putfield 46, 3) := by decide +kernel
theorem dX4_init_66 : decode cX4_init 66 = .ok (.aload_n 0, 1) := by decide +kernel
theorem dX4_init_67 : decode cX4_init 67 = .ok (.iconst 0, 1) := by decide +kernel
theorem dX4_init_68 : decode cX4_init 68 = .ok (.putfield 49, 3) := by decide +kernel
theorem dX4_init_71 : decode cX4_init 71 = .ok (.aload_n 0, 1) := by decide +kernel
theorem dX4_init_72 : decode cX4_init 72 = .ok (.lconst 0, 1) := by decide +kernel
