theorem dX4_age_5 : decode cX4_age 5 = .ok (.ifCond .eq 7, 3) := by decide +kernel
theorem dX4_age_8 : decode cX4_age 8 = .ok (.iload_n 2, 1) := by decide +kernel
theorem dX4_age_9 : decode cX4_age 9 = .ok (.ifCond .ge 5, 3) := by decide +kernel
theorem dX4_age_12 : decode cX4_age 12 = .ok (.iconst (-1), 1) := by decide +kernel
theorem dX4_age_13 : decode cX4_age 13 = .ok (.ireturn, 1) := by decide +kernel
theorem dX4_age_14 : decode cX4_age 14 = .ok (.aload_n 0, 1) := by decide +kernel
theorem dX4_age_15 : decode cX4_age 15 = .ok (.getfield 23, 3) := by decide +kernel
theorem dX4_age_18 : decode cX4_age 18 = .ok (.iload_n 1, 1) := by decide +kernel
theorem dX4_age_19 : decode cX4_age 19 = .ok (.aaload, 1) := by decide +kernel
theorem dX4_age_20 : decode cX4_age 20 = .ok (.iload_n 2, 1) := by decide +kernel
theorem dX4_age_21 : decode cX4_age 21 = .ok (.invokevirtual 174, 3) := by decide +kernel
theorem dX4_age_24 : decode cX4_age 24 = .ok (.istore_n 3, 1) := by decide +kernel
theorem dX4_age_25 : decode cX4_age 25 = .ok (.iload_n 3, 1) := by decide +kernel
theorem dX4_age_26 : decode cX4_age 26 = .ok (.iconst (-1), 1) := by decide +kernel
theorem dX4_age_27 : decode cX4_age 27 = .ok (.if_icmp .ne 9, 3) := by decide +kernel
theorem dX4_age_30 : decode cX4_age 30 = .ok (.aload_n 0, 1) := by decide +kernel
theorem dX4_age_31 : decode cX4_age 31 = .ok (.iconst 4, 1) := by decide +kernel
theorem dX4_age_32 : decode cX4_age 32 = .ok (.invokevirtual 69, 3) := by decide +kernel
theorem dX4_age_35 : decode cX4_age 35 = .ok (.ireturn, 1) := by decide +kernel
theorem dX4_age_36 : decode cX4_age 36 = .ok (.iload_n 3, 1) := by decide +kernel
theorem dX4_age_37 : decode cX4_age 37 = .ok (.aload_n 0, 1) := by decide +kernel
theorem dX4_age_38 : decode cX4_age 38 = .ok (.getfield 46, 3) := by decide +kernel
theorem dX4_age_41 : decode cX4_age 41 = .ok (.if_icmp .le 8, 3) := by decide +kernel
theorem dX4_age_44 : decode cX4_age 44 = .ok (.bipush (-4), 2) := by decide +kernel
theorem dX4_age_46 : decode cX4_age 46 = .ok (.goto 17, 3) := by decide +kernel
theorem dX4_age_49 : decode cX4_age 49 = .ok (.aload_n 0, 1) := by decide +kernel
theorem dX4_age_50 : decode cX4_age 50 = .ok (.getfield 23, 3) := by decide +kernel
theorem dX4_age_53 : decode cX4_age 53 = .ok (.iload_n 1, 1) := by decide +kernel
theorem dX4_age_54 : decode cX4_age 54 = .ok (.aaload, 1) := by decide +kernel
theorem dX4_age_55 : decode cX4_age 55 = .ok (.iload_n 2, 1) := by decide +kernel
theorem dX4_age_56 : decode cX4_age 56 = .ok (.aload_n 0, 1) := by decide +kernel
theorem dX4_age_57 : decode cX4_age 57 = .ok (.getfield 46, 3) := by decide +kernel
theorem dX4_age_60 : decode cX4_age 60 = .ok (.invokevirtual 200, 3) := by decide +kernel
theorem dX4_age_63 : decode cX4_age 63 = .ok (.ireturn, 1) := by decide +kernel
theorem dX4_eldest_0 : decode cX4_eldest 0 = .ok (.iload_n 1, 1) := by decide +kernel
theorem dX4_eldest_1 : decode cX4_eldest 1 = .ok (.iconst 0, 1) := by decide +kernel
theorem dX4_eldest_2 : decode cX4_eldest 2 = .ok (.aload_n 0, 1) := by decide +kernel
theorem dX4_eldest_3 : decode cX4_eldest 3 = .ok (.getfield 46, 3) := by decide +kernel
theorem dX4_eldest_6 : decode cX4_eldest 6 = .ok (.invokestatic 140, 3) := by decide +kernel
theorem dX4_eldest_9 : decode cX4_eldest 9 = .ok (.ifCond .ne 5, 3) := by decide +kernel
theorem dX4_eldest_12 : decode cX4_eldest 12 = .ok (.iconst (-1), 1) := by decide +kernel
theorem dX4_eldest_13 : decode cX4_eldest 13 = .ok (.ireturn, 1) := by decide +kernel
theorem dX4_eldest_14 : decode cX4_eldest 14 = .ok (.bipush (-9), 2) := by decide +kernel
theorem dX4_eldest_16 : decode cX4_eldest 16 = .ok (.istore_n 2, 1) := by decide +kernel
theorem dX4_eldest_17 : decode cX4_eldest 17 = .ok (.iconst (-1), 1) := by decide +kernel
theorem dX4_eldest_18 : decode cX4_eldest 18 = .ok (.istore_n 3, 1) := by decide +kernel
theorem dX4_eldest_19 : decode cX4_eldest 19 = .ok (.iconst 0, 1) := by decide +kernel
theorem dX4_eldest_20 : decode cX4_eldest 20 = .ok (.istore 4, 2) := by decide +kernel
theorem dX4_eldest_22 : decode cX4_eldest 22 = .ok (.iload 4, 2) := by decide +kernel
theorem dX4_eldest_24 : decode cX4_eldest 24 = .ok (.aload_n 0, 1) := by decide +kernel
theorem dX4_eldest_25 : decode cX4_eldest 25 = .ok (.getfield 42, 3) := by decide +kernel
theorem dX4_eldest_28 : decode cX4_eldest 28 = .ok (.if_icmp .ge 48, 3) := by decide +kernel
theorem dX4_eldest_31 : decode cX4_eldest 31 = .ok (.aload_n 0, 1) := by decide +kernel
theorem dX4_eldest_32 : decode cX4_eldest 32 = .ok (.getfield 23, 3) := by decide +kernel
theorem dX4_eldest_35 : decode cX4_eldest 35 = .ok (.iload 4, 2) := by decide +kernel
theorem dX4_eldest_37 : decode cX4_eldest 37 = .ok (.aaload, 1) := by decide +kernel
theorem dX4_eldest_38 : decode cX4_eldest 38 = .ok (.aload_n 0, 1) := by decide +kernel
theorem dX4_eldest_39 : decode cX4_eldest 39 = .ok (.getfield 23, 3) := by decide +kernel
theorem dX4_eldest_42 : decode cX4_eldest 42 = .ok (.iload 4, 2) := by decide +kernel
theorem dX4_eldest_44 : decode cX4_eldest 44 = .ok (.aaload, 1) := by decide +kernel
theorem dX4_eldest_45 : decode cX4_eldest 45 = .ok (.iload_n 1, 1) := by decide +kernel
theorem dX4_eldest_46 : decode cX4_eldest 46 = .ok (.invokevirtual 171, 3) := by decide +kernel
theorem dX4_eldest_49 : decode cX4_eldest 49 = .ok (.aload_n 0, 1) := by decide +kernel
theorem dX4_eldest_50 : decode cX4_eldest 50 = .ok (.getfield 46, 3) := by decide +kernel
theorem dX4_eldest_53 : decode cX4_eldest 53 = .ok (.invokevirtual 200, 3) := by decide +kernel
theorem dX4_eldest_56 : decode cX4_eldest 56 = .ok (.istore 5, 2) := by decide +kernel
theorem dX4_eldest_58 : decode cX4_eldest 58 = .ok (.iload 5, 2) := by decide +kernel
theorem dX4_eldest_60 : decode cX4_eldest 60 = .ok (.iload_n 3, 1) := by decide +kernel
theorem dX4_eldest_61 : decode cX4_eldest 61 = .ok (.if_icmp .le 9, 3) := by decide +kernel
theorem dX4_eldest_64 : decode cX4_eldest 64 = .ok (.iload 5, 2) := by decide +kernel
theorem dX4_eldest_66 : decode cX4_eldest 66 = .ok (.istore_n 3, 1) := by decide +kernel
theorem dX4_eldest_67 : decode cX4_eldest 67 = .ok (.iload 4, 2) := by decide +kernel
theorem dX4_eldest_69 : decode cX4_eldest 69 = .ok (.istore_n 2, 1) := by decide +kernel
theorem dX4_eldest_70 : decode cX4_eldest 70 = .ok (.iinc 4 1, 3) := by decide +kernel
theorem dX4_eldest_73 : decode cX4_eldest 73 = .ok (.goto (-51), 3) := by decide +kernel
theorem dX4_eldest_76 : decode cX4_eldest 76 = .ok (.iload_n 2, 1) := by decide +kernel
theorem dX4_eldest_77 : decode cX4_eldest 77 = .ok (.bipush (-9), 2) := by decide +kernel
theorem dX4_eldest_79 : decode cX4_eldest 79 = .ok (.if_icmp .eq 8, 3) := by decide +kernel
theorem dX4_eldest_82 : decode cX4_eldest 82 = .ok (.aload_n 0, 1) := by decide +kernel
theorem dX4_eldest_83 : decode cX4_eldest 83 = .ok (.iload_n 3, 1) := by decide +kernel
theorem dX4_eldest_84 : decode cX4_eldest 84 = .ok (.putfield 49, 3) := by decide +kernel
theorem dX4_eldest_87 : decode cX4_eldest 87 = .ok (.iload_n 2, 1) := by decide +kernel
theorem dX4_eldest_88 : decode cX4_eldest 88 = .ok (.ireturn, 1) := by decide +kernel
theorem dX4_agree_0 : decode cX4_agree 0 = .ok (.aload_n 0, 1) := by decide +kernel
theorem dX4_agree_1 : decode cX4_agree 1 = .ok (.iload_n 1, 1) := by decide +kernel
theorem dX4_agree_2 : decode cX4_agree 2 = .ok (.invokevirtual 128, 3) := by decide +kernel
theorem dX4_agree_5 : decode cX4_agree 5 = .ok (.ifCond .eq 20, 3) := by decide +kernel
theorem dX4_agree_8 : decode cX4_agree 8 = .ok (.aload_n 0, 1) := by decide +kernel
theorem dX4_agree_9 : decode cX4_agree 9 = .ok (.iload_n 2, 1) := by decide +kernel
theorem dX4_agree_10 : decode cX4_agree 10 = .ok (.invokevirtual 128, 3) := by decide +kernel
theorem dX4_agree_13 : decode cX4_agree 13 = .ok (.ifCond .eq 12, 3) := by decide +kernel
theorem dX4_agree_16 : decode cX4_agree 16 = .ok (.iload_n 3, 1) := by decide +kernel
theorem dX4_agree_17 : decode cX4_agree 17 = .ok (.iload 4, 2) := by decide +kernel
theorem dX4_agree_19 : decode cX4_agree 19 = .ok (.invokestatic 197, 3) := by decide +kernel
theorem dX4_agree_22 : decode cX4_agree 22 = .ok (.ifCond .ne 5, 3) := by decide +kernel
theorem dX4_agree_25 : decode cX4_agree 25 = .ok (.iconst (-1), 1) := by decide +kernel
theorem dX4_agree_26 : decode cX4_agree 26 = .ok (.ireturn, 1) := by decide +kernel
theorem dX4_agree_27 : decode cX4_agree 27 = .ok (.iconst 0, 1) := by decide +kernel
theorem dX4_agree_28 : decode cX4_agree 28 = .ok (.istore 5, 2) := by decide +kernel
theorem dX4_agree_30 : decode cX4_agree 30 = .ok (.bipush (-9), 2) := by decide +kernel
theorem dX4_agree_32 : decode cX4_agree 32 = .ok (.istore 6, 2) := by decide +kernel
theorem dX4_agree_34 : decode cX4_agree 34 = .ok (.iload_n 3, 1) := by decide +kernel
theorem dX4_agree_35 : decode cX4_agree 35 = .ok (.istore 7, 2) := by decide +kernel
theorem dX4_agree_37 : decode cX4_agree 37 = .ok (.iload_n 3, 1) := by decide +kernel
theorem dX4_agree_38 : decode cX4_agree 38 = .ok (.istore 8, 2) := by decide +kernel
theorem dX4_agree_40 : decode cX4_agree 40 = .ok (.iload 8, 2) := by decide +kernel
theorem dX4_agree_42 : decode cX4_agree 42 = .ok (.iload 4, 2) := by decide +kernel
theorem dX4_agree_44 : decode cX4_agree 44 = .ok (.if_icmp .gt 71, 3) := by decide +kernel
theorem dX4_agree_47 : decode cX4_agree 47 = .ok (.iload 4, 2) := by decide +kernel
theorem dX4_agree_49 : decode cX4_agree 49 = .ok (.aload_n 0, 1) := by decide +kernel
theorem dX4_agree_50 : decode cX4_agree 50 = .ok (.iload_n 1, 1) := by decide +kernel
theorem dX4_agree_51 : decode cX4_agree 51 = .ok (.iload_n 2, 1) := by decide +kernel
theorem dX4_agree_52 : decode cX4_agree 52 = .ok (.iload 8, 2) := by decide +kernel
theorem dX4_agree_54 : decode cX4_agree 54 = .ok (.invokevirtual 203, 3) := by decide +kernel
theorem dX4_agree_57 : decode cX4_agree 57 = .ok (.invokestatic 207, 3) := by decide +kernel
theorem dX4_agree_60 : decode cX4_agree 60 = .ok (.istore 7, 2) := by decide +kernel
theorem dX4_agree_62 : decode cX4_agree 62 = .ok (.aload_n 0, 1) := by decide +kernel
theorem dX4_agree_63 : decode cX4_agree 63 = .ok (.iload_n 1, 1) := by decide +kernel
theorem dX4_agree_64 : decode cX4_agree 64 = .ok (.iload_n 2, 1) := by decide +kernel
theorem dX4_agree_65 : decode cX4_agree 65 = .ok (.iload 8, 2) := by decide +kernel
theorem dX4_agree_67 : decode cX4_agree 67 = .ok (.invokevirtual 212, 3) := by decide +kernel
theorem dX4_agree_70 : decode cX4_agree 70 = .ok (.ifCond .eq 31, 3) := by decide +kernel
theorem dX4_agree_73 : decode cX4_agree 73 = .ok (.iload 5, 2) := by decide +kernel
theorem dX4_agree_75 : decode cX4_agree 75 = .ok (.iload 7, 2) := by decide +kernel
theorem dX4_agree_77 : decode cX4_agree 77 = .ok (.iload 8, 2) := by decide +kernel
theorem dX4_agree_79 : decode cX4_agree 79 = .ok (.isub, 1) := by decide +kernel
theorem dX4_agree_80 : decode cX4_agree 80 = .ok (.iconst 1, 1) := by decide +kernel
theorem dX4_agree_81 : decode cX4_agree 81 = .ok (.iadd, 1) := by decide +kernel
theorem dX4_agree_82 : decode cX4_agree 82 = .ok (.iadd, 1) := by decide +kernel
theorem dX4_agree_83 : decode cX4_agree 83 = .ok (.istore 5, 2) := by decide +kernel
theorem dX4_agree_85 : decode cX4_agree 85 = .ok (.iload 6, 2) := by decide +kernel
theorem dX4_agree_87 : decode cX4_agree 87 = .ok (.bipush (-9), 2) := by decide +kernel
theorem dX4_agree_89 : decode cX4_agree 89 = .ok (.if_icmp .ne 8, 3) := by decide +kernel
theorem dX4_agree_92 : decode cX4_agree 92 = .ok (.iload 8, 2) := by decide +kernel
theorem dX4_agree_94 : decode cX4_agree 94 = .ok (.goto 5, 3) := by decide +kernel
theorem dX4_agree_97 : decode cX4_agree 97 = .ok (.iload 6, 2) := by decide +kernel
theorem dX4_agree_99 : decode cX4_agree 99 = .ok (.istore 6, 2) := by decide +kernel
theorem dX4_agree_101 : decode cX4_agree 101 = .ok (.iload 8, 2) := by decide +kernel
theorem dX4_agree_103 : decode cX4_agree 103 = .ok (.iload 7, 2) := by decide +kernel
theorem dX4_agree_105 : decode cX4_agree 105 = .ok (.invokestatic 215, 3) := by decide +kernel
theorem dX4_agree_108 : decode cX4_agree 108 = .ok (.iconst 1, 1) := by decide +kernel
theorem dX4_agree_109 : decode cX4_agree 109 = .ok (.iadd, 1) := by decide +kernel
theorem dX4_agree_110 : decode cX4_agree 110 = .ok (.istore 8, 2) := by decide +kernel
theorem dX4_agree_112 : decode cX4_agree 112 = .ok (.goto (-72), 3) := by decide +kernel
theorem dX4_agree_115 : decode cX4_agree 115 = .ok (.aload_n 0, 1) := by decide +kernel
theorem dX4_agree_116 : decode cX4_agree 116 = .ok (.iload 6, 2) := by decide +kernel
theorem dX4_agree_118 : decode cX4_agree 118 = .ok (.putfield 49, 3) := by decide +kernel
theorem dX4_agree_121 : decode cX4_agree 121 = .ok (.iload 5, 2) := by decide +kernel
theorem dX4_agree_123 : decode cX4_agree 123 = .ok (.ireturn, 1) := by decide +kernel
theorem dX4_till_0 : decode cX4_till 0 = .ok (.aload_n 0, 1) := by decide +kernel
theorem dX4_till_1 : decode cX4_till 1 = .ok (.iload_n 1, 1) := by decide +kernel
theorem dX4_till_2 : decode cX4_till 2 = .ok (.invokevirtual 128, 3) := by decide +kernel
theorem dX4_till_5 : decode cX4_till 5 = .ok (.ifCond .eq 11, 3) := by decide +kernel
theorem dX4_till_8 : decode cX4_till 8 = .ok (.aload_n 0, 1) := by decide +kernel
theorem dX4_till_9 : decode cX4_till 9 = .ok (.iload_n 2, 1) := by decide +kernel
theorem dX4_till_10 : decode cX4_till 10 = .ok (.invokevirtual 128, 3) := by decide +kernel
theorem dX4_till_13 : decode cX4_till 13 = .ok (.ifCond .ne 5, 3) := by decide +kernel
theorem dX4_till_16 : decode cX4_till 16 = .ok (.iconst (-1), 1) := by decide +kernel
theorem dX4_till_17 : decode cX4_till 17 = .ok (.ireturn, 1) := by decide +kernel
theorem dX4_till_18 : decode cX4_till 18 = .ok (.aload_n 0, 1) := by decide +kernel
theorem dX4_till_19 : decode cX4_till 19 = .ok (.getfield 46, 3) := by decide +kernel
theorem dX4_till_22 : decode cX4_till 22 = .ok (.istore_n 3, 1) := by decide +kernel
theorem dX4_till_23 : decode cX4_till 23 = .ok (.iload_n 3, 1) := by decide +kernel
theorem dX4_till_24 : decode cX4_till 24 = .ok (.sipush 19999, 3) := by decide +kernel
theorem dX4_till_27 : decode cX4_till 27 = .ok (.if_icmp .gt 37, 3) := by decide +kernel
theorem dX4_till_30 : decode cX4_till 30 = .ok (.aload_n 0, 1) := by decide +kernel
theorem dX4_till_31 : decode cX4_till 31 = .ok (.iload_n 1, 1) := by decide +kernel
theorem dX4_till_32 : decode cX4_till 32 = .ok (.iload_n 2, 1) := by decide +kernel
theorem dX4_till_33 : decode cX4_till 33 = .ok (.iload_n 3, 1) := by decide +kernel
theorem dX4_till_34 : decode cX4_till 34 = .ok (.invokevirtual 212, 3) := by decide +kernel
theorem dX4_till_37 : decode cX4_till 37 = .ok (.ifCond .eq 10, 3) := by decide +kernel
theorem dX4_till_40 : decode cX4_till 40 = .ok (.iload_n 3, 1) := by decide +kernel
theorem dX4_till_41 : decode cX4_till 41 = .ok (.aload_n 0, 1) := by decide +kernel
theorem dX4_till_42 : decode cX4_till 42 = .ok (.getfield 46, 3) := by decide +kernel
theorem dX4_till_45 : decode cX4_till 45 = .ok (.isub, 1) := by decide +kernel
theorem dX4_till_46 : decode cX4_till 46 = .ok (.ireturn, 1) := by decide +kernel
theorem dX4_till_47 : decode cX4_till 47 = .ok (.iload_n 3, 1) := by decide +kernel
theorem dX4_till_48 : decode cX4_till 48 = .ok (.aload_n 0, 1) := by decide +kernel
theorem dX4_till_49 : decode cX4_till 49 = .ok (.iload_n 1, 1) := by decide +kernel
theorem dX4_till_50 : decode cX4_till 50 = .ok (.iload_n 2, 1) := by decide +kernel
theorem dX4_till_51 : decode cX4_till 51 = .ok (.iload_n 3, 1) := by decide +kernel
theorem dX4_till_52 : decode cX4_till 52 = .ok (.invokevirtual 203, 3) := by decide +kernel
theorem dX4_till_55 : decode cX4_till 55 = .ok (.invokestatic 215, 3) := by decide +kernel
theorem dX4_till_58 : decode cX4_till 58 = .ok (.iconst 1, 1) := by decide +kernel
theorem dX4_till_59 : decode cX4_till 59 = .ok (.iadd, 1) := by decide +kernel
theorem dX4_till_60 : decode cX4_till 60 = .ok (.istore_n 3, 1) := by decide +kernel
theorem dX4_till_61 : decode cX4_till 61 = .ok (.goto (-38), 3) := by decide +kernel
theorem dX4_till_64 : decode cX4_till 64 = .ok (.bipush (-9), 2) := by decide +kernel
theorem dX4_till_66 : decode cX4_till 66 = .ok (.ireturn, 1) := by decide +kernel
theorem dX4_apart_0 : decode cX4_apart 0 = .ok (.aload_n 0, 1) := by decide +kernel
theorem dX4_apart_1 : decode cX4_apart 1 = .ok (.iload_n 1, 1) := by decide +kernel
theorem dX4_apart_2 : decode cX4_apart 2 = .ok (.invokevirtual 128, 3) := by decide +kernel
theorem dX4_apart_5 : decode cX4_apart 5 = .ok (.ifCond .eq 20, 3) := by decide +kernel
theorem dX4_apart_8 : decode cX4_apart 8 = .ok (.aload_n 0, 1) := by decide +kernel
theorem dX4_apart_9 : decode cX4_apart 9 = .ok (.iload_n 2, 1) := by decide +kernel
theorem dX4_apart_10 : decode cX4_apart 10 = .ok (.invokevirtual 128, 3) := by decide +kernel
theorem dX4_apart_13 : decode cX4_apart 13 = .ok (.ifCond .eq 12, 3) := by decide +kernel
theorem dX4_apart_16 : decode cX4_apart 16 = .ok (.iload_n 3, 1) := by decide +kernel
theorem dX4_apart_17 : decode cX4_apart 17 = .ok (.iload 4, 2) := by decide +kernel
theorem dX4_apart_19 : decode cX4_apart 19 = .ok (.invokestatic 197, 3) := by decide +kernel
theorem dX4_apart_22 : decode cX4_apart 22 = .ok (.ifCond .ne 5, 3) := by decide +kernel
theorem dX4_apart_25 : decode cX4_apart 25 = .ok (.iconst (-1), 1) := by decide +kernel
theorem dX4_apart_26 : decode cX4_apart 26 = .ok (.ireturn, 1) := by decide +kernel
theorem dX4_apart_27 : decode cX4_apart 27 = .ok (.iconst (-1), 1) := by decide +kernel
theorem dX4_apart_28 : decode cX4_apart 28 = .ok (.istore 5, 2) := by decide +kernel
theorem dX4_apart_30 : decode cX4_apart 30 = .ok (.iload_n 3, 1) := by decide +kernel
theorem dX4_apart_31 : decode cX4_apart 31 = .ok (.istore 6, 2) := by decide +kernel
theorem dX4_apart_33 : decode cX4_apart 33 = .ok (.iload_n 3, 1) := by decide +kernel
theorem dX4_apart_34 : decode cX4_apart 34 = .ok (.istore 7, 2) := by decide +kernel
theorem dX4_apart_36 : decode cX4_apart 36 = .ok (.iload 7, 2) := by decide +kernel
theorem dX4_apart_38 : decode cX4_apart 38 = .ok (.iload 4, 2) := by decide +kernel
theorem dX4_apart_40 : decode cX4_apart 40 = .ok (.if_icmp .gt 66, 3) := by decide +kernel
theorem dX4_apart_43 : decode cX4_apart 43 = .ok (.aload_n 0, 1) := by decide +kernel
theorem dX4_apart_44 : decode cX4_apart 44 = .ok (.getfield 23, 3) := by decide +kernel
theorem dX4_apart_47 : decode cX4_apart 47 = .ok (.iload_n 1, 1) := by decide +kernel
theorem dX4_apart_48 : decode cX4_apart 48 = .ok (.aaload, 1) := by decide +kernel
theorem dX4_apart_49 : decode cX4_apart 49 = .ok (.iload 7, 2) := by decide +kernel
theorem dX4_apart_51 : decode cX4_apart 51 = .ok (.invokevirtual 218, 3) := by decide +kernel
theorem dX4_apart_54 : decode cX4_apart 54 = .ok (.aload_n 0, 1) := by decide +kernel
theorem dX4_apart_55 : decode cX4_apart 55 = .ok (.getfield 23, 3) := by decide +kernel
theorem dX4_apart_58 : decode cX4_apart 58 = .ok (.iload_n 2, 1) := by decide +kernel
theorem dX4_apart_59 : decode cX4_apart 59 = .ok (.aaload, 1) := by decide +kernel
theorem dX4_apart_60 : decode cX4_apart 60 = .ok (.iload 7, 2) := by decide +kernel
theorem dX4_apart_62 : decode cX4_apart 62 = .ok (.invokevirtual 218, 3) := by decide +kernel
theorem dX4_apart_65 : decode cX4_apart 65 = .ok (.isub, 1) := by decide +kernel
theorem dX4_apart_66 : decode cX4_apart 66 = .ok (.invokestatic 221, 3) := by decide +kernel
theorem dX4_apart_69 : decode cX4_apart 69 = .ok (.istore 8, 2) := by decide +kernel
theorem dX4_apart_71 : decode cX4_apart 71 = .ok (.iload 8, 2) := by decide +kernel
theorem dX4_apart_73 : decode cX4_apart 73 = .ok (.iload 5, 2) := by decide +kernel
theorem dX4_apart_75 : decode cX4_apart 75 = .ok (.if_icmp .le 11, 3) := by decide +kernel
theorem dX4_apart_78 : decode cX4_apart 78 = .ok (.iload 8, 2) := by decide +kernel
theorem dX4_apart_80 : decode cX4_apart 80 = .ok (.istore 5, 2) := by decide +kernel
theorem dX4_apart_82 : decode cX4_apart 82 = .ok (.iload 7, 2) := by decide +kernel
theorem dX4_apart_84 : decode cX4_apart 84 = .ok (.istore 6, 2) := by decide +kernel
theorem dX4_apart_86 : decode cX4_apart 86 = .ok (.iload 7, 2) := by decide +kernel
theorem dX4_apart_88 : decode cX4_apart 88 = .ok (.aload_n 0, 1) := by decide +kernel
theorem dX4_apart_89 : decode cX4_apart 89 = .ok (.iload_n 1, 1) := by decide +kernel
theorem dX4_apart_90 : decode cX4_apart 90 = .ok (.iload_n 2, 1) := by decide +kernel
theorem dX4_apart_91 : decode cX4_apart 91 = .ok (.iload 7, 2) := by decide +kernel
theorem dX4_apart_93 : decode cX4_apart 93 = .ok (.invokevirtual 203, 3) := by decide +kernel
theorem dX4_apart_96 : decode cX4_apart 96 = .ok (.invokestatic 215, 3) := by decide +kernel
theorem dX4_apart_99 : decode cX4_apart 99 = .ok (.iconst 1, 1) := by decide +kernel
theorem dX4_apart_100 : decode cX4_apart 100 = .ok (.iadd, 1) := by decide +kernel
theorem dX4_apart_101 : decode cX4_apart 101 = .ok (.istore 7, 2) := by decide +kernel
theorem dX4_apart_103 : decode cX4_apart 103 = .ok (.goto (-67), 3) := by decide +kernel
theorem dX4_apart_106 : decode cX4_apart 106 = .ok (.aload_n 0, 1) := by decide +kernel
theorem dX4_apart_107 : decode cX4_apart 107 = .ok (.iload 6, 2) := by decide +kernel
theorem dX4_apart_109 : decode cX4_apart 109 = .ok (.putfield 49, 3) := by decide +kernel
theorem dX4_apart_112 : decode cX4_apart 112 = .ok (.iload 5, 2) := by decide +kernel
theorem dX4_apart_114 : decode cX4_apart 114 = .ok (.ireturn, 1) := by decide +kernel
theorem dX4_due_0 : decode cX4_due 0 = .ok (.aload_n 0, 1) := by decide +kernel
theorem dX4_due_1 : decode cX4_due 1 = .ok (.iload_n 1, 1) := by decide +kernel
theorem dX4_due_2 : decode cX4_due 2 = .ok (.invokevirtual 128, 3) := by decide +kernel
theorem dX4_due_5 : decode cX4_due 5 = .ok (.ifCond .eq 14, 3) := by decide +kernel
theorem dX4_due_8 : decode cX4_due 8 = .ok (.iload_n 2, 1) := by decide +kernel
theorem dX4_due_9 : decode cX4_due 9 = .ok (.ifCond .lt 10, 3) := by decide +kernel
theorem dX4_due_12 : decode cX4_due 12 = .ok (.iload_n 3, 1) := by decide +kernel
theorem dX4_due_13 : decode cX4_due 13 = .ok (.invokestatic 224, 3) := by decide +kernel
theorem dX4_due_16 : decode cX4_due 16 = .ok (.ifCond .ne 5, 3) := by decide +kernel
theorem dX4_due_19 : decode cX4_due 19 = .ok (.iconst (-1), 1) := by decide +kernel
theorem dX4_due_20 : decode cX4_due 20 = .ok (.ireturn, 1) := by decide +kernel
theorem dX4_due_21 : decode cX4_due 21 = .ok (.aload_n 0, 1) := by decide +kernel
theorem dX4_due_22 : decode cX4_due 22 = .ok (.getfield 23, 3) := by decide +kernel
theorem dX4_due_25 : decode cX4_due 25 = .ok (.iload_n 1, 1) := by decide +kernel
theorem dX4_due_26 : decode cX4_due 26 = .ok (.aaload, 1) := by decide +kernel
theorem dX4_due_27 : decode cX4_due 27 = .ok (.iload_n 2, 1) := by decide +kernel
theorem dX4_due_28 : decode cX4_due 28 = .ok (.invokevirtual 174, 3) := by decide +kernel
theorem dX4_due_31 : decode cX4_due 31 = .ok (.istore 4, 2) := by decide +kernel
theorem dX4_due_33 : decode cX4_due 33 = .ok (.iload 4, 2) := by decide +kernel
theorem dX4_due_35 : decode cX4_due 35 = .ok (.iconst (-1), 1) := by decide +kernel
theorem dX4_due_36 : decode cX4_due 36 = .ok (.if_icmp .ne 9, 3) := by decide +kernel
theorem dX4_due_39 : decode cX4_due 39 = .ok (.aload_n 0, 1) := by decide +kernel
theorem dX4_due_40 : decode cX4_due 40 = .ok (.iconst 4, 1) := by decide +kernel
theorem dX4_due_41 : decode cX4_due 41 = .ok (.invokevirtual 69, 3) := by decide +kernel
theorem dX4_due_44 : decode cX4_due 44 = .ok (.ireturn, 1) := by decide +kernel
theorem dX4_due_45 : decode cX4_due 45 = .ok (.aload_n 0, 1) := by decide +kernel
theorem dX4_due_46 : decode cX4_due 46 = .ok (.iload 4, 2) := by decide +kernel
theorem dX4_due_48 : decode cX4_due 48 = .ok (.bipush 100, 2) := by decide +kernel
theorem dX4_due_50 : decode cX4_due 50 = .ok (.iload_n 3, 1) := by decide +kernel
theorem dX4_due_51 : decode cX4_due 51 = .ok (.imul, 1) := by decide +kernel
theorem dX4_due_52 : decode cX4_due 52 = .ok (.iadd, 1) := by decide +kernel
theorem dX4_due_53 : decode cX4_due 53 = .ok (.putfield 49, 3) := by decide +kernel
theorem dX4_due_56 : decode cX4_due 56 = .ok (.aload_n 0, 1) := by decide +kernel
theorem dX4_due_57 : decode cX4_due 57 = .ok (.getfield 23, 3) := by decide +kernel
theorem dX4_due_60 : decode cX4_due 60 = .ok (.iload_n 1, 1) := by decide +kernel
theorem dX4_due_61 : decode cX4_due 61 = .ok (.aaload, 1) := by decide +kernel
theorem dX4_due_62 : decode cX4_due 62 = .ok (.iload_n 2, 1) := by decide +kernel
theorem dX4_due_63 : decode cX4_due 63 = .ok (.sipush 1000, 3) := by decide +kernel
theorem dX4_due_66 : decode cX4_due 66 = .ok (.iload_n 3, 1) := by decide +kernel
theorem dX4_due_67 : decode cX4_due 67 = .ok (.imul, 1) := by decide +kernel
theorem dX4_due_68 : decode cX4_due 68 = .ok (.iadd, 1) := by decide +kernel
theorem dX4_due_69 : decode cX4_due 69 = .ok (.invokevirtual 174, 3) := by decide +kernel
theorem dX4_due_72 : decode cX4_due 72 = .ok (.istore 5, 2) := by decide +kernel
theorem dX4_due_74 : decode cX4_due 74 = .ok (.iload 5, 2) := by decide +kernel
theorem dX4_due_76 : decode cX4_due 76 = .ok (.iconst (-1), 1) := by decide +kernel
theorem dX4_due_77 : decode cX4_due 77 = .ok (.if_icmp .ne 8, 3) := by decide +kernel
theorem dX4_due_80 : decode cX4_due 80 = .ok (.bipush (-9), 2) := by decide +kernel
theorem dX4_due_82 : decode cX4_due 82 = .ok (.goto 5, 3) := by decide +kernel
theorem dX4_due_85 : decode cX4_due 85 = .ok (.iload 5, 2) := by decide +kernel
theorem dX4_due_87 : decode cX4_due 87 = .ok (.ireturn, 1) := by decide +kernel
theorem dX4_quarrels_0 : decode cX4_quarrels 0 = .ok (.aload_n 0, 1) := by decide +kernel
theorem dX4_quarrels_1 : decode cX4_quarrels 1 = .ok (.iload_n 1, 1) := by decide +kernel
theorem dX4_quarrels_2 : decode cX4_quarrels 2 = .ok (.invokevirtual 227, 3) := by decide +kernel
theorem dX4_quarrels_5 : decode cX4_quarrels 5 = .ok (.istore_n 2, 1) := by decide +kernel
theorem dX4_quarrels_6 : decode cX4_quarrels 6 = .ok (.iload_n 2, 1) := by decide +kernel
theorem dX4_quarrels_7 : decode cX4_quarrels 7 = .ok (.ifCond .eq 5, 3) := by decide +kernel
theorem dX4_quarrels_10 : decode cX4_quarrels 10 = .ok (.iload_n 2, 1) := by decide +kernel
theorem dX4_quarrels_11 : decode cX4_quarrels 11 = .ok (.ireturn, 1) := by decide +kernel
theorem dX4_quarrels_12 : decode cX4_quarrels 12 = .ok (.aload_n 0, 1) := by decide +kernel
theorem dX4_quarrels_13 : decode cX4_quarrels 13 = .ok (.aload_n 0, 1) := by decide +kernel
theorem dX4_quarrels_14 : decode cX4_quarrels 14 = .ok (.getfield 11, 3) := by decide +kernel
theorem dX4_quarrels_17 : decode cX4_quarrels 17 = .ok (.iload_n 1, 1) := by decide +kernel
theorem dX4_quarrels_18 : decode cX4_quarrels 18 = .ok (.aaload, 1) := by decide +kernel
theorem dX4_quarrels_19 : decode cX4_quarrels 19 = .ok (.invokevirtual 230, 3) := by decide +kernel
theorem dX4_quarrels_22 : decode cX4_quarrels 22 = .ok (.ifCond .eq 9, 3) := by decide +kernel
theorem dX4_quarrels_25 : decode cX4_quarrels 25 = .ok (.aload_n 0, 1) := by decide +kernel
theorem dX4_quarrels_26 : decode cX4_quarrels 26 = .ok (.iconst 3, 1) := by decide +kernel
theorem dX4_quarrels_27 : decode cX4_quarrels 27 = .ok (.invokevirtual 69, 3) := by decide +kernel
theorem dX4_quarrels_30 : decode cX4_quarrels 30 = .ok (.ireturn, 1) := by decide +kernel
theorem dX4_quarrels_31 : decode cX4_quarrels 31 = .ok (.iconst 0, 1) := by decide +kernel
theorem dX4_quarrels_32 : decode cX4_quarrels 32 = .ok (.istore_n 3, 1) := by decide +kernel
theorem dX4_quarrels_33 : decode cX4_quarrels 33 = .ok (.bipush (-9), 2) := by decide +kernel
theorem dX4_quarrels_35 : decode cX4_quarrels 35 = .ok (.istore 4, 2) := by decide +kernel
theorem dX4_quarrels_37 : decode cX4_quarrels 37 = .ok (.iconst 0, 1) := by decide +kernel
theorem dX4_quarrels_38 : decode cX4_quarrels 38 = .ok (.istore 5, 2) := by decide +kernel
theorem dX4_quarrels_40 : decode cX4_quarrels 40 = .ok (.iload 5, 2) := by decide +kernel
theorem dX4_quarrels_42 : decode cX4_quarrels 42 = .ok (.aload_n 0, 1) := by decide +kernel
theorem dX4_quarrels_43 : decode cX4_quarrels 43 = .ok (.getfield 11, 3) := by decide +kernel
theorem dX4_quarrels_46 : decode cX4_quarrels 46 = .ok (.iload_n 1, 1) := by decide +kernel
theorem dX4_quarrels_47 : decode cX4_quarrels 47 = .ok (.aaload, 1) := by decide +kernel
theorem dX4_quarrels_48 : decode cX4_quarrels 48 = .ok (.getfield 87, 3) := by decide +kernel
theorem dX4_quarrels_51 : decode cX4_quarrels 51 = .ok (.iconst 3, 1) := by decide +kernel
theorem dX4_quarrels_52 : decode cX4_quarrels 52 = .ok (.idiv, 1) := by decide +kernel
theorem dX4_quarrels_53 : decode cX4_quarrels 53 = .ok (.if_icmp .ge 45, 3) := by decide +kernel
theorem dX4_quarrels_56 : decode cX4_quarrels 56 = .ok (.aload_n 0, 1) := by decide +kernel
theorem dX4_quarrels_57 : decode cX4_quarrels 57 = .ok (.aload_n 0, 1) := by decide +kernel
theorem dX4_quarrels_58 : decode cX4_quarrels 58 = .ok (.getfield 11, 3) := by decide +kernel
theorem dX4_quarrels_61 : decode cX4_quarrels 61 = .ok (.iload_n 1, 1) := by decide +kernel
theorem dX4_quarrels_62 : decode cX4_quarrels 62 = .ok (.aaload, 1) := by decide +kernel
theorem dX4_quarrels_63 : decode cX4_quarrels 63 = .ok (.iload 5, 2) := by decide +kernel
theorem dX4_quarrels_65 : decode cX4_quarrels 65 = .ok (.bipush (-9), 2) := by decide +kernel
theorem dX4_quarrels_67 : decode cX4_quarrels 67 = .ok (.invokevirtual 234, 3) := by decide +kernel
theorem dX4_quarrels_70 : decode cX4_quarrels 70 = .ok (.ifCond .eq 22, 3) := by decide +kernel
theorem dX4_quarrels_73 : decode cX4_quarrels 73 = .ok (.iinc 3 1, 3) := by decide +kernel
theorem dX4_quarrels_76 : decode cX4_quarrels 76 = .ok (.iload 4, 2) := by decide +kernel
theorem dX4_quarrels_78 : decode cX4_quarrels 78 = .ok (.bipush (-9), 2) := by decide +kernel
theorem dX4_quarrels_80 : decode cX4_quarrels 80 = .ok (.if_icmp .ne 8, 3) := by decide +kernel
theorem dX4_quarrels_83 : decode cX4_quarrels 83 = .ok (.iload 5, 2) := by decide +kernel
theorem dX4_quarrels_85 : decode cX4_quarrels 85 = .ok (.goto 5, 3) := by decide +kernel
theorem dX4_quarrels_88 : decode cX4_quarrels 88 = .ok (.iload 4, 2) := by decide +kernel
theorem dX4_quarrels_90 : decode cX4_quarrels 90 = .ok (.istore 4, 2) := by decide +kernel
theorem dX4_quarrels_92 : decode cX4_quarrels 92 = .ok (.iinc 5 1, 3) := by decide +kernel
theorem dX4_quarrels_95 : decode cX4_quarrels 95 = .ok (.goto (-55), 3) := by decide +kernel
theorem dX4_quarrels_98 : decode cX4_quarrels 98 = .ok (.aload_n 0, 1) := by decide +kernel
theorem dX4_quarrels_99 : decode cX4_quarrels 99 = .ok (.iload 4, 2) := by decide +kernel
theorem dX4_quarrels_101 : decode cX4_quarrels 101 = .ok (.putfield 49, 3) := by decide +kernel
theorem dX4_quarrels_104 : decode cX4_quarrels 104 = .ok (.iload_n 3, 1) := by decide +kernel
theorem dX4_quarrels_105 : decode cX4_quarrels 105 = .ok (.ireturn, 1) := by decide +kernel
theorem dX4_change_0 : decode cX4_change 0 = .ok (.aload_n 0, 1) := by decide +kernel
theorem dX4_change_1 : decode cX4_change 1 = .ok (.iload_n 1, 1) := by decide +kernel
theorem dX4_change_2 : decode cX4_change 2 = .ok (.invokevirtual 128, 3) := by decide +kernel
theorem dX4_change_5 : decode cX4_change 5 = .ok (.ifCond .eq 36, 3) := by decide +kernel
theorem dX4_change_8 : decode cX4_change 8 = .ok (.iload_n 2, 1) := by decide +kernel
theorem dX4_change_9 : decode cX4_change 9 = .ok (.invokestatic 65, 3) := by decide +kernel
theorem dX4_change_12 : decode cX4_change 12 = .ok (.ifCond .eq 29, 3) := by decide +kernel
theorem dX4_change_15 : decode cX4_change 15 = .ok (.iload_n 3, 1) := by decide +kernel
theorem dX4_change_16 : decode cX4_change 16 = .ok (.iload 4, 2) := by decide +kernel
theorem dX4_change_18 : decode cX4_change 18 = .ok (.invokestatic 197, 3) := by decide +kernel
theorem dX4_change_21 : decode cX4_change 21 = .ok (.ifCond .eq 20, 3) := by decide +kernel
theorem dX4_change_24 : decode cX4_change 24 = .ok (.iload 4, 2) := by decide +kernel
theorem dX4_change_26 : decode cX4_change 26 = .ok (.sipush 9999, 3) := by decide +kernel
theorem dX4_change_29 : decode cX4_change 29 = .ok (.if_icmp .gt 12, 3) := by decide +kernel
theorem dX4_change_32 : decode cX4_change 32 = .ok (.iload 4, 2) := by decide +kernel
theorem dX4_change_34 : decode cX4_change 34 = .ok (.iload_n 3, 1) := by decide +kernel
theorem dX4_change_35 : decode cX4_change 35 = .ok (.isub, 1) := by decide +kernel
theorem dX4_change_36 : decode cX4_change 36 = .ok (.bipush 100, 2) := by decide +kernel
theorem dX4_change_38 : decode cX4_change 38 = .ok (.if_icmp .lt 5, 3) := by decide +kernel
theorem dX4_change_41 : decode cX4_change 41 = .ok (.iconst (-1), 1) := by decide +kernel
theorem dX4_change_42 : decode cX4_change 42 = .ok (.ireturn, 1) := by decide +kernel
theorem dX4_change_43 : decode cX4_change 43 = .ok (.aload_n 0, 1) := by decide +kernel
theorem dX4_change_44 : decode cX4_change 44 = .ok (.iload_n 2, 1) := by decide +kernel
theorem dX4_change_45 : decode cX4_change 45 = .ok (.invokevirtual 227, 3) := by decide +kernel
theorem dX4_change_48 : decode cX4_change 48 = .ok (.istore 5, 2) := by decide +kernel
theorem dX4_change_50 : decode cX4_change 50 = .ok (.iload 5, 2) := by decide +kernel
theorem dX4_change_52 : decode cX4_change 52 = .ok (.ifCond .eq 6, 3) := by decide +kernel
theorem dX4_change_55 : decode cX4_change 55 = .ok (.iload 5, 2) := by decide +kernel
theorem dX4_change_57 : decode cX4_change 57 = .ok (.ireturn, 1) := by decide +kernel
theorem dX4_change_58 : decode cX4_change 58 = .ok (.aload_n 0, 1) := by decide +kernel
theorem dX4_change_59 : decode cX4_change 59 = .ok (.getfield 34, 3) := by decide +kernel
theorem dX4_change_62 : decode cX4_change 62 = .ok (.aload_n 0, 1) := by decide +kernel
theorem dX4_change_63 : decode cX4_change 63 = .ok (.getfield 23, 3) := by decide +kernel
theorem dX4_change_66 : decode cX4_change 66 = .ok (.iload_n 1, 1) := by decide +kernel
theorem dX4_change_67 : decode cX4_change 67 = .ok (.aaload, 1) := by decide +kernel
theorem dX4_change_68 : decode cX4_change 68 = .ok (.invokevirtual 238, 3) := by decide +kernel
theorem dX4_change_71 : decode cX4_change 71 = .ok (.bipush 40, 2) := by decide +kernel
theorem dX4_change_73 : decode cX4_change 73 = .ok (.istore 6, 2) := by decide +kernel
theorem dX4_change_75 : decode cX4_change 75 = .ok (.iload_n 3, 1) := by decide +kernel
theorem dX4_change_76 : decode cX4_change 76 = .ok (.istore 7, 2) := by decide +kernel
theorem dX4_change_78 : decode cX4_change 78 = .ok (.iload_n 3, 1) := by decide +kernel
theorem dX4_change_79 : decode cX4_change 79 = .ok (.istore 8, 2) := by decide +kernel
theorem dX4_change_81 : decode cX4_change 81 = .ok (.iload 8, 2) := by decide +kernel
theorem dX4_change_83 : decode cX4_change 83 = .ok (.iload 4, 2) := by decide +kernel
theorem dX4_change_85 : decode cX4_change 85 = .ok (.if_icmp .gt 46, 3) := by decide +kernel
theorem dX4_change_88 : decode cX4_change 88 = .ok (.aload_n 0, 1) := by decide +kernel
theorem dX4_change_89 : decode cX4_change 89 = .ok (.getfield 34, 3) := by decide +kernel
theorem dX4_change_92 : decode cX4_change 92 = .ok (.iload 8, 2) := by decide +kernel
theorem dX4_change_94 : decode cX4_change 94 = .ok (.putfield 144, 3) := by decide +kernel
theorem dX4_change_97 : decode cX4_change 97 = .ok (.aload_n 0, 1) := by decide +kernel
theorem dX4_change_98 : decode cX4_change 98 = .ok (.aload_n 0, 1) := by decide +kernel
theorem dX4_change_99 : decode cX4_change 99 = .ok (.getfield 11, 3) := by decide +kernel
theorem dX4_change_102 : decode cX4_change 102 = .ok (.iload_n 2, 1) := by decide +kernel
theorem dX4_change_103 : decode cX4_change 103 = .ok (.aaload, 1) := by decide +kernel
theorem dX4_change_104 : decode cX4_change 104 = .ok (.iload_n 1, 1) := by decide +kernel
theorem dX4_change_105 : decode cX4_change 105 = .ok (.invokevirtual 242, 3) := by decide +kernel
theorem dX4_change_108 : decode cX4_change 108 = .ok (.istore 9, 2) := by decide +kernel
theorem dX4_change_110 : decode cX4_change 110 = .ok (.iload 9, 2) := by decide +kernel
theorem dX4_change_112 : decode cX4_change 112 = .ok (.iload 6, 2) := by decide +kernel
theorem dX4_change_114 : decode cX4_change 114 = .ok (.if_icmp .ge 11, 3) := by decide +kernel
theorem dX4_change_117 : decode cX4_change 117 = .ok (.iload 9, 2) := by decide +kernel
theorem dX4_change_119 : decode cX4_change 119 = .ok (.istore 6, 2) := by decide +kernel
theorem dX4_change_121 : decode cX4_change 121 = .ok (.iload 8, 2) := by decide +kernel
theorem dX4_change_123 : decode cX4_change 123 = .ok (.istore 7, 2) := by decide +kernel
theorem dX4_change_125 : decode cX4_change 125 = .ok (.iinc 8 1, 3) := by decide +kernel
theorem dX4_change_128 : decode cX4_change 128 = .ok (.goto (-47), 3) := by decide +kernel
theorem dX4_change_131 : decode cX4_change 131 = .ok (.aload_n 0, 1) := by decide +kernel
theorem dX4_change_132 : decode cX4_change 132 = .ok (.iload 6, 2) := by decide +kernel
theorem dX4_change_134 : decode cX4_change 134 = .ok (.putfield 49, 3) := by decide +kernel
theorem dX4_change_137 : decode cX4_change 137 = .ok (.iload 7, 2) := by decide +kernel
theorem dX4_change_139 : decode cX4_change 139 = .ok (.ireturn, 1) := by decide +kernel
theorem dX4_rent_0 : decode cX4_rent 0 = .ok (.aload_n 0, 1) := by decide +kernel
theorem dX4_rent_1 : decode cX4_rent 1 = .ok (.iload_n 1, 1) := by decide +kernel
theorem dX4_rent_2 : decode cX4_rent 2 = .ok (.invokevirtual 128, 3) := by decide +kernel
theorem dX4_rent_5 : decode cX4_rent 5 = .ok (.ifCond .eq 33, 3) := by decide +kernel
theorem dX4_rent_8 : decode cX4_rent 8 = .ok (.iload_n 2, 1) := by decide +kernel
theorem dX4_rent_9 : decode cX4_rent 9 = .ok (.iconst 0, 1) := by decide +kernel
theorem dX4_rent_10 : decode cX4_rent 10 = .ok (.sipush 9999, 3) := by decide +kernel
theorem dX4_rent_13 : decode cX4_rent 13 = .ok (.invokestatic 140, 3) := by decide +kernel
theorem dX4_rent_16 : decode cX4_rent 16 = .ok (.ifCond .eq 22, 3) := by decide +kernel
theorem dX4_rent_19 : decode cX4_rent 19 = .ok (.iload_n 3, 1) := by decide +kernel
theorem dX4_rent_20 : decode cX4_rent 20 = .ok (.iload 4, 2) := by decide +kernel
theorem dX4_rent_22 : decode cX4_rent 22 = .ok (.invokestatic 197, 3) := by decide +kernel
theorem dX4_rent_25 : decode cX4_rent 25 = .ok (.ifCond .eq 13, 3) := by decide +kernel
theorem dX4_rent_28 : decode cX4_rent 28 = .ok (.iload 4, 2) := by decide +kernel
theorem dX4_rent_30 : decode cX4_rent 30 = .ok (.iload_n 3, 1) := by decide +kernel
theorem dX4_rent_31 : decode cX4_rent 31 = .ok (.isub, 1) := by decide +kernel
theorem dX4_rent_32 : decode cX4_rent 32 = .ok (.sipush 400, 3) := by decide +kernel
theorem dX4_rent_35 : decode cX4_rent 35 = .ok (.if_icmp .le 5, 3) := by decide +kernel
theorem dX4_rent_38 : decode cX4_rent 38 = .ok (.iconst (-1), 1) := by decide +kernel
theorem dX4_rent_39 : decode cX4_rent 39 = .ok (.ireturn, 1) := by decide +kernel
theorem dX4_rent_40 : decode cX4_rent 40 = .ok (.iconst 0, 1) := by decide +kernel
theorem dX4_rent_41 : decode cX4_rent 41 = .ok (.istore 5, 2) := by decide +kernel
theorem dX4_rent_43 : decode cX4_rent 43 = .ok (.iload_n 3, 1) := by decide +kernel
theorem dX4_rent_44 : decode cX4_rent 44 = .ok (.istore 6, 2) := by decide +kernel
theorem dX4_rent_46 : decode cX4_rent 46 = .ok (.iload 6, 2) := by decide +kernel
theorem dX4_rent_48 : decode cX4_rent 48 = .ok (.iload 4, 2) := by decide +kernel
theorem dX4_rent_50 : decode cX4_rent 50 = .ok (.if_icmp .ge 41, 3) := by decide +kernel
theorem dX4_rent_53 : decode cX4_rent 53 = .ok (.aload_n 0, 1) := by decide +kernel
theorem dX4_rent_54 : decode cX4_rent 54 = .ok (.getfield 23, 3) := by decide +kernel
theorem dX4_rent_57 : decode cX4_rent 57 = .ok (.iload_n 1, 1) := by decide +kernel
theorem dX4_rent_58 : decode cX4_rent 58 = .ok (.aaload, 1) := by decide +kernel
theorem dX4_rent_59 : decode cX4_rent 59 = .ok (.aload_n 0, 1) := by decide +kernel
theorem dX4_rent_60 : decode cX4_rent 60 = .ok (.getfield 23, 3) := by decide +kernel
theorem dX4_rent_63 : decode cX4_rent 63 = .ok (.iload_n 1, 1) := by decide +kernel
theorem dX4_rent_64 : decode cX4_rent 64 = .ok (.aaload, 1) := by decide +kernel
theorem dX4_rent_65 : decode cX4_rent 65 = .ok (.iload 6, 2) := by decide +kernel
theorem dX4_rent_67 : decode cX4_rent 67 = .ok (.invokevirtual 171, 3) := by decide +kernel
theorem dX4_rent_70 : decode cX4_rent 70 = .ok (.sipush 1000, 3) := by decide +kernel
theorem dX4_rent_73 : decode cX4_rent 73 = .ok (.idiv, 1) := by decide +kernel
theorem dX4_rent_74 : decode cX4_rent 74 = .ok (.invokevirtual 177, 3) := by decide +kernel
theorem dX4_rent_77 : decode cX4_rent 77 = .ok (.bipush 101, 2) := by decide +kernel
theorem dX4_rent_79 : decode cX4_rent 79 = .ok (.if_icmp .ne 6, 3) := by decide +kernel
theorem dX4_rent_82 : decode cX4_rent 82 = .ok (.iinc 5 1, 3) := by decide +kernel
theorem dX4_rent_85 : decode cX4_rent 85 = .ok (.iinc 6 1, 3) := by decide +kernel
theorem dX4_rent_88 : decode cX4_rent 88 = .ok (.goto (-42), 3) := by decide +kernel
theorem dX4_rent_91 : decode cX4_rent 91 = .ok (.iload 4, 2) := by decide +kernel
theorem dX4_rent_93 : decode cX4_rent 93 = .ok (.iload_n 3, 1) := by decide +kernel
theorem dX4_rent_94 : decode cX4_rent 94 = .ok (.isub, 1) := by decide +kernel
theorem dX4_rent_95 : decode cX4_rent 95 = .ok (.iload 5, 2) := by decide +kernel
theorem dX4_rent_97 : decode cX4_rent 97 = .ok (.isub, 1) := by decide +kernel
theorem dX4_rent_98 : decode cX4_rent 98 = .ok (.i2l, 1) := by decide +kernel
theorem dX4_rent_99 : decode cX4_rent 99 = .ok (.lstore 6, 2) := by decide +kernel
theorem dX4_rent_101 : decode cX4_rent 101 = .ok (.aload_n 0, 1) := by decide +kernel
theorem dX4_rent_102 : decode cX4_rent 102 = .ok (.getfield 23, 3) := by decide +kernel
theorem dX4_rent_105 : decode cX4_rent 105 = .ok (.iload_n 1, 1) := by decide +kernel
theorem dX4_rent_106 : decode cX4_rent 106 = .ok (.aaload, 1) := by decide +kernel
theorem dX4_rent_107 : decode cX4_rent 107 = .ok (.invokevirtual 246, 3) := by decide +kernel
theorem dX4_rent_110 : decode cX4_rent 110 = .ok (.i2l, 1) := by decide +kernel
theorem dX4_rent_111 : decode cX4_rent 111 = .ok (.lstore 8, 2) := by decide +kernel
theorem dX4_rent_113 : decode cX4_rent 113 = .ok (.aload_n 0, 1) := by decide +kernel
theorem dX4_rent_114 : decode cX4_rent 114 = .ok (.iload_n 2, 1) := by decide +kernel
theorem dX4_rent_115 : decode cX4_rent 115 = .ok (.i2l, 1) := by decide +kernel
theorem dX4_rent_116 : decode cX4_rent 116 = .ok (.lload 6, 2) := by decide +kernel
theorem dX4_rent_118 : decode cX4_rent 118 = .ok (.ldc2_w 249, 3) := by decide +kernel
theorem dX4_rent_121 : decode cX4_rent 121 = .ok (.lmul, 1) := by decide +kernel
theorem dX4_rent_122 : decode cX4_rent 122 = .ok (.iload 5, 2) := by decide +kernel
theorem dX4_rent_124 : decode cX4_rent 124 = .ok (.i2l, 1) := by decide +kernel
theorem dX4_rent_125 : decode cX4_rent 125 = .ok (.lload 8, 2) := by decide +kernel
theorem dX4_rent_127 : decode cX4_rent 127 = .ok (.lmul, 1) := by decide +kernel
theorem dX4_rent_128 : decode cX4_rent 128 = .ok (.ladd, 1) := by decide +kernel
theorem dX4_rent_129 : decode cX4_rent 129 = .ok (.lmul, 1) := by decide +kernel
theorem dX4_rent_130 : decode cX4_rent 130 = .ok (.lload 8, 2) := by decide +kernel
theorem dX4_rent_132 : decode cX4_rent 132 = .ok (.ldc2_w 249, 3) := by decide +kernel
theorem dX4_rent_135 : decode cX4_rent 135 = .ok (.lmul, 1) := by decide +kernel
theorem dX4_rent_136 : decode cX4_rent 136 = .ok (.invokevirtual 251, 3) := by decide +kernel
theorem dX4_rent_139 : decode cX4_rent 139 = .ok (.iconst 1, 1) := by decide +kernel
theorem dX4_rent_140 : decode cX4_rent 140 = .ok (.ireturn, 1) := by decide +kernel
theorem dX4_voyage_0 : decode cX4_voyage 0 = .ok (.aload_n 0, 1) := by decide +kernel
theorem dX4_voyage_1 : decode cX4_voyage 1 = .ok (.iload_n 1, 1) := by decide +kernel
theorem dX4_voyage_2 : decode cX4_voyage 2 = .ok (.invokevirtual 128, 3) := by decide +kernel
theorem dX4_voyage_5 : decode cX4_voyage 5 = .ok (.ifCond .eq 30, 3) := by decide +kernel
theorem dX4_voyage_8 : decode cX4_voyage 8 = .ok (.aload_n 0, 1) := by decide +kernel
theorem dX4_voyage_9 : decode cX4_voyage 9 = .ok (.iload_n 2, 1) := by decide +kernel
theorem dX4_voyage_10 : decode cX4_voyage 10 = .ok (.invokevirtual 128, 3) := by decide +kernel
theorem dX4_voyage_13 : decode cX4_voyage 13 = .ok (.ifCond .eq 22, 3) := by decide +kernel
theorem dX4_voyage_16 : decode cX4_voyage 16 = .ok (.iload_n 3, 1) := by decide +kernel
theorem dX4_voyage_17 : decode cX4_voyage 17 = .ok (.invokestatic 168, 3) := by decide +kernel
theorem dX4_voyage_20 : decode cX4_voyage 20 = .ok (.ifCond .eq 15, 3) := by decide +kernel
theorem dX4_voyage_23 : decode cX4_voyage 23 = .ok (.iload 4, 2) := by decide +kernel
theorem dX4_voyage_25 : decode cX4_voyage 25 = .ok (.iconst 0, 1) := by decide +kernel
theorem dX4_voyage_26 : decode cX4_voyage 26 = .ok (.sipush 999, 3) := by decide +kernel
theorem dX4_voyage_29 : decode cX4_voyage 29 = .ok (.invokestatic 140, 3) := by decide +kernel
theorem dX4_voyage_32 : decode cX4_voyage 32 = .ok (.ifCond .ne 5, 3) := by decide +kernel
theorem dX4_voyage_35 : decode cX4_voyage 35 = .ok (.iconst (-1), 1) := by decide +kernel
theorem dX4_voyage_36 : decode cX4_voyage 36 = .ok (.ireturn, 1) := by decide +kernel
theorem dX4_voyage_37 : decode cX4_voyage 37 = .ok (.iload_n 3, 1) := by decide +kernel
theorem dX4_voyage_38 : decode cX4_voyage 38 = .ok (.iload 4, 2) := by decide +kernel
theorem dX4_voyage_40 : decode cX4_voyage 40 = .ok (.iadd, 1) := by decide +kernel
theorem dX4_voyage_41 : decode cX4_voyage 41 = .ok (.sipush 19999, 3) := by decide +kernel
theorem dX4_voyage_44 : decode cX4_voyage 44 = .ok (.if_icmp .le 6, 3) := by decide +kernel
theorem dX4_voyage_47 : decode cX4_voyage 47 = .ok (.bipush (-6), 2) := by decide +kernel
theorem dX4_voyage_49 : decode cX4_voyage 49 = .ok (.ireturn, 1) := by decide +kernel
theorem dX4_voyage_50 : decode cX4_voyage 50 = .ok (.aload_n 0, 1) := by decide +kernel
theorem dX4_voyage_51 : decode cX4_voyage 51 = .ok (.aload_n 0, 1) := by decide +kernel
theorem dX4_voyage_52 : decode cX4_voyage 52 = .ok (.getfield 23, 3) := by decide +kernel
theorem dX4_voyage_55 : decode cX4_voyage 55 = .ok (.iload_n 2, 1) := by decide +kernel
theorem dX4_voyage_56 : decode cX4_voyage 56 = .ok (.aaload, 1) := by decide +kernel
theorem dX4_voyage_57 : decode cX4_voyage 57 = .ok (.iload_n 3, 1) := by decide +kernel
theorem dX4_voyage_58 : decode cX4_voyage 58 = .ok (.iload 4, 2) := by decide +kernel
theorem dX4_voyage_60 : decode cX4_voyage 60 = .ok (.iadd, 1) := by decide +kernel
theorem dX4_voyage_61 : decode cX4_voyage 61 = .ok (.invokevirtual 218, 3) := by decide +kernel
theorem dX4_voyage_64 : decode cX4_voyage 64 = .ok (.aload_n 0, 1) := by decide +kernel
theorem dX4_voyage_65 : decode cX4_voyage 65 = .ok (.getfield 23, 3) := by decide +kernel
theorem dX4_voyage_68 : decode cX4_voyage 68 = .ok (.iload_n 1, 1) := by decide +kernel
theorem dX4_voyage_69 : decode cX4_voyage 69 = .ok (.aaload, 1) := by decide +kernel
theorem dX4_voyage_70 : decode cX4_voyage 70 = .ok (.iload_n 3, 1) := by decide +kernel
theorem dX4_voyage_71 : decode cX4_voyage 71 = .ok (.invokevirtual 218, 3) := by decide +kernel
theorem dX4_voyage_74 : decode cX4_voyage 74 = .ok (.isub, 1) := by decide +kernel
theorem dX4_voyage_75 : decode cX4_voyage 75 = .ok (.putfield 49, 3) := by decide +kernel
theorem dX4_voyage_78 : decode cX4_voyage 78 = .ok (.iconst 1, 1) := by decide +kernel
theorem dX4_voyage_79 : decode cX4_voyage 79 = .ok (.ireturn, 1) := by decide +kernel
theorem dX4_dated_0 : decode cX4_dated 0 = .ok (.iload_n 1, 1) := by decide +kernel
theorem dX4_dated_1 : decode cX4_dated 1 = .ok (.ifCond .lt 11, 3) := by decide +kernel
theorem dX4_dated_4 : decode cX4_dated 4 = .ok (.iload_n 2, 1) := by decide +kernel
theorem dX4_dated_5 : decode cX4_dated 5 = .ok (.iload_n 3, 1) := by decide +kernel
theorem dX4_dated_6 : decode cX4_dated 6 = .ok (.invokestatic 197, 3) := by decide +kernel
theorem dX4_dated_9 : decode cX4_dated 9 = .ok (.ifCond .ne 5, 3) := by decide +kernel
theorem dX4_dated_12 : decode cX4_dated 12 = .ok (.iconst (-1), 1) := by decide +kernel
theorem dX4_dated_13 : decode cX4_dated 13 = .ok (.ireturn, 1) := by decide +kernel
theorem dX4_dated_14 : decode cX4_dated 14 = .ok (.iconst 0, 1) := by decide +kernel
theorem dX4_dated_15 : decode cX4_dated 15 = .ok (.istore 4, 2) := by decide +kernel
theorem dX4_dated_17 : decode cX4_dated 17 = .ok (.iconst 0, 1) := by decide +kernel
theorem dX4_dated_18 : decode cX4_dated 18 = .ok (.istore 5, 2) := by decide +kernel
theorem dX4_dated_20 : decode cX4_dated 20 = .ok (.iload 5, 2) := by decide +kernel
theorem dX4_dated_22 : decode cX4_dated 22 = .ok (.aload_n 0, 1) := by decide +kernel
theorem dX4_dated_23 : decode cX4_dated 23 = .ok (.getfield 42, 3) := by decide +kernel
theorem dX4_dated_26 : decode cX4_dated 26 = .ok (.if_icmp .ge 49, 3) := by decide +kernel
theorem dX4_dated_29 : decode cX4_dated 29 = .ok (.aload_n 0, 1) := by decide +kernel
theorem dX4_dated_30 : decode cX4_dated 30 = .ok (.getfield 23, 3) := by decide +kernel
theorem dX4_dated_33 : decode cX4_dated 33 = .ok (.iload 5, 2) := by decide +kernel
theorem dX4_dated_35 : decode cX4_dated 35 = .ok (.aaload, 1) := by decide +kernel
theorem dX4_dated_36 : decode cX4_dated 36 = .ok (.iload_n 1, 1) := by decide +kernel
theorem dX4_dated_37 : decode cX4_dated 37 = .ok (.invokevirtual 174, 3) := by decide +kernel
theorem dX4_dated_40 : decode cX4_dated 40 = .ok (.istore 6, 2) := by decide +kernel
theorem dX4_dated_42 : decode cX4_dated 42 = .ok (.iload 6, 2) := by decide +kernel
theorem dX4_dated_44 : decode cX4_dated 44 = .ok (.iconst (-1), 1) := by decide +kernel
theorem dX4_dated_45 : decode cX4_dated 45 = .ok (.if_icmp .eq 24, 3) := by decide +kernel
theorem dX4_dated_48 : decode cX4_dated 48 = .ok (.iload 6, 2) := by decide +kernel
theorem dX4_dated_50 : decode cX4_dated 50 = .ok (.iload_n 2, 1) := by decide +kernel
theorem dX4_dated_51 : decode cX4_dated 51 = .ok (.if_icmp .lt 18, 3) := by decide +kernel
theorem dX4_dated_54 : decode cX4_dated 54 = .ok (.iload 6, 2) := by decide +kernel
theorem dX4_dated_56 : decode cX4_dated 56 = .ok (.iload_n 3, 1) := by decide +kernel
theorem dX4_dated_57 : decode cX4_dated 57 = .ok (.if_icmp .gt 12, 3) := by decide +kernel
theorem dX4_dated_60 : decode cX4_dated 60 = .ok (.iload 4, 2) := by decide +kernel
theorem dX4_dated_62 : decode cX4_dated 62 = .ok (.iconst 1, 1) := by decide +kernel
theorem dX4_dated_63 : decode cX4_dated 63 = .ok (.iload 5, 2) := by decide +kernel
theorem dX4_dated_65 : decode cX4_dated 65 = .ok (.ishl, 1) := by decide +kernel
theorem dX4_dated_66 : decode cX4_dated 66 = .ok (.ior, 1) := by decide +kernel
theorem dX4_dated_67 : decode cX4_dated 67 = .ok (.istore 4, 2) := by decide +kernel
theorem dX4_dated_69 : decode cX4_dated 69 = .ok (.iinc 5 1, 3) := by decide +kernel
theorem dX4_dated_72 : decode cX4_dated 72 = .ok (.goto (-52), 3) := by decide +kernel
theorem dX4_dated_75 : decode cX4_dated 75 = .ok (.iload 4, 2) := by decide +kernel
theorem dX4_dated_77 : decode cX4_dated 77 = .ok (.ireturn, 1) := by decide +kernel
theorem dX4_kinds_0 : decode cX4_kinds 0 = .ok (.aload_n 0, 1) := by decide +kernel
theorem dX4_kinds_1 : decode cX4_kinds 1 = .ok (.iload_n 1, 1) := by decide +kernel
theorem dX4_kinds_2 : decode cX4_kinds 2 = .ok (.invokevirtual 128, 3) := by decide +kernel
theorem dX4_kinds_5 : decode cX4_kinds 5 = .ok (.ifCond .ne 5, 3) := by decide +kernel
theorem dX4_kinds_8 : decode cX4_kinds 8 = .ok (.iconst (-1), 1) := by decide +kernel
theorem dX4_kinds_9 : decode cX4_kinds 9 = .ok (.ireturn, 1) := by decide +kernel
theorem dX4_kinds_10 : decode cX4_kinds 10 = .ok (.aload_n 0, 1) := by decide +kernel
theorem dX4_kinds_11 : decode cX4_kinds 11 = .ok (.iload_n 2, 1) := by decide +kernel
theorem dX4_kinds_12 : decode cX4_kinds 12 = .ok (.invokevirtual 84, 3) := by decide +kernel
theorem dX4_kinds_15 : decode cX4_kinds 15 = .ok (.istore_n 3, 1) := by decide +kernel
theorem dX4_kinds_16 : decode cX4_kinds 16 = .ok (.iload_n 3, 1) := by decide +kernel
theorem dX4_kinds_17 : decode cX4_kinds 17 = .ok (.ifCond .eq 5, 3) := by decide +kernel
theorem dX4_kinds_20 : decode cX4_kinds 20 = .ok (.iload_n 3, 1) := by decide +kernel
theorem dX4_kinds_21 : decode cX4_kinds 21 = .ok (.ireturn, 1) := by decide +kernel
theorem dX4_kinds_22 : decode cX4_kinds 22 = .ok (.aload_n 0, 1) := by decide +kernel
theorem dX4_kinds_23 : decode cX4_kinds 23 = .ok (.getfield 11, 3) := by decide +kernel
theorem dX4_kinds_26 : decode cX4_kinds 26 = .ok (.iload_n 2, 1) := by decide +kernel
theorem dX4_kinds_27 : decode cX4_kinds 27 = .ok (.aaload, 1) := by decide +kernel
theorem dX4_kinds_28 : decode cX4_kinds 28 = .ok (.getfield 87, 3) := by decide +kernel
theorem dX4_kinds_31 : decode cX4_kinds 31 = .ok (.iconst 2, 1) := by decide +kernel
theorem dX4_kinds_32 : decode cX4_kinds 32 = .ok (.irem, 1) := by decide +kernel
theorem dX4_kinds_33 : decode cX4_kinds 33 = .ok (.ifCond .eq 9, 3) := by decide +kernel
theorem dX4_kinds_36 : decode cX4_kinds 36 = .ok (.aload_n 0, 1) := by decide +kernel
theorem dX4_kinds_37 : decode cX4_kinds 37 = .ok (.iconst 5, 1) := by decide +kernel
theorem dX4_kinds_38 : decode cX4_kinds 38 = .ok (.invokevirtual 69, 3) := by decide +kernel
theorem dX4_kinds_41 : decode cX4_kinds 41 = .ok (.ireturn, 1) := by decide +kernel
theorem dX4_kinds_42 : decode cX4_kinds 42 = .ok (.aload_n 0, 1) := by decide +kernel
theorem dX4_kinds_43 : decode cX4_kinds 43 = .ok (.getfield 11, 3) := by decide +kernel
theorem dX4_kinds_46 : decode cX4_kinds 46 = .ok (.iload_n 2, 1) := by decide +kernel
theorem dX4_kinds_47 : decode cX4_kinds 47 = .ok (.aaload, 1) := by decide +kernel
theorem dX4_kinds_48 : decode cX4_kinds 48 = .ok (.invokestatic 255, 3) := by decide +kernel
theorem dX4_kinds_51 : decode cX4_kinds 51 = .ok (.ifCond .ne 9, 3) := by decide +kernel
theorem dX4_kinds_54 : decode cX4_kinds 54 = .ok (.aload_n 0, 1) := by decide +kernel
theorem dX4_kinds_55 : decode cX4_kinds 55 = .ok (.iconst 3, 1) := by decide +kernel
theorem dX4_kinds_56 : decode cX4_kinds 56 = .ok (.invokevirtual 69, 3) := by decide +kernel
theorem dX4_kinds_59 : decode cX4_kinds 59 = .ok (.ireturn, 1) := by decide +kernel
theorem dX4_kinds_60 : decode cX4_kinds 60 = .ok (.iconst 0, 1) := by decide +kernel
theorem dX4_kinds_61 : decode cX4_kinds 61 = .ok (.istore 4, 2) := by decide +kernel
theorem dX4_kinds_63 : decode cX4_kinds 63 = .ok (.aload_n 0, 1) := by decide +kernel
theorem dX4_kinds_64 : decode cX4_kinds 64 = .ok (.getfield 34, 3) := by decide +kernel
theorem dX4_kinds_67 : decode cX4_kinds 67 = .ok (.aload_n 0, 1) := by decide +kernel
theorem dX4_kinds_68 : decode cX4_kinds 68 = .ok (.getfield 23, 3) := by decide +kernel
theorem dX4_kinds_71 : decode cX4_kinds 71 = .ok (.iload_n 1, 1) := by decide +kernel
theorem dX4_kinds_72 : decode cX4_kinds 72 = .ok (.aaload, 1) := by decide +kernel
theorem dX4_kinds_73 : decode cX4_kinds 73 = .ok (.invokevirtual 238, 3) := by decide +kernel
theorem dX4_kinds_76 : decode cX4_kinds 76 = .ok (.iconst 0, 1) := by decide +kernel
theorem dX4_kinds_77 : decode cX4_kinds 77 = .ok (.istore 5, 2) := by decide +kernel
theorem dX4_kinds_79 : decode cX4_kinds 79 = .ok (.iload 5, 2) := by decide +kernel
theorem dX4_kinds_81 : decode cX4_kinds 81 = .ok (.bipush 6, 2) := by decide +kernel
theorem dX4_kinds_83 : decode cX4_kinds 83 = .ok (.if_icmp .ge 43, 3) := by decide +kernel
theorem dX4_kinds_86 : decode cX4_kinds 86 = .ok (.aload_n 0, 1) := by decide +kernel
theorem dX4_kinds_87 : decode cX4_kinds 87 = .ok (.getfield 34, 3) := by decide +kernel
theorem dX4_kinds_90 : decode cX4_kinds 90 = .ok (.iload 5, 2) := by decide +kernel
theorem dX4_kinds_92 : decode cX4_kinds 92 = .ok (.putfield 258, 3) := by decide +kernel
theorem dX4_kinds_95 : decode cX4_kinds 95 = .ok (.aload_n 0, 1) := by decide +kernel
theorem dX4_kinds_96 : decode cX4_kinds 96 = .ok (.getfield 34, 3) := by decide +kernel
theorem dX4_kinds_99 : decode cX4_kinds 99 = .ok (.aload_n 0, 1) := by decide +kernel
theorem dX4_kinds_100 : decode cX4_kinds 100 = .ok (.getfield 11, 3) := by decide +kernel
theorem dX4_kinds_103 : decode cX4_kinds 103 = .ok (.iload_n 2, 1) := by decide +kernel
theorem dX4_kinds_104 : decode cX4_kinds 104 = .ok (.aaload, 1) := by decide +kernel
theorem dX4_kinds_105 : decode cX4_kinds 105 = .ok (.invokestatic 261, 3) := by decide +kernel
theorem dX4_kinds_108 : decode cX4_kinds 108 = .ok (.ifCond .eq 12, 3) := by decide +kernel
theorem dX4_kinds_111 : decode cX4_kinds 111 = .ok (.iload 4, 2) := by decide +kernel
theorem dX4_kinds_113 : decode cX4_kinds 113 = .ok (.iconst 1, 1) := by decide +kernel
theorem dX4_kinds_114 : decode cX4_kinds 114 = .ok (.iload 5, 2) := by decide +kernel
theorem dX4_kinds_116 : decode cX4_kinds 116 = .ok (.ishl, 1) := by decide +kernel
theorem dX4_kinds_117 : decode cX4_kinds 117 = .ok (.ior, 1) := by decide +kernel
theorem dX4_kinds_118 : decode cX4_kinds 118 = .ok (.istore 4, 2) := by decide +kernel
theorem dX4_kinds_120 : decode cX4_kinds 120 = .ok (.iinc 5 1, 3) := by decide +kernel
theorem dX4_kinds_123 : decode cX4_kinds 123 = .ok (.goto (-44), 3) := by decide +kernel
theorem dX4_kinds_126 : decode cX4_kinds 126 = .ok (.iload 4, 2) := by decide +kernel
theorem dX4_kinds_128 : decode cX4_kinds 128 = .ok (.ireturn, 1) := by decide +kernel
theorem dX4_moon_0 : decode cX4_moon 0 = .ok (.iload_n 1, 1) := by decide +kernel
theorem dX4_moon_1 : decode cX4_moon 1 = .ok (.invokestatic 168, 3) := by decide +kernel
theorem dX4_moon_4 : decode cX4_moon 4 = .ok (.ifCond .ne 5, 3) := by decide +kernel
theorem dX4_moon_7 : decode cX4_moon 7 = .ok (.iconst (-1), 1) := by decide +kernel
theorem dX4_moon_8 : decode cX4_moon 8 = .ok (.ireturn, 1) := by decide +kernel
theorem dX4_moon_9 : decode cX4_moon 9 = .ok (.aload_n 0, 1) := by decide +kernel
theorem dX4_moon_10 : decode cX4_moon 10 = .ok (.iload_n 1, 1) := by decide +kernel
theorem dX4_moon_11 : decode cX4_moon 11 = .ok (.invokestatic 265, 3) := by decide +kernel
theorem dX4_moon_14 : decode cX4_moon 14 = .ok (.putfield 49, 3) := by decide +kernel
theorem dX4_moon_17 : decode cX4_moon 17 = .ok (.aload_n 0, 1) := by decide +kernel
theorem dX4_moon_18 : decode cX4_moon 18 = .ok (.getfield 49, 3) := by decide +kernel
theorem dX4_moon_21 : decode cX4_moon 21 = .ok (.ifCond .ne 7, 3) := by decide +kernel
theorem dX4_moon_24 : decode cX4_moon 24 = .ok (.iconst 1, 1) := by decide +kernel
theorem dX4_moon_25 : decode cX4_moon 25 = .ok (.goto 4, 3) := by decide +kernel
theorem dX4_moon_28 : decode cX4_moon 28 = .ok (.iconst 0, 1) := by decide +kernel
theorem dX4_moon_29 : decode cX4_moon 29 = .ok (.ireturn, 1) := by decide +kernel
theorem dX4_feast_0 : decode cX4_feast 0 = .ok (.aload_n 0, 1) := by decide +kernel
theorem dX4_feast_1 : decode cX4_feast 1 = .ok (.iload_n 1, 1) := by decide +kernel
theorem dX4_feast_2 : decode cX4_feast 2 = .ok (.invokevirtual 128, 3) := by decide +kernel
theorem dX4_feast_5 : decode cX4_feast 5 = .ok (.ifCond .eq 23, 3) := by decide +kernel
theorem dX4_feast_8 : decode cX4_feast 8 = .ok (.iload_n 2, 1) := by decide +kernel
theorem dX4_feast_9 : decode cX4_feast 9 = .ok (.invokestatic 268, 3) := by decide +kernel
theorem dX4_feast_12 : decode cX4_feast 12 = .ok (.ifCond .eq 16, 3) := by decide +kernel
theorem dX4_feast_15 : decode cX4_feast 15 = .ok (.aload_n 0, 1) := by decide +kernel
theorem dX4_feast_16 : decode cX4_feast 16 = .ok (.getfield 23, 3) := by decide +kernel
theorem dX4_feast_19 : decode cX4_feast 19 = .ok (.iload_n 1, 1) := by decide +kernel
theorem dX4_feast_20 : decode cX4_feast 20 = .ok (.aaload, 1) := by decide +kernel
theorem dX4_feast_21 : decode cX4_feast 21 = .ok (.iload_n 2, 1) := by decide +kernel
theorem dX4_feast_22 : decode cX4_feast 22 = .ok (.invokestatic 271, 3) := by decide +kernel
theorem dX4_feast_25 : decode cX4_feast 25 = .ok (.goto 4, 3) := by decide +kernel
theorem dX4_feast_28 : decode cX4_feast 28 = .ok (.iconst (-1), 1) := by decide +kernel
theorem dX4_feast_29 : decode cX4_feast 29 = .ok (.ireturn, 1) := by decide +kernel
theorem dX4_together_0 : decode cX4_together 0 = .ok (.aload_n 0, 1) := by decide +kernel
theorem dX4_together_1 : decode cX4_together 1 = .ok (.iload_n 1, 1) := by decide +kernel
theorem dX4_together_2 : decode cX4_together 2 = .ok (.invokevirtual 128, 3) := by decide +kernel
theorem dX4_together_5 : decode cX4_together 5 = .ok (.ifCond .eq 32, 3) := by decide +kernel
theorem dX4_together_8 : decode cX4_together 8 = .ok (.aload_n 0, 1) := by decide +kernel
theorem dX4_together_9 : decode cX4_together 9 = .ok (.iload_n 2, 1) := by decide +kernel
theorem dX4_together_10 : decode cX4_together 10 = .ok (.invokevirtual 128, 3) := by decide +kernel
theorem dX4_together_13 : decode cX4_together 13 = .ok (.ifCond .eq 24, 3) := by decide +kernel
theorem dX4_together_16 : decode cX4_together 16 = .ok (.iload_n 3, 1) := by decide +kernel
theorem dX4_together_17 : decode cX4_together 17 = .ok (.invokestatic 268, 3) := by decide +kernel
theorem dX4_together_20 : decode cX4_together 20 = .ok (.ifCond .eq 17, 3) := by decide +kernel
theorem dX4_together_23 : decode cX4_together 23 = .ok (.iload 4, 2) := by decide +kernel
theorem dX4_together_25 : decode cX4_together 25 = .ok (.invokestatic 268, 3) := by decide +kernel
theorem dX4_together_28 : decode cX4_together 28 = .ok (.ifCond .eq 9, 3) := by decide +kernel
theorem dX4_together_31 : decode cX4_together 31 = .ok (.iload 4, 2) := by decide +kernel
theorem dX4_together_33 : decode cX4_together 33 = .ok (.iload_n 3, 1) := by decide +kernel
theorem dX4_together_34 : decode cX4_together 34 = .ok (.if_icmp .ge 5, 3) := by decide +kernel
theorem dX4_together_37 : decode cX4_together 37 = .ok (.iconst (-1), 1) := by decide +kernel
theorem dX4_together_38 : decode cX4_together 38 = .ok (.ireturn, 1) := by decide +kernel
theorem dX4_together_39 : decode cX4_together 39 = .ok (.iconst 0, 1) := by decide +kernel
theorem dX4_together_40 : decode cX4_together 40 = .ok (.istore 5, 2) := by decide +kernel
theorem dX4_together_42 : decode cX4_together 42 = .ok (.iload_n 3, 1) := by decide +kernel
theorem dX4_together_43 : decode cX4_together 43 = .ok (.istore 6, 2) := by decide +kernel
theorem dX4_together_45 : decode cX4_together 45 = .ok (.iload 6, 2) := by decide +kernel
theorem dX4_together_47 : decode cX4_together 47 = .ok (.iload 4, 2) := by decide +kernel
theorem dX4_together_49 : decode cX4_together 49 = .ok (.if_icmp .gt 48, 3) := by decide +kernel
theorem dX4_together_52 : decode cX4_together 52 = .ok (.aload_n 0, 1) := by decide +kernel
theorem dX4_together_53 : decode cX4_together 53 = .ok (.getfield 23, 3) := by decide +kernel
theorem dX4_together_56 : decode cX4_together 56 = .ok (.iload_n 1, 1) := by decide +kernel
theorem dX4_together_57 : decode cX4_together 57 = .ok (.aaload, 1) := by decide +kernel
theorem dX4_together_58 : decode cX4_together 58 = .ok (.iload 6, 2) := by decide +kernel
theorem dX4_together_60 : decode cX4_together 60 = .ok (.invokestatic 271, 3) := by decide +kernel
theorem dX4_together_63 : decode cX4_together 63 = .ok (.istore 7, 2) := by decide +kernel
theorem dX4_together_65 : decode cX4_together 65 = .ok (.iload 7, 2) := by decide +kernel
theorem dX4_together_67 : decode cX4_together 67 = .ok (.bipush (-9), 2) := by decide +kernel
theorem dX4_together_69 : decode cX4_together 69 = .ok (.if_icmp .eq 22, 3) := by decide +kernel
theorem dX4_together_72 : decode cX4_together 72 = .ok (.iload 7, 2) := by decide +kernel
theorem dX4_together_74 : decode cX4_together 74 = .ok (.aload_n 0, 1) := by decide +kernel
theorem dX4_together_75 : decode cX4_together 75 = .ok (.getfield 23, 3) := by decide +kernel
theorem dX4_together_78 : decode cX4_together 78 = .ok (.iload_n 2, 1) := by decide +kernel
theorem dX4_together_79 : decode cX4_together 79 = .ok (.aaload, 1) := by decide +kernel
theorem dX4_together_80 : decode cX4_together 80 = .ok (.iload 6, 2) := by decide +kernel
theorem dX4_together_82 : decode cX4_together 82 = .ok (.invokestatic 271, 3) := by decide +kernel
theorem dX4_together_85 : decode cX4_together 85 = .ok (.if_icmp .ne 6, 3) := by decide +kernel
theorem dX4_together_88 : decode cX4_together 88 = .ok (.iinc 5 1, 3) := by decide +kernel
theorem dX4_together_91 : decode cX4_together 91 = .ok (.iinc 6 1, 3) := by decide +kernel
theorem dX4_together_94 : decode cX4_together 94 = .ok (.goto (-49), 3) := by decide +kernel
theorem dX4_together_97 : decode cX4_together 97 = .ok (.iload 5, 2) := by decide +kernel
theorem dX4_together_99 : decode cX4_together 99 = .ok (.ireturn, 1) := by decide +kernel
theorem dX4_keeps_0 : decode cX4_keeps 0 = .ok (.iload_n 1, 1) := by decide +kernel
theorem dX4_keeps_1 : decode cX4_keeps 1 = .ok (.iconst 0, 1) := by decide +kernel
theorem dX4_keeps_2 : decode cX4_keeps 2 = .ok (.bipush 99, 2) := by decide +kernel
theorem dX4_keeps_4 : decode cX4_keeps 4 = .ok (.invokestatic 140, 3) := by decide +kernel
theorem dX4_keeps_7 : decode cX4_keeps 7 = .ok (.ifCond .eq 21, 3) := by decide +kernel
theorem dX4_keeps_10 : decode cX4_keeps 10 = .ok (.iload_n 2, 1) := by decide +kernel
theorem dX4_keeps_11 : decode cX4_keeps 11 = .ok (.invokestatic 275, 3) := by decide +kernel
theorem dX4_keeps_14 : decode cX4_keeps 14 = .ok (.ifCond .eq 14, 3) := by decide +kernel
theorem dX4_keeps_17 : decode cX4_keeps 17 = .ok (.iload_n 3, 1) := by decide +kernel
theorem dX4_keeps_18 : decode cX4_keeps 18 = .ok (.iconst 1, 1) := by decide +kernel
theorem dX4_keeps_19 : decode cX4_keeps 19 = .ok (.sipush 150, 3) := by decide +kernel
theorem dX4_keeps_22 : decode cX4_keeps 22 = .ok (.invokestatic 140, 3) := by decide +kernel
theorem dX4_keeps_25 : decode cX4_keeps 25 = .ok (.ifCond .ne 5, 3) := by decide +kernel
theorem dX4_keeps_28 : decode cX4_keeps 28 = .ok (.iconst (-1), 1) := by decide +kernel
theorem dX4_keeps_29 : decode cX4_keeps 29 = .ok (.ireturn, 1) := by decide +kernel
theorem dX4_keeps_30 : decode cX4_keeps 30 = .ok (.iconst 2, 1) := by decide +kernel
theorem dX4_keeps_31 : decode cX4_keeps 31 = .ok (.istore 4, 2) := by decide +kernel
theorem dX4_keeps_33 : decode cX4_keeps 33 = .ok (.iload 4, 2) := by decide +kernel
theorem dX4_keeps_35 : decode cX4_keeps 35 = .ok (.bipush 9, 2) := by decide +kernel
theorem dX4_keeps_37 : decode cX4_keeps 37 = .ok (.if_icmp .gt 25, 3) := by decide +kernel
theorem dX4_keeps_40 : decode cX4_keeps 40 = .ok (.iload 4, 2) := by decide +kernel
theorem dX4_keeps_42 : decode cX4_keeps 42 = .ok (.iload_n 1, 1) := by decide +kernel
theorem dX4_keeps_43 : decode cX4_keeps 43 = .ok (.iload_n 2, 1) := by decide +kernel
theorem dX4_keeps_44 : decode cX4_keeps 44 = .ok (.iload_n 3, 1) := by decide +kernel
theorem dX4_keeps_45 : decode cX4_keeps 45 = .ok (.invokestatic 278, 3) := by decide +kernel
theorem dX4_keeps_48 : decode cX4_keeps 48 = .ok (.bipush (-9), 2) := by decide +kernel
theorem dX4_keeps_50 : decode cX4_keeps 50 = .ok (.if_icmp .ne 6, 3) := by decide +kernel
theorem dX4_keeps_53 : decode cX4_keeps 53 = .ok (.iload 4, 2) := by decide +kernel
theorem dX4_keeps_55 : decode cX4_keeps 55 = .ok (.ireturn, 1) := by decide +kernel
theorem dX4_keeps_56 : decode cX4_keeps 56 = .ok (.iinc 4 1, 3) := by decide +kernel
theorem dX4_keeps_59 : decode cX4_keeps 59 = .ok (.goto (-26), 3) := by decide +kernel
theorem dX4_keeps_62 : decode cX4_keeps 62 = .ok (.bipush (-9), 2) := by decide +kernel
theorem dX4_keeps_64 : decode cX4_keeps 64 = .ok (.ireturn, 1) := by decide +kernel
theorem dX4_fails_0 : decode cX4_fails 0 = .ok (.iload_n 1, 1) := by decide +kernel
theorem dX4_fails_1 : decode cX4_fails 1 = .ok (.invokestatic 150, 3) := by decide +kernel
theorem dX4_fails_4 : decode cX4_fails 4 = .ok (.ifCond .eq 20, 3) := by decide +kernel
theorem dX4_fails_7 : decode cX4_fails 7 = .ok (.iload_n 2, 1) := by decide +kernel
theorem dX4_fails_8 : decode cX4_fails 8 = .ok (.iconst 0, 1) := by decide +kernel
theorem dX4_fails_9 : decode cX4_fails 9 = .ok (.bipush 99, 2) := by decide +kernel
theorem dX4_fails_11 : decode cX4_fails 11 = .ok (.invokestatic 140, 3) := by decide +kernel
theorem dX4_fails_14 : decode cX4_fails 14 = .ok (.ifCond .eq 10, 3) := by decide +kernel
theorem dX4_fails_17 : decode cX4_fails 17 = .ok (.iload_n 3, 1) := by decide +kernel
theorem dX4_fails_18 : decode cX4_fails 18 = .ok (.invokestatic 275, 3) := by decide +kernel
theorem dX4_fails_21 : decode cX4_fails 21 = .ok (.ifCond .ne 5, 3) := by decide +kernel
theorem dX4_fails_24 : decode cX4_fails 24 = .ok (.iconst (-1), 1) := by decide +kernel
theorem dX4_fails_25 : decode cX4_fails 25 = .ok (.ireturn, 1) := by decide +kernel
theorem dX4_fails_26 : decode cX4_fails 26 = .ok (.iload_n 1, 1) := by decide +kernel
theorem dX4_fails_27 : decode cX4_fails 27 = .ok (.iload_n 2, 1) := by decide +kernel
theorem dX4_fails_28 : decode cX4_fails 28 = .ok (.iload_n 3, 1) := by decide +kernel
theorem dX4_fails_29 : decode cX4_fails 29 = .ok (.sipush 150, 3) := by decide +kernel
theorem dX4_fails_32 : decode cX4_fails 32 = .ok (.invokestatic 278, 3) := by decide +kernel
theorem dX4_fails_35 : decode cX4_fails 35 = .ok (.ireturn, 1) := by decide +kernel
theorem dX4_lots_0 : decode cX4_lots 0 = .ok (.aload_n 0, 1) := by decide +kernel
theorem dX4_lots_1 : decode cX4_lots 1 = .ok (.iload_n 1, 1) := by decide +kernel
theorem dX4_lots_2 : decode cX4_lots 2 = .ok (.invokevirtual 128, 3) := by decide +kernel
theorem dX4_lots_5 : decode cX4_lots 5 = .ok (.ifCond .eq 33, 3) := by decide +kernel
theorem dX4_lots_8 : decode cX4_lots 8 = .ok (.aload_n 0, 1) := by decide +kernel
theorem dX4_lots_9 : decode cX4_lots 9 = .ok (.iload_n 2, 1) := by decide +kernel
theorem dX4_lots_10 : decode cX4_lots 10 = .ok (.invokevirtual 128, 3) := by decide +kernel
theorem dX4_lots_13 : decode cX4_lots 13 = .ok (.ifCond .eq 25, 3) := by decide +kernel
theorem dX4_lots_16 : decode cX4_lots 16 = .ok (.iload_n 3, 1) := by decide +kernel
theorem dX4_lots_17 : decode cX4_lots 17 = .ok (.iconst 1, 1) := by decide +kernel
theorem dX4_lots_18 : decode cX4_lots 18 = .ok (.bipush 40, 2) := by decide +kernel
theorem dX4_lots_20 : decode cX4_lots 20 = .ok (.invokestatic 140, 3) := by decide +kernel
theorem dX4_lots_23 : decode cX4_lots 23 = .ok (.ifCond .eq 15, 3) := by decide +kernel
theorem dX4_lots_26 : decode cX4_lots 26 = .ok (.iload 4, 2) := by decide +kernel
theorem dX4_lots_28 : decode cX4_lots 28 = .ok (.iconst 1, 1) := by decide +kernel
theorem dX4_lots_29 : decode cX4_lots 29 = .ok (.ldc_w 282, 3) := by decide +kernel
theorem dX4_lots_32 : decode cX4_lots 32 = .ok (.invokestatic 140, 3) := by decide +kernel
theorem dX4_lots_35 : decode cX4_lots 35 = .ok (.ifCond .ne 5, 3) := by decide +kernel
theorem dX4_lots_38 : decode cX4_lots 38 = .ok (.iconst (-1), 1) := by decide +kernel
theorem dX4_lots_39 : decode cX4_lots 39 = .ok (.ireturn, 1) := by decide +kernel
theorem dX4_lots_40 : decode cX4_lots 40 = .ok (.iconst 0, 1) := by decide +kernel
theorem dX4_lots_41 : decode cX4_lots 41 = .ok (.istore 5, 2) := by decide +kernel
theorem dX4_lots_43 : decode cX4_lots 43 = .ok (.iload 4, 2) := by decide +kernel
theorem dX4_lots_45 : decode cX4_lots 45 = .ok (.i2l, 1) := by decide +kernel
theorem dX4_lots_46 : decode cX4_lots 46 = .ok (.lstore 6, 2) := by decide +kernel
theorem dX4_lots_48 : decode cX4_lots 48 = .ok (.iconst 0, 1) := by decide +kernel
theorem dX4_lots_49 : decode cX4_lots 49 = .ok (.istore 8, 2) := by decide +kernel
theorem dX4_lots_51 : decode cX4_lots 51 = .ok (.iload 8, 2) := by decide +kernel
theorem dX4_lots_53 : decode cX4_lots 53 = .ok (.iload_n 3, 1) := by decide +kernel
theorem dX4_lots_54 : decode cX4_lots 54 = .ok (.if_icmp .ge 40, 3) := by decide +kernel
theorem dX4_lots_57 : decode cX4_lots 57 = .ok (.lload 6, 2) := by decide +kernel
theorem dX4_lots_59 : decode cX4_lots 59 = .ok (.ldc2_w 283, 3) := by decide +kernel
theorem dX4_lots_62 : decode cX4_lots 62 = .ok (.lmul, 1) := by decide +kernel
theorem dX4_lots_63 : decode cX4_lots 63 = .ok (.ldc2_w 285, 3) := by decide +kernel
theorem dX4_lots_66 : decode cX4_lots 66 = .ok (.lrem, 1) := by decide +kernel
theorem dX4_lots_67 : decode cX4_lots 67 = .ok (.lstore 6, 2) := by decide +kernel
theorem dX4_lots_69 : decode cX4_lots 69 = .ok (.aload_n 0, 1) := by decide +kernel
theorem dX4_lots_70 : decode cX4_lots 70 = .ok (.iload_n 1, 1) := by decide +kernel
theorem dX4_lots_71 : decode cX4_lots 71 = .ok (.iload_n 2, 1) := by decide +kernel
theorem dX4_lots_72 : decode cX4_lots 72 = .ok (.lload 6, 2) := by decide +kernel
theorem dX4_lots_74 : decode cX4_lots 74 = .ok (.ldc2_w 287, 3) := by decide +kernel
theorem dX4_lots_77 : decode cX4_lots 77 = .ok (.lrem, 1) := by decide +kernel
theorem dX4_lots_78 : decode cX4_lots 78 = .ok (.l2i, 1) := by decide +kernel
theorem dX4_lots_79 : decode cX4_lots 79 = .ok (.invokevirtual 212, 3) := by decide +kernel
theorem dX4_lots_82 : decode cX4_lots 82 = .ok (.ifCond .eq 6, 3) := by decide +kernel
theorem dX4_lots_85 : decode cX4_lots 85 = .ok (.iinc 5 1, 3) := by decide +kernel
theorem dX4_lots_88 : decode cX4_lots 88 = .ok (.iinc 8 1, 3) := by decide +kernel
theorem dX4_lots_91 : decode cX4_lots 91 = .ok (.goto (-40), 3) := by decide +kernel
theorem dX4_lots_94 : decode cX4_lots 94 = .ok (.iload 5, 2) := by decide +kernel
theorem dX4_lots_96 : decode cX4_lots 96 = .ok (.ireturn, 1) := by decide +kernel
theorem dX4_asked_0 : decode cX4_asked 0 = .ok (.aload_n 0, 1) := by decide +kernel
theorem dX4_asked_1 : decode cX4_asked 1 = .ok (.getfield 49, 3) := by decide +kernel
theorem dX4_asked_4 : decode cX4_asked 4 = .ok (.ireturn, 1) := by decide +kernel
theorem dX4_upper_0 : decode cX4_upper 0 = .ok (.aload_n 0, 1) := by decide +kernel
theorem dX4_upper_1 : decode cX4_upper 1 = .ok (.getfield 52, 3) := by decide +kernel
theorem dX4_upper_4 : decode cX4_upper 4 = .ok (.lreturn, 1) := by decide +kernel
theorem dX4_lower_0 : decode cX4_lower 0 = .ok (.aload_n 0, 1) := by decide +kernel
theorem dX4_lower_1 : decode cX4_lower 1 = .ok (.getfield 56, 3) := by decide +kernel
theorem dX4_lower_4 : decode cX4_lower 4 = .ok (.lreturn, 1) := by decide +kernel
theorem dX4_count_0 : decode cX4_count 0 = .ok (.iload_n 1, 1) := by decide +kernel
theorem dX4_count_1 : decode cX4_count 1 = .ok (.tableswitch 80 0 6 #[43, 48, 53, 59, 65, 70, 75], 43) := by decide +kernel
theorem dX4_count_44 : decode cX4_count 44 = .ok (.aload_n 0, 1) := by decide +kernel
theorem dX4_count_45 : decode cX4_count 45 = .ok (.getfield 42, 3) := by decide +kernel
theorem dX4_count_48 : decode cX4_count 48 = .ok (.ireturn, 1) := by decide +kernel
theorem dX4_count_49 : decode cX4_count 49 = .ok (.aload_n 0, 1) := by decide +kernel
theorem dX4_count_50 : decode cX4_count 50 = .ok (.getfield 46, 3) := by decide +kernel
theorem dX4_count_53 : decode cX4_count 53 = .ok (.ireturn, 1) := by decide +kernel
theorem dX4_count_54 : decode cX4_count 54 = .ok (.aload_n 0, 1) := by decide +kernel
theorem dX4_count_55 : decode cX4_count 55 = .ok (.iconst 1, 1) := by decide +kernel
theorem dX4_count_56 : decode cX4_count 56 = .ok (.invokevirtual 289, 3) := by decide +kernel
theorem dX4_count_59 : decode cX4_count 59 = .ok (.ireturn, 1) := by decide +kernel
theorem dX4_count_60 : decode cX4_count 60 = .ok (.aload_n 0, 1) := by decide +kernel
theorem dX4_count_61 : decode cX4_count 61 = .ok (.iconst 2, 1) := by decide +kernel
theorem dX4_count_62 : decode cX4_count 62 = .ok (.invokevirtual 289, 3) := by decide +kernel
theorem dX4_count_65 : decode cX4_count 65 = .ok (.ireturn, 1) := by decide +kernel
theorem dX4_count_66 : decode cX4_count 66 = .ok (.aload_n 0, 1) := by decide +kernel
theorem dX4_count_67 : decode cX4_count 67 = .ok (.invokevirtual 292, 3) := by decide +kernel
theorem dX4_count_70 : decode cX4_count 70 = .ok (.ireturn, 1) := by decide +kernel
theorem dX4_count_71 : decode cX4_count 71 = .ok (.aload_n 0, 1) := by decide +kernel
theorem dX4_count_72 : decode cX4_count 72 = .ok (.invokevirtual 295, 3) := by decide +kernel
theorem dX4_count_75 : decode cX4_count 75 = .ok (.ireturn, 1) := by decide +kernel
theorem dX4_count_76 : decode cX4_count 76 = .ok (.aload_n 0, 1) := by decide +kernel
theorem dX4_count_77 : decode cX4_count 77 = .ok (.invokevirtual 298, 3) := by decide +kernel
theorem dX4_count_80 : decode cX4_count 80 = .ok (.ireturn, 1) := by decide +kernel
theorem dX4_count_81 : decode cX4_count 81 = .ok (.iconst (-1), 1) := by decide +kernel
theorem dX4_count_82 : decode cX4_count 82 = .ok (.ireturn, 1) := by decide +kernel
theorem dX4_finding_0 : decode cX4_finding 0 = .ok (.aload_n 0, 1) := by decide +kernel
theorem dX4_finding_1 : decode cX4_finding 1 = .ok (.getfield 59, 3) := by decide +kernel
theorem dX4_finding_4 : decode cX4_finding 4 = .ok (.ireturn, 1) := by decide +kernel
theorem dX4_findings_0 : decode cX4_findings 0 = .ok (.iload_n 1, 1) := by decide +kernel
theorem dX4_findings_1 : decode cX4_findings 1 = .ok (.iconst 1, 1) := by decide +kernel
theorem dX4_findings_2 : decode cX4_findings 2 = .ok (.iconst 5, 1) := by decide +kernel
theorem dX4_findings_3 : decode cX4_findings 3 = .ok (.invokestatic 140, 3) := by decide +kernel
theorem dX4_findings_6 : decode cX4_findings 6 = .ok (.ifCond .eq 12, 3) := by decide +kernel
theorem dX4_findings_9 : decode cX4_findings 9 = .ok (.aload_n 0, 1) := by decide +kernel
theorem dX4_findings_10 : decode cX4_findings 10 = .ok (.getfield 38, 3) := by decide +kernel
theorem dX4_findings_13 : decode cX4_findings 13 = .ok (.iload_n 1, 1) := by decide +kernel
theorem dX4_findings_14 : decode cX4_findings 14 = .ok (.iaload, 1) := by decide +kernel
theorem dX4_findings_15 : decode cX4_findings 15 = .ok (.goto 4, 3) := by decide +kernel
theorem dX4_findings_18 : decode cX4_findings 18 = .ok (.iconst (-1), 1) := by decide +kernel
theorem dX4_findings_19 : decode cX4_findings 19 = .ok (.ireturn, 1) := by decide +kernel
theorem dX4_digest_0 : decode cX4_digest 0 = .ok (.ldc2_w 301, 3) := by decide +kernel
theorem dX4_digest_3 : decode cX4_digest 3 = .ok (.lstore_n 1, 1) := by decide +kernel
