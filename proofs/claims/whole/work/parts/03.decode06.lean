theorem dX5_age_22 : decode cX5_age 22 = .ok (.bipush (-9), 2) := by decide +kernel
theorem dX5_age_24 : decode cX5_age 24 = .ok (.if_icmp .ne 9, 3) := by decide +kernel
theorem dX5_age_27 : decode cX5_age 27 = .ok (.aload_n 0, 1) := by decide +kernel
theorem dX5_age_28 : decode cX5_age 28 = .ok (.iconst 4, 1) := by decide +kernel
theorem dX5_age_29 : decode cX5_age 29 = .ok (.invokevirtual 68, 3) := by decide +kernel
theorem dX5_age_32 : decode cX5_age 32 = .ok (.ireturn, 1) := by decide +kernel
theorem dX5_age_33 : decode cX5_age 33 = .ok (.iload_n 3, 1) := by decide +kernel
theorem dX5_age_34 : decode cX5_age 34 = .ok (.aload_n 0, 1) := by decide +kernel
theorem dX5_age_35 : decode cX5_age 35 = .ok (.getfield 119, 3) := by decide +kernel
theorem dX5_age_38 : decode cX5_age 38 = .ok (.if_icmp .le 8, 3) := by decide +kernel
theorem dX5_age_41 : decode cX5_age 41 = .ok (.bipush (-4), 2) := by decide +kernel
theorem dX5_age_43 : decode cX5_age 43 = .ok (.goto 8, 3) := by decide +kernel
theorem dX5_age_46 : decode cX5_age 46 = .ok (.aload_n 0, 1) := by decide +kernel
theorem dX5_age_47 : decode cX5_age 47 = .ok (.iload_n 2, 1) := by decide +kernel
theorem dX5_age_48 : decode cX5_age 48 = .ok (.invokevirtual 195, 3) := by decide +kernel
theorem dX5_age_51 : decode cX5_age 51 = .ok (.ireturn, 1) := by decide +kernel
theorem dX5_eldest_0 : decode cX5_eldest 0 = .ok (.iload_n 1, 1) := by decide +kernel
theorem dX5_eldest_1 : decode cX5_eldest 1 = .ok (.iconst 0, 1) := by decide +kernel
theorem dX5_eldest_2 : decode cX5_eldest 2 = .ok (.aload_n 0, 1) := by decide +kernel
theorem dX5_eldest_3 : decode cX5_eldest 3 = .ok (.getfield 119, 3) := by decide +kernel
theorem dX5_eldest_6 : decode cX5_eldest 6 = .ok (.invokestatic 60, 3) := by decide +kernel
theorem dX5_eldest_9 : decode cX5_eldest 9 = .ok (.ifCond .ne 5, 3) := by decide +kernel
theorem dX5_eldest_12 : decode cX5_eldest 12 = .ok (.iconst (-1), 1) := by decide +kernel
theorem dX5_eldest_13 : decode cX5_eldest 13 = .ok (.ireturn, 1) := by decide +kernel
theorem dX5_eldest_14 : decode cX5_eldest 14 = .ok (.bipush (-9), 2) := by decide +kernel
theorem dX5_eldest_16 : decode cX5_eldest 16 = .ok (.istore_n 2, 1) := by decide +kernel
theorem dX5_eldest_17 : decode cX5_eldest 17 = .ok (.iconst (-1), 1) := by decide +kernel
theorem dX5_eldest_18 : decode cX5_eldest 18 = .ok (.istore_n 3, 1) := by decide +kernel
theorem dX5_eldest_19 : decode cX5_eldest 19 = .ok (.iconst 0, 1) := by decide +kernel
theorem dX5_eldest_20 : decode cX5_eldest 20 = .ok (.istore 4, 2) := by decide +kernel
theorem dX5_eldest_22 : decode cX5_eldest 22 = .ok (.iload 4, 2) := by decide +kernel
theorem dX5_eldest_24 : decode cX5_eldest 24 = .ok (.aload_n 0, 1) := by decide +kernel
theorem dX5_eldest_25 : decode cX5_eldest 25 = .ok (.getfield 116, 3) := by decide +kernel
theorem dX5_eldest_28 : decode cX5_eldest 28 = .ok (.if_icmp .ge 42, 3) := by decide +kernel
theorem dX5_eldest_31 : decode cX5_eldest 31 = .ok (.aload_n 0, 1) := by decide +kernel
theorem dX5_eldest_32 : decode cX5_eldest 32 = .ok (.aload_n 0, 1) := by decide +kernel
theorem dX5_eldest_33 : decode cX5_eldest 33 = .ok (.iload 4, 2) := by decide +kernel
theorem dX5_eldest_35 : decode cX5_eldest 35 = .ok (.iload_n 1, 1) := by decide +kernel
theorem dX5_eldest_36 : decode cX5_eldest 36 = .ok (.invokevirtual 166, 3) := by decide +kernel
theorem dX5_eldest_39 : decode cX5_eldest 39 = .ok (.invokevirtual 195, 3) := by decide +kernel
theorem dX5_eldest_42 : decode cX5_eldest 42 = .ok (.istore 5, 2) := by decide +kernel
theorem dX5_eldest_44 : decode cX5_eldest 44 = .ok (.iload 5, 2) := by decide +kernel
theorem dX5_eldest_46 : decode cX5_eldest 46 = .ok (.iload_n 3, 1) := by decide +kernel
theorem dX5_eldest_47 : decode cX5_eldest 47 = .ok (.if_icmp .le 8, 3) := by decide +kernel
theorem dX5_eldest_50 : decode cX5_eldest 50 = .ok (.iload 4, 2) := by decide +kernel
theorem dX5_eldest_52 : decode cX5_eldest 52 = .ok (.goto 4, 3) := by decide +kernel
theorem dX5_eldest_55 : decode cX5_eldest 55 = .ok (.iload_n 2, 1) := by decide +kernel
theorem dX5_eldest_56 : decode cX5_eldest 56 = .ok (.istore_n 2, 1) := by decide +kernel
theorem dX5_eldest_57 : decode cX5_eldest 57 = .ok (.iload_n 3, 1) := by decide +kernel
theorem dX5_eldest_58 : decode cX5_eldest 58 = .ok (.iload 5, 2) := by decide +kernel
theorem dX5_eldest_60 : decode cX5_eldest 60 = .ok (.invokestatic 175, 3) := by decide +kernel
theorem dX5_eldest_63 : decode cX5_eldest 63 = .ok (.istore_n 3, 1) := by decide +kernel
theorem dX5_eldest_64 : decode cX5_eldest 64 = .ok (.iinc 4 1, 3) := by decide +kernel
theorem dX5_eldest_67 : decode cX5_eldest 67 = .ok (.goto (-45), 3) := by decide +kernel
theorem dX5_eldest_70 : decode cX5_eldest 70 = .ok (.iload_n 2, 1) := by decide +kernel
theorem dX5_eldest_71 : decode cX5_eldest 71 = .ok (.bipush (-9), 2) := by decide +kernel
theorem dX5_eldest_73 : decode cX5_eldest 73 = .ok (.if_icmp .ne 8, 3) := by decide +kernel
theorem dX5_eldest_76 : decode cX5_eldest 76 = .ok (.bipush (-9), 2) := by decide +kernel
theorem dX5_eldest_78 : decode cX5_eldest 78 = .ok (.goto 9, 3) := by decide +kernel
theorem dX5_eldest_81 : decode cX5_eldest 81 = .ok (.aload_n 0, 1) := by decide +kernel
theorem dX5_eldest_82 : decode cX5_eldest 82 = .ok (.iload_n 3, 1) := by decide +kernel
theorem dX5_eldest_83 : decode cX5_eldest 83 = .ok (.iload_n 2, 1) := by decide +kernel
theorem dX5_eldest_84 : decode cX5_eldest 84 = .ok (.invokevirtual 86, 3) := by decide +kernel
theorem dX5_eldest_87 : decode cX5_eldest 87 = .ok (.ireturn, 1) := by decide +kernel
theorem dX5_doAgree_0 : decode cX5_doAgree 0 = .ok (.aload_n 0, 1) := by decide +kernel
theorem dX5_doAgree_1 : decode cX5_doAgree 1 = .ok (.iload_n 1, 1) := by decide +kernel
theorem dX5_doAgree_2 : decode cX5_doAgree 2 = .ok (.iload_n 3, 1) := by decide +kernel
theorem dX5_doAgree_3 : decode cX5_doAgree 3 = .ok (.invokevirtual 166, 3) := by decide +kernel
theorem dX5_doAgree_6 : decode cX5_doAgree 6 = .ok (.aload_n 0, 1) := by decide +kernel
theorem dX5_doAgree_7 : decode cX5_doAgree 7 = .ok (.iload_n 2, 1) := by decide +kernel
theorem dX5_doAgree_8 : decode cX5_doAgree 8 = .ok (.iload_n 3, 1) := by decide +kernel
theorem dX5_doAgree_9 : decode cX5_doAgree 9 = .ok (.invokevirtual 166, 3) := by decide +kernel
theorem dX5_doAgree_12 : decode cX5_doAgree 12 = .ok (.if_icmp .ne 7, 3) := by decide +kernel
theorem dX5_doAgree_15 : decode cX5_doAgree 15 = .ok (.iconst 1, 1) := by decide +kernel
theorem dX5_doAgree_16 : decode cX5_doAgree 16 = .ok (.goto 4, 3) := by decide +kernel
theorem dX5_doAgree_19 : decode cX5_doAgree 19 = .ok (.iconst 0, 1) := by decide +kernel
theorem dX5_doAgree_20 : decode cX5_doAgree 20 = .ok (.ireturn, 1) := by decide +kernel
theorem dX5_agree_0 : decode cX5_agree 0 = .ok (.aload_n 0, 1) := by decide +kernel
theorem dX5_agree_1 : decode cX5_agree 1 = .ok (.iload_n 1, 1) := by decide +kernel
theorem dX5_agree_2 : decode cX5_agree 2 = .ok (.invokevirtual 169, 3) := by decide +kernel
theorem dX5_agree_5 : decode cX5_agree 5 = .ok (.ifCond .eq 20, 3) := by decide +kernel
theorem dX5_agree_8 : decode cX5_agree 8 = .ok (.aload_n 0, 1) := by decide +kernel
theorem dX5_agree_9 : decode cX5_agree 9 = .ok (.iload_n 2, 1) := by decide +kernel
theorem dX5_agree_10 : decode cX5_agree 10 = .ok (.invokevirtual 169, 3) := by decide +kernel
theorem dX5_agree_13 : decode cX5_agree 13 = .ok (.ifCond .eq 12, 3) := by decide +kernel
theorem dX5_agree_16 : decode cX5_agree 16 = .ok (.iload_n 3, 1) := by decide +kernel
theorem dX5_agree_17 : decode cX5_agree 17 = .ok (.iload 4, 2) := by decide +kernel
theorem dX5_agree_19 : decode cX5_agree 19 = .ok (.invokestatic 191, 3) := by decide +kernel
theorem dX5_agree_22 : decode cX5_agree 22 = .ok (.ifCond .ne 5, 3) := by decide +kernel
theorem dX5_agree_25 : decode cX5_agree 25 = .ok (.iconst (-1), 1) := by decide +kernel
theorem dX5_agree_26 : decode cX5_agree 26 = .ok (.ireturn, 1) := by decide +kernel
theorem dX5_agree_27 : decode cX5_agree 27 = .ok (.iconst 0, 1) := by decide +kernel
theorem dX5_agree_28 : decode cX5_agree 28 = .ok (.istore 5, 2) := by decide +kernel
theorem dX5_agree_30 : decode cX5_agree 30 = .ok (.bipush (-9), 2) := by decide +kernel
theorem dX5_agree_32 : decode cX5_agree 32 = .ok (.istore 6, 2) := by decide +kernel
theorem dX5_agree_34 : decode cX5_agree 34 = .ok (.iload 4, 2) := by decide +kernel
theorem dX5_agree_36 : decode cX5_agree 36 = .ok (.istore 7, 2) := by decide +kernel
theorem dX5_agree_38 : decode cX5_agree 38 = .ok (.iload 7, 2) := by decide +kernel
theorem dX5_agree_40 : decode cX5_agree 40 = .ok (.iload_n 3, 1) := by decide +kernel
theorem dX5_agree_41 : decode cX5_agree 41 = .ok (.if_icmp .lt 48, 3) := by decide +kernel
theorem dX5_agree_44 : decode cX5_agree 44 = .ok (.aload_n 0, 1) := by decide +kernel
theorem dX5_agree_45 : decode cX5_agree 45 = .ok (.iload_n 1, 1) := by decide +kernel
theorem dX5_agree_46 : decode cX5_agree 46 = .ok (.iload_n 2, 1) := by decide +kernel
theorem dX5_agree_47 : decode cX5_agree 47 = .ok (.iload 7, 2) := by decide +kernel
theorem dX5_agree_49 : decode cX5_agree 49 = .ok (.invokevirtual 198, 3) := by decide +kernel
theorem dX5_agree_52 : decode cX5_agree 52 = .ok (.istore 8, 2) := by decide +kernel
theorem dX5_agree_54 : decode cX5_agree 54 = .ok (.iload 5, 2) := by decide +kernel
theorem dX5_agree_56 : decode cX5_agree 56 = .ok (.iload 8, 2) := by decide +kernel
theorem dX5_agree_58 : decode cX5_agree 58 = .ok (.ifCond .eq 7, 3) := by decide +kernel
theorem dX5_agree_61 : decode cX5_agree 61 = .ok (.iconst 1, 1) := by decide +kernel
theorem dX5_agree_62 : decode cX5_agree 62 = .ok (.goto 4, 3) := by decide +kernel
theorem dX5_agree_65 : decode cX5_agree 65 = .ok (.iconst 0, 1) := by decide +kernel
theorem dX5_agree_66 : decode cX5_agree 66 = .ok (.iadd, 1) := by decide +kernel
theorem dX5_agree_67 : decode cX5_agree 67 = .ok (.istore 5, 2) := by decide +kernel
theorem dX5_agree_69 : decode cX5_agree 69 = .ok (.iload 8, 2) := by decide +kernel
theorem dX5_agree_71 : decode cX5_agree 71 = .ok (.ifCond .eq 8, 3) := by decide +kernel
theorem dX5_agree_74 : decode cX5_agree 74 = .ok (.iload 7, 2) := by decide +kernel
theorem dX5_agree_76 : decode cX5_agree 76 = .ok (.goto 5, 3) := by decide +kernel
theorem dX5_agree_79 : decode cX5_agree 79 = .ok (.iload 6, 2) := by decide +kernel
theorem dX5_agree_81 : decode cX5_agree 81 = .ok (.istore 6, 2) := by decide +kernel
theorem dX5_agree_83 : decode cX5_agree 83 = .ok (.iinc 7 (-1), 3) := by decide +kernel
theorem dX5_agree_86 : decode cX5_agree 86 = .ok (.goto (-48), 3) := by decide +kernel
theorem dX5_agree_89 : decode cX5_agree 89 = .ok (.aload_n 0, 1) := by decide +kernel
theorem dX5_agree_90 : decode cX5_agree 90 = .ok (.iload 6, 2) := by decide +kernel
theorem dX5_agree_92 : decode cX5_agree 92 = .ok (.iload 5, 2) := by decide +kernel
theorem dX5_agree_94 : decode cX5_agree 94 = .ok (.invokevirtual 86, 3) := by decide +kernel
theorem dX5_agree_97 : decode cX5_agree 97 = .ok (.ireturn, 1) := by decide +kernel
theorem dX5_till_0 : decode cX5_till 0 = .ok (.aload_n 0, 1) := by decide +kernel
theorem dX5_till_1 : decode cX5_till 1 = .ok (.iload_n 1, 1) := by decide +kernel
theorem dX5_till_2 : decode cX5_till 2 = .ok (.invokevirtual 169, 3) := by decide +kernel
theorem dX5_till_5 : decode cX5_till 5 = .ok (.ifCond .eq 11, 3) := by decide +kernel
theorem dX5_till_8 : decode cX5_till 8 = .ok (.aload_n 0, 1) := by decide +kernel
theorem dX5_till_9 : decode cX5_till 9 = .ok (.iload_n 2, 1) := by decide +kernel
theorem dX5_till_10 : decode cX5_till 10 = .ok (.invokevirtual 169, 3) := by decide +kernel
theorem dX5_till_13 : decode cX5_till 13 = .ok (.ifCond .ne 5, 3) := by decide +kernel
theorem dX5_till_16 : decode cX5_till 16 = .ok (.iconst (-1), 1) := by decide +kernel
theorem dX5_till_17 : decode cX5_till 17 = .ok (.ireturn, 1) := by decide +kernel
theorem dX5_till_18 : decode cX5_till 18 = .ok (.aload_n 0, 1) := by decide +kernel
theorem dX5_till_19 : decode cX5_till 19 = .ok (.getfield 119, 3) := by decide +kernel
theorem dX5_till_22 : decode cX5_till 22 = .ok (.istore_n 3, 1) := by decide +kernel
theorem dX5_till_23 : decode cX5_till 23 = .ok (.iload_n 3, 1) := by decide +kernel
theorem dX5_till_24 : decode cX5_till 24 = .ok (.sipush 19999, 3) := by decide +kernel
theorem dX5_till_27 : decode cX5_till 27 = .ok (.if_icmp .gt 26, 3) := by decide +kernel
theorem dX5_till_30 : decode cX5_till 30 = .ok (.aload_n 0, 1) := by decide +kernel
theorem dX5_till_31 : decode cX5_till 31 = .ok (.iload_n 1, 1) := by decide +kernel
theorem dX5_till_32 : decode cX5_till 32 = .ok (.iload_n 2, 1) := by decide +kernel
theorem dX5_till_33 : decode cX5_till 33 = .ok (.iload_n 3, 1) := by decide +kernel
theorem dX5_till_34 : decode cX5_till 34 = .ok (.invokevirtual 198, 3) := by decide +kernel
theorem dX5_till_37 : decode cX5_till 37 = .ok (.ifCond .eq 10, 3) := by decide +kernel
theorem dX5_till_40 : decode cX5_till 40 = .ok (.iload_n 3, 1) := by decide +kernel
theorem dX5_till_41 : decode cX5_till 41 = .ok (.aload_n 0, 1) := by decide +kernel
theorem dX5_till_42 : decode cX5_till 42 = .ok (.getfield 119, 3) := by decide +kernel
theorem dX5_till_45 : decode cX5_till 45 = .ok (.isub, 1) := by decide +kernel
theorem dX5_till_46 : decode cX5_till 46 = .ok (.ireturn, 1) := by decide +kernel
theorem dX5_till_47 : decode cX5_till 47 = .ok (.iinc 3 1, 3) := by decide +kernel
theorem dX5_till_50 : decode cX5_till 50 = .ok (.goto (-27), 3) := by decide +kernel
theorem dX5_till_53 : decode cX5_till 53 = .ok (.bipush (-9), 2) := by decide +kernel
theorem dX5_till_55 : decode cX5_till 55 = .ok (.ireturn, 1) := by decide +kernel
theorem dX5_apart_0 : decode cX5_apart 0 = .ok (.aload_n 0, 1) := by decide +kernel
theorem dX5_apart_1 : decode cX5_apart 1 = .ok (.iload_n 1, 1) := by decide +kernel
theorem dX5_apart_2 : decode cX5_apart 2 = .ok (.invokevirtual 169, 3) := by decide +kernel
theorem dX5_apart_5 : decode cX5_apart 5 = .ok (.ifCond .eq 20, 3) := by decide +kernel
theorem dX5_apart_8 : decode cX5_apart 8 = .ok (.aload_n 0, 1) := by decide +kernel
theorem dX5_apart_9 : decode cX5_apart 9 = .ok (.iload_n 2, 1) := by decide +kernel
theorem dX5_apart_10 : decode cX5_apart 10 = .ok (.invokevirtual 169, 3) := by decide +kernel
theorem dX5_apart_13 : decode cX5_apart 13 = .ok (.ifCond .eq 12, 3) := by decide +kernel
theorem dX5_apart_16 : decode cX5_apart 16 = .ok (.iload_n 3, 1) := by decide +kernel
theorem dX5_apart_17 : decode cX5_apart 17 = .ok (.iload 4, 2) := by decide +kernel
theorem dX5_apart_19 : decode cX5_apart 19 = .ok (.invokestatic 191, 3) := by decide +kernel
theorem dX5_apart_22 : decode cX5_apart 22 = .ok (.ifCond .ne 5, 3) := by decide +kernel
theorem dX5_apart_25 : decode cX5_apart 25 = .ok (.iconst (-1), 1) := by decide +kernel
theorem dX5_apart_26 : decode cX5_apart 26 = .ok (.ireturn, 1) := by decide +kernel
theorem dX5_apart_27 : decode cX5_apart 27 = .ok (.iload_n 3, 1) := by decide +kernel
theorem dX5_apart_28 : decode cX5_apart 28 = .ok (.istore 5, 2) := by decide +kernel
theorem dX5_apart_30 : decode cX5_apart 30 = .ok (.iconst (-1), 1) := by decide +kernel
theorem dX5_apart_31 : decode cX5_apart 31 = .ok (.istore 6, 2) := by decide +kernel
theorem dX5_apart_33 : decode cX5_apart 33 = .ok (.iload_n 3, 1) := by decide +kernel
theorem dX5_apart_34 : decode cX5_apart 34 = .ok (.istore 7, 2) := by decide +kernel
theorem dX5_apart_36 : decode cX5_apart 36 = .ok (.iload 7, 2) := by decide +kernel
theorem dX5_apart_38 : decode cX5_apart 38 = .ok (.iload 4, 2) := by decide +kernel
theorem dX5_apart_40 : decode cX5_apart 40 = .ok (.if_icmp .gt 53, 3) := by decide +kernel
theorem dX5_apart_43 : decode cX5_apart 43 = .ok (.aload_n 0, 1) := by decide +kernel
theorem dX5_apart_44 : decode cX5_apart 44 = .ok (.iload_n 1, 1) := by decide +kernel
theorem dX5_apart_45 : decode cX5_apart 45 = .ok (.iload 7, 2) := by decide +kernel
theorem dX5_apart_47 : decode cX5_apart 47 = .ok (.invokevirtual 201, 3) := by decide +kernel
theorem dX5_apart_50 : decode cX5_apart 50 = .ok (.aload_n 0, 1) := by decide +kernel
theorem dX5_apart_51 : decode cX5_apart 51 = .ok (.iload_n 2, 1) := by decide +kernel
theorem dX5_apart_52 : decode cX5_apart 52 = .ok (.iload 7, 2) := by decide +kernel
theorem dX5_apart_54 : decode cX5_apart 54 = .ok (.invokevirtual 201, 3) := by decide +kernel
theorem dX5_apart_57 : decode cX5_apart 57 = .ok (.invokestatic 204, 3) := by decide +kernel
theorem dX5_apart_60 : decode cX5_apart 60 = .ok (.istore 8, 2) := by decide +kernel
theorem dX5_apart_62 : decode cX5_apart 62 = .ok (.iload 8, 2) := by decide +kernel
theorem dX5_apart_64 : decode cX5_apart 64 = .ok (.iload 6, 2) := by decide +kernel
theorem dX5_apart_66 : decode cX5_apart 66 = .ok (.if_icmp .le 8, 3) := by decide +kernel
theorem dX5_apart_69 : decode cX5_apart 69 = .ok (.iload 7, 2) := by decide +kernel
theorem dX5_apart_71 : decode cX5_apart 71 = .ok (.goto 5, 3) := by decide +kernel
theorem dX5_apart_74 : decode cX5_apart 74 = .ok (.iload 5, 2) := by decide +kernel
theorem dX5_apart_76 : decode cX5_apart 76 = .ok (.istore 5, 2) := by decide +kernel
theorem dX5_apart_78 : decode cX5_apart 78 = .ok (.iload 6, 2) := by decide +kernel
theorem dX5_apart_80 : decode cX5_apart 80 = .ok (.iload 8, 2) := by decide +kernel
theorem dX5_apart_82 : decode cX5_apart 82 = .ok (.invokestatic 175, 3) := by decide +kernel
theorem dX5_apart_85 : decode cX5_apart 85 = .ok (.istore 6, 2) := by decide +kernel
theorem dX5_apart_87 : decode cX5_apart 87 = .ok (.iinc 7 1, 3) := by decide +kernel
theorem dX5_apart_90 : decode cX5_apart 90 = .ok (.goto (-54), 3) := by decide +kernel
theorem dX5_apart_93 : decode cX5_apart 93 = .ok (.aload_n 0, 1) := by decide +kernel
theorem dX5_apart_94 : decode cX5_apart 94 = .ok (.iload 5, 2) := by decide +kernel
theorem dX5_apart_96 : decode cX5_apart 96 = .ok (.iload 6, 2) := by decide +kernel
theorem dX5_apart_98 : decode cX5_apart 98 = .ok (.invokevirtual 86, 3) := by decide +kernel
theorem dX5_apart_101 : decode cX5_apart 101 = .ok (.ireturn, 1) := by decide +kernel
theorem dX5_due_0 : decode cX5_due 0 = .ok (.aload_n 0, 1) := by decide +kernel
theorem dX5_due_1 : decode cX5_due 1 = .ok (.iload_n 1, 1) := by decide +kernel
theorem dX5_due_2 : decode cX5_due 2 = .ok (.invokevirtual 169, 3) := by decide +kernel
theorem dX5_due_5 : decode cX5_due 5 = .ok (.ifCond .eq 17, 3) := by decide +kernel
theorem dX5_due_8 : decode cX5_due 8 = .ok (.iload_n 2, 1) := by decide +kernel
theorem dX5_due_9 : decode cX5_due 9 = .ok (.ifCond .lt 13, 3) := by decide +kernel
theorem dX5_due_12 : decode cX5_due 12 = .ok (.iload_n 3, 1) := by decide +kernel
theorem dX5_due_13 : decode cX5_due 13 = .ok (.iconst 0, 1) := by decide +kernel
theorem dX5_due_14 : decode cX5_due 14 = .ok (.bipush 50, 2) := by decide +kernel
theorem dX5_due_16 : decode cX5_due 16 = .ok (.invokestatic 60, 3) := by decide +kernel
theorem dX5_due_19 : decode cX5_due 19 = .ok (.ifCond .ne 5, 3) := by decide +kernel
theorem dX5_due_22 : decode cX5_due 22 = .ok (.iconst (-1), 1) := by decide +kernel
theorem dX5_due_23 : decode cX5_due 23 = .ok (.ireturn, 1) := by decide +kernel
theorem dX5_due_24 : decode cX5_due 24 = .ok (.aload_n 0, 1) := by decide +kernel
theorem dX5_due_25 : decode cX5_due 25 = .ok (.iload_n 1, 1) := by decide +kernel
theorem dX5_due_26 : decode cX5_due 26 = .ok (.iload_n 2, 1) := by decide +kernel
theorem dX5_due_27 : decode cX5_due 27 = .ok (.invokevirtual 185, 3) := by decide +kernel
theorem dX5_due_30 : decode cX5_due 30 = .ok (.istore 4, 2) := by decide +kernel
theorem dX5_due_32 : decode cX5_due 32 = .ok (.iload 4, 2) := by decide +kernel
theorem dX5_due_34 : decode cX5_due 34 = .ok (.bipush (-9), 2) := by decide +kernel
theorem dX5_due_36 : decode cX5_due 36 = .ok (.if_icmp .ne 11, 3) := by decide +kernel
theorem dX5_due_39 : decode cX5_due 39 = .ok (.aload_n 0, 1) := by decide +kernel
theorem dX5_due_40 : decode cX5_due 40 = .ok (.iconst 4, 1) := by decide +kernel
theorem dX5_due_41 : decode cX5_due 41 = .ok (.invokevirtual 68, 3) := by decide +kernel
theorem dX5_due_44 : decode cX5_due 44 = .ok (.goto 25, 3) := by decide +kernel
theorem dX5_due_47 : decode cX5_due 47 = .ok (.aload_n 0, 1) := by decide +kernel
theorem dX5_due_48 : decode cX5_due 48 = .ok (.iload 4, 2) := by decide +kernel
theorem dX5_due_50 : decode cX5_due 50 = .ok (.bipush 100, 2) := by decide +kernel
theorem dX5_due_52 : decode cX5_due 52 = .ok (.iload_n 3, 1) := by decide +kernel
theorem dX5_due_53 : decode cX5_due 53 = .ok (.imul, 1) := by decide +kernel
theorem dX5_due_54 : decode cX5_due 54 = .ok (.iadd, 1) := by decide +kernel
theorem dX5_due_55 : decode cX5_due 55 = .ok (.aload_n 0, 1) := by decide +kernel
theorem dX5_due_56 : decode cX5_due 56 = .ok (.iload_n 2, 1) := by decide +kernel
theorem dX5_due_57 : decode cX5_due 57 = .ok (.sipush 1000, 3) := by decide +kernel
theorem dX5_due_60 : decode cX5_due 60 = .ok (.iload_n 3, 1) := by decide +kernel
theorem dX5_due_61 : decode cX5_due 61 = .ok (.imul, 1) := by decide +kernel
theorem dX5_due_62 : decode cX5_due 62 = .ok (.iadd, 1) := by decide +kernel
theorem dX5_due_63 : decode cX5_due 63 = .ok (.invokevirtual 163, 3) := by decide +kernel
theorem dX5_due_66 : decode cX5_due 66 = .ok (.invokevirtual 86, 3) := by decide +kernel
theorem dX5_due_69 : decode cX5_due 69 = .ok (.ireturn, 1) := by decide +kernel
theorem dX5_doesQuarrel_0 : decode cX5_doesQuarrel 0 = .ok (.aload_n 0, 1) := by decide +kernel
theorem dX5_doesQuarrel_1 : decode cX5_doesQuarrel 1 = .ok (.iload_n 1, 1) := by decide +kernel
theorem dX5_doesQuarrel_2 : decode cX5_doesQuarrel 2 = .ok (.iload_n 2, 1) := by decide +kernel
theorem dX5_doesQuarrel_3 : decode cX5_doesQuarrel 3 = .ok (.iconst 2, 1) := by decide +kernel
theorem dX5_doesQuarrel_4 : decode cX5_doesQuarrel 4 = .ok (.iadd, 1) := by decide +kernel
theorem dX5_doesQuarrel_5 : decode cX5_doesQuarrel 5 = .ok (.invokevirtual 82, 3) := by decide +kernel
theorem dX5_doesQuarrel_8 : decode cX5_doesQuarrel 8 = .ok (.istore_n 3, 1) := by decide +kernel
theorem dX5_doesQuarrel_9 : decode cX5_doesQuarrel 9 = .ok (.aload_n 0, 1) := by decide +kernel
theorem dX5_doesQuarrel_10 : decode cX5_doesQuarrel 10 = .ok (.aload_n 0, 1) := by decide +kernel
theorem dX5_doesQuarrel_11 : decode cX5_doesQuarrel 11 = .ok (.iload_n 1, 1) := by decide +kernel
theorem dX5_doesQuarrel_12 : decode cX5_doesQuarrel 12 = .ok (.iload_n 2, 1) := by decide +kernel
theorem dX5_doesQuarrel_13 : decode cX5_doesQuarrel 13 = .ok (.invokevirtual 82, 3) := by decide +kernel
theorem dX5_doesQuarrel_16 : decode cX5_doesQuarrel 16 = .ok (.aload_n 0, 1) := by decide +kernel
theorem dX5_doesQuarrel_17 : decode cX5_doesQuarrel 17 = .ok (.iload_n 1, 1) := by decide +kernel
theorem dX5_doesQuarrel_18 : decode cX5_doesQuarrel 18 = .ok (.iload_n 2, 1) := by decide +kernel
theorem dX5_doesQuarrel_19 : decode cX5_doesQuarrel 19 = .ok (.iconst 1, 1) := by decide +kernel
theorem dX5_doesQuarrel_20 : decode cX5_doesQuarrel 20 = .ok (.iadd, 1) := by decide +kernel
theorem dX5_doesQuarrel_21 : decode cX5_doesQuarrel 21 = .ok (.invokevirtual 82, 3) := by decide +kernel
theorem dX5_doesQuarrel_24 : decode cX5_doesQuarrel 24 = .ok (.invokevirtual 185, 3) := by decide +kernel
theorem dX5_doesQuarrel_27 : decode cX5_doesQuarrel 27 = .ok (.istore 4, 2) := by decide +kernel
theorem dX5_doesQuarrel_29 : decode cX5_doesQuarrel 29 = .ok (.iload 4, 2) := by decide +kernel
theorem dX5_doesQuarrel_31 : decode cX5_doesQuarrel 31 = .ok (.bipush (-9), 2) := by decide +kernel
theorem dX5_doesQuarrel_33 : decode cX5_doesQuarrel 33 = .ok (.if_icmp .eq 31, 3) := by decide +kernel
theorem dX5_doesQuarrel_36 : decode cX5_doesQuarrel 36 = .ok (.aload_n 0, 1) := by decide +kernel
theorem dX5_doesQuarrel_37 : decode cX5_doesQuarrel 37 = .ok (.aload_n 0, 1) := by decide +kernel
theorem dX5_doesQuarrel_38 : decode cX5_doesQuarrel 38 = .ok (.iload_n 1, 1) := by decide +kernel
theorem dX5_doesQuarrel_39 : decode cX5_doesQuarrel 39 = .ok (.iload_n 2, 1) := by decide +kernel
theorem dX5_doesQuarrel_40 : decode cX5_doesQuarrel 40 = .ok (.iconst 1, 1) := by decide +kernel
theorem dX5_doesQuarrel_41 : decode cX5_doesQuarrel 41 = .ok (.iadd, 1) := by decide +kernel
theorem dX5_doesQuarrel_42 : decode cX5_doesQuarrel 42 = .ok (.invokevirtual 82, 3) := by decide +kernel
theorem dX5_doesQuarrel_45 : decode cX5_doesQuarrel 45 = .ok (.sipush 1000, 3) := by decide +kernel
theorem dX5_doesQuarrel_48 : decode cX5_doesQuarrel 48 = .ok (.iload_n 3, 1) := by decide +kernel
theorem dX5_doesQuarrel_49 : decode cX5_doesQuarrel 49 = .ok (.imul, 1) := by decide +kernel
theorem dX5_doesQuarrel_50 : decode cX5_doesQuarrel 50 = .ok (.iadd, 1) := by decide +kernel
theorem dX5_doesQuarrel_51 : decode cX5_doesQuarrel 51 = .ok (.invokevirtual 163, 3) := by decide +kernel
theorem dX5_doesQuarrel_54 : decode cX5_doesQuarrel 54 = .ok (.iload 4, 2) := by decide +kernel
theorem dX5_doesQuarrel_56 : decode cX5_doesQuarrel 56 = .ok (.bipush 100, 2) := by decide +kernel
theorem dX5_doesQuarrel_58 : decode cX5_doesQuarrel 58 = .ok (.iload_n 3, 1) := by decide +kernel
theorem dX5_doesQuarrel_59 : decode cX5_doesQuarrel 59 = .ok (.imul, 1) := by decide +kernel
theorem dX5_doesQuarrel_60 : decode cX5_doesQuarrel 60 = .ok (.iadd, 1) := by decide +kernel
theorem dX5_doesQuarrel_61 : decode cX5_doesQuarrel 61 = .ok (.if_icmp .eq 7, 3) := by decide +kernel
theorem dX5_doesQuarrel_64 : decode cX5_doesQuarrel 64 = .ok (.iconst 1, 1) := by decide +kernel
theorem dX5_doesQuarrel_65 : decode cX5_doesQuarrel 65 = .ok (.goto 4, 3) := by decide +kernel
theorem dX5_doesQuarrel_68 : decode cX5_doesQuarrel 68 = .ok (.iconst 0, 1) := by decide +kernel
theorem dX5_doesQuarrel_69 : decode cX5_doesQuarrel 69 = .ok (.ireturn, 1) := by decide +kernel
theorem dX5_quarrelMany_0 : decode cX5_quarrelMany 0 = .ok (.iconst 0, 1) := by decide +kernel
theorem dX5_quarrelMany_1 : decode cX5_quarrelMany 1 = .ok (.istore_n 2, 1) := by decide +kernel
theorem dX5_quarrelMany_2 : decode cX5_quarrelMany 2 = .ok (.iconst 0, 1) := by decide +kernel
theorem dX5_quarrelMany_3 : decode cX5_quarrelMany 3 = .ok (.istore_n 3, 1) := by decide +kernel
theorem dX5_quarrelMany_4 : decode cX5_quarrelMany 4 = .ok (.iload_n 3, 1) := by decide +kernel
theorem dX5_quarrelMany_5 : decode cX5_quarrelMany 5 = .ok (.aload_n 0, 1) := by decide +kernel
theorem dX5_quarrelMany_6 : decode cX5_quarrelMany 6 = .ok (.getfield 17, 3) := by decide +kernel
theorem dX5_quarrelMany_9 : decode cX5_quarrelMany 9 = .ok (.iload_n 1, 1) := by decide +kernel
theorem dX5_quarrelMany_10 : decode cX5_quarrelMany 10 = .ok (.iaload, 1) := by decide +kernel
theorem dX5_quarrelMany_11 : decode cX5_quarrelMany 11 = .ok (.if_icmp .ge 26, 3) := by decide +kernel
theorem dX5_quarrelMany_14 : decode cX5_quarrelMany 14 = .ok (.iload_n 2, 1) := by decide +kernel
theorem dX5_quarrelMany_15 : decode cX5_quarrelMany 15 = .ok (.aload_n 0, 1) := by decide +kernel
theorem dX5_quarrelMany_16 : decode cX5_quarrelMany 16 = .ok (.iload_n 1, 1) := by decide +kernel
theorem dX5_quarrelMany_17 : decode cX5_quarrelMany 17 = .ok (.iload_n 3, 1) := by decide +kernel
theorem dX5_quarrelMany_18 : decode cX5_quarrelMany 18 = .ok (.invokevirtual 207, 3) := by decide +kernel
theorem dX5_quarrelMany_21 : decode cX5_quarrelMany 21 = .ok (.ifCond .eq 7, 3) := by decide +kernel
theorem dX5_quarrelMany_24 : decode cX5_quarrelMany 24 = .ok (.iconst 1, 1) := by decide +kernel
theorem dX5_quarrelMany_25 : decode cX5_quarrelMany 25 = .ok (.goto 4, 3) := by decide +kernel
theorem dX5_quarrelMany_28 : decode cX5_quarrelMany 28 = .ok (.iconst 0, 1) := by decide +kernel
theorem dX5_quarrelMany_29 : decode cX5_quarrelMany 29 = .ok (.iadd, 1) := by decide +kernel
theorem dX5_quarrelMany_30 : decode cX5_quarrelMany 30 = .ok (.istore_n 2, 1) := by decide +kernel
theorem dX5_quarrelMany_31 : decode cX5_quarrelMany 31 = .ok (.iinc 3 3, 3) := by decide +kernel
theorem dX5_quarrelMany_34 : decode cX5_quarrelMany 34 = .ok (.goto (-30), 3) := by decide +kernel
theorem dX5_quarrelMany_37 : decode cX5_quarrelMany 37 = .ok (.iload_n 2, 1) := by decide +kernel
theorem dX5_quarrelMany_38 : decode cX5_quarrelMany 38 = .ok (.ireturn, 1) := by decide +kernel
theorem dX5_askedContracts_0 : decode cX5_askedContracts 0 = .ok (.aload_n 0, 1) := by decide +kernel
theorem dX5_askedContracts_1 : decode cX5_askedContracts 1 = .ok (.iload_n 1, 1) := by decide +kernel
theorem dX5_askedContracts_2 : decode cX5_askedContracts 2 = .ok (.invokevirtual 79, 3) := by decide +kernel
theorem dX5_askedContracts_5 : decode cX5_askedContracts 5 = .ok (.istore_n 3, 1) := by decide +kernel
theorem dX5_askedContracts_6 : decode cX5_askedContracts 6 = .ok (.iload_n 3, 1) := by decide +kernel
theorem dX5_askedContracts_7 : decode cX5_askedContracts 7 = .ok (.ifCond .ge 5, 3) := by decide +kernel
theorem dX5_askedContracts_10 : decode cX5_askedContracts 10 = .ok (.iload_n 3, 1) := by decide +kernel
theorem dX5_askedContracts_11 : decode cX5_askedContracts 11 = .ok (.ireturn, 1) := by decide +kernel
theorem dX5_askedContracts_12 : decode cX5_askedContracts 12 = .ok (.aload_n 0, 1) := by decide +kernel
theorem dX5_askedContracts_13 : decode cX5_askedContracts 13 = .ok (.getfield 17, 3) := by decide +kernel
theorem dX5_askedContracts_16 : decode cX5_askedContracts 16 = .ok (.iload_n 1, 1) := by decide +kernel
theorem dX5_askedContracts_17 : decode cX5_askedContracts 17 = .ok (.iaload, 1) := by decide +kernel
theorem dX5_askedContracts_18 : decode cX5_askedContracts 18 = .ok (.iconst 3, 1) := by decide +kernel
theorem dX5_askedContracts_19 : decode cX5_askedContracts 19 = .ok (.irem, 1) := by decide +kernel
theorem dX5_askedContracts_20 : decode cX5_askedContracts 20 = .ok (.ifCond .eq 9, 3) := by decide +kernel
theorem dX5_askedContracts_23 : decode cX5_askedContracts 23 = .ok (.aload_n 0, 1) := by decide +kernel
theorem dX5_askedContracts_24 : decode cX5_askedContracts 24 = .ok (.iconst 5, 1) := by decide +kernel
theorem dX5_askedContracts_25 : decode cX5_askedContracts 25 = .ok (.invokevirtual 68, 3) := by decide +kernel
theorem dX5_askedContracts_28 : decode cX5_askedContracts 28 = .ok (.ireturn, 1) := by decide +kernel
theorem dX5_askedContracts_29 : decode cX5_askedContracts 29 = .ok (.iconst 0, 1) := by decide +kernel
theorem dX5_askedContracts_30 : decode cX5_askedContracts 30 = .ok (.istore 4, 2) := by decide +kernel
theorem dX5_askedContracts_32 : decode cX5_askedContracts 32 = .ok (.iload 4, 2) := by decide +kernel
theorem dX5_askedContracts_34 : decode cX5_askedContracts 34 = .ok (.aload_n 0, 1) := by decide +kernel
theorem dX5_askedContracts_35 : decode cX5_askedContracts 35 = .ok (.getfield 17, 3) := by decide +kernel
theorem dX5_askedContracts_38 : decode cX5_askedContracts 38 = .ok (.iload_n 1, 1) := by decide +kernel
theorem dX5_askedContracts_39 : decode cX5_askedContracts 39 = .ok (.iaload, 1) := by decide +kernel
theorem dX5_askedContracts_40 : decode cX5_askedContracts 40 = .ok (.if_icmp .ge 100, 3) := by decide +kernel
theorem dX5_askedContracts_43 : decode cX5_askedContracts 43 = .ok (.aload_n 0, 1) := by decide +kernel
theorem dX5_askedContracts_44 : decode cX5_askedContracts 44 = .ok (.aload_n 0, 1) := by decide +kernel
theorem dX5_askedContracts_45 : decode cX5_askedContracts 45 = .ok (.iload_n 1, 1) := by decide +kernel
theorem dX5_askedContracts_46 : decode cX5_askedContracts 46 = .ok (.iload 4, 2) := by decide +kernel
theorem dX5_askedContracts_48 : decode cX5_askedContracts 48 = .ok (.invokevirtual 82, 3) := by decide +kernel
theorem dX5_askedContracts_51 : decode cX5_askedContracts 51 = .ok (.invokevirtual 169, 3) := by decide +kernel
theorem dX5_askedContracts_54 : decode cX5_askedContracts 54 = .ok (.ifCond .eq 37, 3) := by decide +kernel
theorem dX5_askedContracts_57 : decode cX5_askedContracts 57 = .ok (.aload_n 0, 1) := by decide +kernel
theorem dX5_askedContracts_58 : decode cX5_askedContracts 58 = .ok (.iload_n 1, 1) := by decide +kernel
theorem dX5_askedContracts_59 : decode cX5_askedContracts 59 = .ok (.iload 4, 2) := by decide +kernel
theorem dX5_askedContracts_61 : decode cX5_askedContracts 61 = .ok (.iconst 1, 1) := by decide +kernel
theorem dX5_askedContracts_62 : decode cX5_askedContracts 62 = .ok (.iadd, 1) := by decide +kernel
theorem dX5_askedContracts_63 : decode cX5_askedContracts 63 = .ok (.invokevirtual 82, 3) := by decide +kernel
theorem dX5_askedContracts_66 : decode cX5_askedContracts 66 = .ok (.ifCond .lt 25, 3) := by decide +kernel
theorem dX5_askedContracts_69 : decode cX5_askedContracts 69 = .ok (.aload_n 0, 1) := by decide +kernel
theorem dX5_askedContracts_70 : decode cX5_askedContracts 70 = .ok (.iload_n 1, 1) := by decide +kernel
theorem dX5_askedContracts_71 : decode cX5_askedContracts 71 = .ok (.iload 4, 2) := by decide +kernel
theorem dX5_askedContracts_73 : decode cX5_askedContracts 73 = .ok (.iconst 2, 1) := by decide +kernel
theorem dX5_askedContracts_74 : decode cX5_askedContracts 74 = .ok (.iadd, 1) := by decide +kernel
theorem dX5_askedContracts_75 : decode cX5_askedContracts 75 = .ok (.invokevirtual 82, 3) := by decide +kernel
theorem dX5_askedContracts_78 : decode cX5_askedContracts 78 = .ok (.iconst 0, 1) := by decide +kernel
theorem dX5_askedContracts_79 : decode cX5_askedContracts 79 = .ok (.bipush 50, 2) := by decide +kernel
theorem dX5_askedContracts_81 : decode cX5_askedContracts 81 = .ok (.invokestatic 60, 3) := by decide +kernel
theorem dX5_askedContracts_84 : decode cX5_askedContracts 84 = .ok (.ifCond .eq 7, 3) := by decide +kernel
theorem dX5_askedContracts_87 : decode cX5_askedContracts 87 = .ok (.iconst 1, 1) := by decide +kernel
theorem dX5_askedContracts_88 : decode cX5_askedContracts 88 = .ok (.goto 4, 3) := by decide +kernel
theorem dX5_askedContracts_91 : decode cX5_askedContracts 91 = .ok (.iconst 0, 1) := by decide +kernel
theorem dX5_askedContracts_92 : decode cX5_askedContracts 92 = .ok (.istore 5, 2) := by decide +kernel
theorem dX5_askedContracts_94 : decode cX5_askedContracts 94 = .ok (.iload 5, 2) := by decide +kernel
theorem dX5_askedContracts_96 : decode cX5_askedContracts 96 = .ok (.ifCond .eq 32, 3) := by decide +kernel
theorem dX5_askedContracts_99 : decode cX5_askedContracts 99 = .ok (.iload_n 2, 1) := by decide +kernel
theorem dX5_askedContracts_100 : decode cX5_askedContracts 100 = .ok (.ifCond .eq 34, 3) := by decide +kernel
theorem dX5_askedContracts_103 : decode cX5_askedContracts 103 = .ok (.aload_n 0, 1) := by decide +kernel
theorem dX5_askedContracts_104 : decode cX5_askedContracts 104 = .ok (.aload_n 0, 1) := by decide +kernel
theorem dX5_askedContracts_105 : decode cX5_askedContracts 105 = .ok (.iload_n 1, 1) := by decide +kernel
theorem dX5_askedContracts_106 : decode cX5_askedContracts 106 = .ok (.iload 4, 2) := by decide +kernel
theorem dX5_askedContracts_108 : decode cX5_askedContracts 108 = .ok (.invokevirtual 82, 3) := by decide +kernel
theorem dX5_askedContracts_111 : decode cX5_askedContracts 111 = .ok (.aload_n 0, 1) := by decide +kernel
theorem dX5_askedContracts_112 : decode cX5_askedContracts 112 = .ok (.iload_n 1, 1) := by decide +kernel
theorem dX5_askedContracts_113 : decode cX5_askedContracts 113 = .ok (.iload 4, 2) := by decide +kernel
theorem dX5_askedContracts_115 : decode cX5_askedContracts 115 = .ok (.iconst 1, 1) := by decide +kernel
theorem dX5_askedContracts_116 : decode cX5_askedContracts 116 = .ok (.iadd, 1) := by decide +kernel
theorem dX5_askedContracts_117 : decode cX5_askedContracts 117 = .ok (.invokevirtual 82, 3) := by decide +kernel
theorem dX5_askedContracts_120 : decode cX5_askedContracts 120 = .ok (.invokevirtual 185, 3) := by decide +kernel
theorem dX5_askedContracts_123 : decode cX5_askedContracts 123 = .ok (.bipush (-9), 2) := by decide +kernel
theorem dX5_askedContracts_125 : decode cX5_askedContracts 125 = .ok (.if_icmp .ne 9, 3) := by decide +kernel
theorem dX5_askedContracts_128 : decode cX5_askedContracts 128 = .ok (.aload_n 0, 1) := by decide +kernel
theorem dX5_askedContracts_129 : decode cX5_askedContracts 129 = .ok (.iconst 3, 1) := by decide +kernel
theorem dX5_askedContracts_130 : decode cX5_askedContracts 130 = .ok (.invokevirtual 68, 3) := by decide +kernel
theorem dX5_askedContracts_133 : decode cX5_askedContracts 133 = .ok (.ireturn, 1) := by decide +kernel
theorem dX5_askedContracts_134 : decode cX5_askedContracts 134 = .ok (.iinc 4 3, 3) := by decide +kernel
theorem dX5_askedContracts_137 : decode cX5_askedContracts 137 = .ok (.goto (-105), 3) := by decide +kernel
theorem dX5_askedContracts_140 : decode cX5_askedContracts 140 = .ok (.iconst 0, 1) := by decide +kernel
theorem dX5_askedContracts_141 : decode cX5_askedContracts 141 = .ok (.ireturn, 1) := by decide +kernel
theorem dX5_quarrels_0 : decode cX5_quarrels 0 = .ok (.aload_n 0, 1) := by decide +kernel
theorem dX5_quarrels_1 : decode cX5_quarrels 1 = .ok (.iload_n 1, 1) := by decide +kernel
theorem dX5_quarrels_2 : decode cX5_quarrels 2 = .ok (.iconst 1, 1) := by decide +kernel
theorem dX5_quarrels_3 : decode cX5_quarrels 3 = .ok (.invokevirtual 210, 3) := by decide +kernel
theorem dX5_quarrels_6 : decode cX5_quarrels 6 = .ok (.istore_n 2, 1) := by decide +kernel
theorem dX5_quarrels_7 : decode cX5_quarrels 7 = .ok (.iload_n 2, 1) := by decide +kernel
theorem dX5_quarrels_8 : decode cX5_quarrels 8 = .ok (.ifCond .ge 5, 3) := by decide +kernel
theorem dX5_quarrels_11 : decode cX5_quarrels 11 = .ok (.iload_n 2, 1) := by decide +kernel
theorem dX5_quarrels_12 : decode cX5_quarrels 12 = .ok (.ireturn, 1) := by decide +kernel
theorem dX5_quarrels_13 : decode cX5_quarrels 13 = .ok (.bipush (-9), 2) := by decide +kernel
theorem dX5_quarrels_15 : decode cX5_quarrels 15 = .ok (.istore_n 3, 1) := by decide +kernel
theorem dX5_quarrels_16 : decode cX5_quarrels 16 = .ok (.aload_n 0, 1) := by decide +kernel
theorem dX5_quarrels_17 : decode cX5_quarrels 17 = .ok (.getfield 17, 3) := by decide +kernel
theorem dX5_quarrels_20 : decode cX5_quarrels 20 = .ok (.iload_n 1, 1) := by decide +kernel
theorem dX5_quarrels_21 : decode cX5_quarrels 21 = .ok (.iaload, 1) := by decide +kernel
theorem dX5_quarrels_22 : decode cX5_quarrels 22 = .ok (.iconst 3, 1) := by decide +kernel
theorem dX5_quarrels_23 : decode cX5_quarrels 23 = .ok (.isub, 1) := by decide +kernel
theorem dX5_quarrels_24 : decode cX5_quarrels 24 = .ok (.istore 4, 2) := by decide +kernel
theorem dX5_quarrels_26 : decode cX5_quarrels 26 = .ok (.iload 4, 2) := by decide +kernel
theorem dX5_quarrels_28 : decode cX5_quarrels 28 = .ok (.ifCond .lt 28, 3) := by decide +kernel
theorem dX5_quarrels_31 : decode cX5_quarrels 31 = .ok (.aload_n 0, 1) := by decide +kernel
theorem dX5_quarrels_32 : decode cX5_quarrels 32 = .ok (.iload_n 1, 1) := by decide +kernel
theorem dX5_quarrels_33 : decode cX5_quarrels 33 = .ok (.iload 4, 2) := by decide +kernel
theorem dX5_quarrels_35 : decode cX5_quarrels 35 = .ok (.invokevirtual 207, 3) := by decide +kernel
theorem dX5_quarrels_38 : decode cX5_quarrels 38 = .ok (.ifCond .eq 10, 3) := by decide +kernel
theorem dX5_quarrels_41 : decode cX5_quarrels 41 = .ok (.iload 4, 2) := by decide +kernel
theorem dX5_quarrels_43 : decode cX5_quarrels 43 = .ok (.iconst 3, 1) := by decide +kernel
theorem dX5_quarrels_44 : decode cX5_quarrels 44 = .ok (.idiv, 1) := by decide +kernel
theorem dX5_quarrels_45 : decode cX5_quarrels 45 = .ok (.goto 4, 3) := by decide +kernel
theorem dX5_quarrels_48 : decode cX5_quarrels 48 = .ok (.iload_n 3, 1) := by decide +kernel
theorem dX5_quarrels_49 : decode cX5_quarrels 49 = .ok (.istore_n 3, 1) := by decide +kernel
theorem dX5_quarrels_50 : decode cX5_quarrels 50 = .ok (.iinc 4 (-3), 3) := by decide +kernel
theorem dX5_quarrels_53 : decode cX5_quarrels 53 = .ok (.goto (-27), 3) := by decide +kernel
theorem dX5_quarrels_56 : decode cX5_quarrels 56 = .ok (.aload_n 0, 1) := by decide +kernel
theorem dX5_quarrels_57 : decode cX5_quarrels 57 = .ok (.iload_n 3, 1) := by decide +kernel
theorem dX5_quarrels_58 : decode cX5_quarrels 58 = .ok (.aload_n 0, 1) := by decide +kernel
theorem dX5_quarrels_59 : decode cX5_quarrels 59 = .ok (.iload_n 1, 1) := by decide +kernel
theorem dX5_quarrels_60 : decode cX5_quarrels 60 = .ok (.invokevirtual 214, 3) := by decide +kernel
theorem dX5_quarrels_63 : decode cX5_quarrels 63 = .ok (.invokevirtual 86, 3) := by decide +kernel
theorem dX5_quarrels_66 : decode cX5_quarrels 66 = .ok (.ireturn, 1) := by decide +kernel
theorem dX5_change_0 : decode cX5_change 0 = .ok (.aload_n 0, 1) := by decide +kernel
theorem dX5_change_1 : decode cX5_change 1 = .ok (.iload_n 1, 1) := by decide +kernel
theorem dX5_change_2 : decode cX5_change 2 = .ok (.invokevirtual 169, 3) := by decide +kernel
theorem dX5_change_5 : decode cX5_change 5 = .ok (.ifCond .eq 37, 3) := by decide +kernel
theorem dX5_change_8 : decode cX5_change 8 = .ok (.iload_n 2, 1) := by decide +kernel
theorem dX5_change_9 : decode cX5_change 9 = .ok (.invokestatic 64, 3) := by decide +kernel
theorem dX5_change_12 : decode cX5_change 12 = .ok (.ifCond .eq 30, 3) := by decide +kernel
theorem dX5_change_15 : decode cX5_change 15 = .ok (.iload_n 3, 1) := by decide +kernel
theorem dX5_change_16 : decode cX5_change 16 = .ok (.ifCond .lt 26, 3) := by decide +kernel
theorem dX5_change_19 : decode cX5_change 19 = .ok (.iload_n 3, 1) := by decide +kernel
theorem dX5_change_20 : decode cX5_change 20 = .ok (.iload 4, 2) := by decide +kernel
theorem dX5_change_22 : decode cX5_change 22 = .ok (.if_icmp .gt 20, 3) := by decide +kernel
theorem dX5_change_25 : decode cX5_change 25 = .ok (.iload 4, 2) := by decide +kernel
theorem dX5_change_27 : decode cX5_change 27 = .ok (.sipush 9999, 3) := by decide +kernel
theorem dX5_change_30 : decode cX5_change 30 = .ok (.if_icmp .gt 12, 3) := by decide +kernel
theorem dX5_change_33 : decode cX5_change 33 = .ok (.iload 4, 2) := by decide +kernel
theorem dX5_change_35 : decode cX5_change 35 = .ok (.iload_n 3, 1) := by decide +kernel
theorem dX5_change_36 : decode cX5_change 36 = .ok (.isub, 1) := by decide +kernel
theorem dX5_change_37 : decode cX5_change 37 = .ok (.bipush 100, 2) := by decide +kernel
theorem dX5_change_39 : decode cX5_change 39 = .ok (.if_icmp .lt 5, 3) := by decide +kernel
theorem dX5_change_42 : decode cX5_change 42 = .ok (.iconst (-1), 1) := by decide +kernel
theorem dX5_change_43 : decode cX5_change 43 = .ok (.ireturn, 1) := by decide +kernel
theorem dX5_change_44 : decode cX5_change 44 = .ok (.aload_n 0, 1) := by decide +kernel
theorem dX5_change_45 : decode cX5_change 45 = .ok (.iload_n 2, 1) := by decide +kernel
theorem dX5_change_46 : decode cX5_change 46 = .ok (.iconst 0, 1) := by decide +kernel
theorem dX5_change_47 : decode cX5_change 47 = .ok (.invokevirtual 210, 3) := by decide +kernel
theorem dX5_change_50 : decode cX5_change 50 = .ok (.istore 5, 2) := by decide +kernel
theorem dX5_change_52 : decode cX5_change 52 = .ok (.iload 5, 2) := by decide +kernel
theorem dX5_change_54 : decode cX5_change 54 = .ok (.ifCond .ge 6, 3) := by decide +kernel
theorem dX5_change_57 : decode cX5_change 57 = .ok (.iload 5, 2) := by decide +kernel
theorem dX5_change_59 : decode cX5_change 59 = .ok (.ireturn, 1) := by decide +kernel
theorem dX5_change_60 : decode cX5_change 60 = .ok (.aload_n 0, 1) := by decide +kernel
theorem dX5_change_61 : decode cX5_change 61 = .ok (.getfield 38, 3) := by decide +kernel
theorem dX5_change_64 : decode cX5_change 64 = .ok (.iload_n 1, 1) := by decide +kernel
theorem dX5_change_65 : decode cX5_change 65 = .ok (.iaload, 1) := by decide +kernel
theorem dX5_change_66 : decode cX5_change 66 = .ok (.istore 6, 2) := by decide +kernel
theorem dX5_change_68 : decode cX5_change 68 = .ok (.iload_n 3, 1) := by decide +kernel
theorem dX5_change_69 : decode cX5_change 69 = .ok (.istore 7, 2) := by decide +kernel
theorem dX5_change_71 : decode cX5_change 71 = .ok (.bipush 40, 2) := by decide +kernel
theorem dX5_change_73 : decode cX5_change 73 = .ok (.istore 8, 2) := by decide +kernel
theorem dX5_change_75 : decode cX5_change 75 = .ok (.iload_n 3, 1) := by decide +kernel
theorem dX5_change_76 : decode cX5_change 76 = .ok (.istore 9, 2) := by decide +kernel
theorem dX5_change_78 : decode cX5_change 78 = .ok (.iload 9, 2) := by decide +kernel
theorem dX5_change_80 : decode cX5_change 80 = .ok (.iload 4, 2) := by decide +kernel
theorem dX5_change_82 : decode cX5_change 82 = .ok (.if_icmp .gt 56, 3) := by decide +kernel
theorem dX5_change_85 : decode cX5_change 85 = .ok (.aload_n 0, 1) := by decide +kernel
theorem dX5_change_86 : decode cX5_change 86 = .ok (.getfield 38, 3) := by decide +kernel
theorem dX5_change_89 : decode cX5_change 89 = .ok (.iload_n 1, 1) := by decide +kernel
theorem dX5_change_90 : decode cX5_change 90 = .ok (.iload 9, 2) := by decide +kernel
theorem dX5_change_92 : decode cX5_change 92 = .ok (.iastore, 1) := by decide +kernel
theorem dX5_change_93 : decode cX5_change 93 = .ok (.aload_n 0, 1) := by decide +kernel
theorem dX5_change_94 : decode cX5_change 94 = .ok (.iload_n 2, 1) := by decide +kernel
theorem dX5_change_95 : decode cX5_change 95 = .ok (.invokevirtual 214, 3) := by decide +kernel
theorem dX5_change_98 : decode cX5_change 98 = .ok (.istore 10, 2) := by decide +kernel
theorem dX5_change_100 : decode cX5_change 100 = .ok (.iload 10, 2) := by decide +kernel
theorem dX5_change_102 : decode cX5_change 102 = .ok (.iload 8, 2) := by decide +kernel
theorem dX5_change_104 : decode cX5_change 104 = .ok (.if_icmp .ge 8, 3) := by decide +kernel
theorem dX5_change_107 : decode cX5_change 107 = .ok (.iload 9, 2) := by decide +kernel
theorem dX5_change_109 : decode cX5_change 109 = .ok (.goto 5, 3) := by decide +kernel
theorem dX5_change_112 : decode cX5_change 112 = .ok (.iload 7, 2) := by decide +kernel
theorem dX5_change_114 : decode cX5_change 114 = .ok (.istore 7, 2) := by decide +kernel
theorem dX5_change_116 : decode cX5_change 116 = .ok (.iload 10, 2) := by decide +kernel
theorem dX5_change_118 : decode cX5_change 118 = .ok (.iload 8, 2) := by decide +kernel
theorem dX5_change_120 : decode cX5_change 120 = .ok (.if_icmp .ge 8, 3) := by decide +kernel
theorem dX5_change_123 : decode cX5_change 123 = .ok (.iload 10, 2) := by decide +kernel
theorem dX5_change_125 : decode cX5_change 125 = .ok (.goto 5, 3) := by decide +kernel
theorem dX5_change_128 : decode cX5_change 128 = .ok (.iload 8, 2) := by decide +kernel
theorem dX5_change_130 : decode cX5_change 130 = .ok (.istore 8, 2) := by decide +kernel
theorem dX5_change_132 : decode cX5_change 132 = .ok (.iinc 9 1, 3) := by decide +kernel
theorem dX5_change_135 : decode cX5_change 135 = .ok (.goto (-57), 3) := by decide +kernel
theorem dX5_change_138 : decode cX5_change 138 = .ok (.aload_n 0, 1) := by decide +kernel
theorem dX5_change_139 : decode cX5_change 139 = .ok (.getfield 38, 3) := by decide +kernel
theorem dX5_change_142 : decode cX5_change 142 = .ok (.iload_n 1, 1) := by decide +kernel
theorem dX5_change_143 : decode cX5_change 143 = .ok (.iload 6, 2) := by decide +kernel
theorem dX5_change_145 : decode cX5_change 145 = .ok (.iastore, 1) := by decide +kernel
theorem dX5_change_146 : decode cX5_change 146 = .ok (.aload_n 0, 1) := by decide +kernel
theorem dX5_change_147 : decode cX5_change 147 = .ok (.iload 8, 2) := by decide +kernel
theorem dX5_change_149 : decode cX5_change 149 = .ok (.iload 7, 2) := by decide +kernel
theorem dX5_change_151 : decode cX5_change 151 = .ok (.invokevirtual 86, 3) := by decide +kernel
theorem dX5_change_154 : decode cX5_change 154 = .ok (.ireturn, 1) := by decide +kernel
theorem dX5_rent_0 : decode cX5_rent 0 = .ok (.aload_n 0, 1) := by decide +kernel
theorem dX5_rent_1 : decode cX5_rent 1 = .ok (.iload_n 1, 1) := by decide +kernel
theorem dX5_rent_2 : decode cX5_rent 2 = .ok (.invokevirtual 169, 3) := by decide +kernel
theorem dX5_rent_5 : decode cX5_rent 5 = .ok (.ifCond .eq 33, 3) := by decide +kernel
theorem dX5_rent_8 : decode cX5_rent 8 = .ok (.iload_n 2, 1) := by decide +kernel
theorem dX5_rent_9 : decode cX5_rent 9 = .ok (.iconst 0, 1) := by decide +kernel
theorem dX5_rent_10 : decode cX5_rent 10 = .ok (.sipush 9999, 3) := by decide +kernel
theorem dX5_rent_13 : decode cX5_rent 13 = .ok (.invokestatic 60, 3) := by decide +kernel
theorem dX5_rent_16 : decode cX5_rent 16 = .ok (.ifCond .eq 22, 3) := by decide +kernel
theorem dX5_rent_19 : decode cX5_rent 19 = .ok (.iload_n 3, 1) := by decide +kernel
theorem dX5_rent_20 : decode cX5_rent 20 = .ok (.iload 4, 2) := by decide +kernel
theorem dX5_rent_22 : decode cX5_rent 22 = .ok (.invokestatic 191, 3) := by decide +kernel
theorem dX5_rent_25 : decode cX5_rent 25 = .ok (.ifCond .eq 13, 3) := by decide +kernel
theorem dX5_rent_28 : decode cX5_rent 28 = .ok (.iload 4, 2) := by decide +kernel
theorem dX5_rent_30 : decode cX5_rent 30 = .ok (.iload_n 3, 1) := by decide +kernel
theorem dX5_rent_31 : decode cX5_rent 31 = .ok (.isub, 1) := by decide +kernel
theorem dX5_rent_32 : decode cX5_rent 32 = .ok (.sipush 400, 3) := by decide +kernel
theorem dX5_rent_35 : decode cX5_rent 35 = .ok (.if_icmp .le 5, 3) := by decide +kernel
theorem dX5_rent_38 : decode cX5_rent 38 = .ok (.iconst (-1), 1) := by decide +kernel
theorem dX5_rent_39 : decode cX5_rent 39 = .ok (.ireturn, 1) := by decide +kernel
theorem dX5_rent_40 : decode cX5_rent 40 = .ok (.ldc2_w 217, 3) := by decide +kernel
theorem dX5_rent_43 : decode cX5_rent 43 = .ok (.lstore 5, 2) := by decide +kernel
theorem dX5_rent_45 : decode cX5_rent 45 = .ok (.lconst 0, 1) := by decide +kernel
theorem dX5_rent_46 : decode cX5_rent 46 = .ok (.lstore 7, 2) := by decide +kernel
theorem dX5_rent_48 : decode cX5_rent 48 = .ok (.iload_n 3, 1) := by decide +kernel
theorem dX5_rent_49 : decode cX5_rent 49 = .ok (.istore 9, 2) := by decide +kernel
theorem dX5_rent_51 : decode cX5_rent 51 = .ok (.iload 9, 2) := by decide +kernel
theorem dX5_rent_53 : decode cX5_rent 53 = .ok (.iload 4, 2) := by decide +kernel
theorem dX5_rent_55 : decode cX5_rent 55 = .ok (.if_icmp .ge 36, 3) := by decide +kernel
theorem dX5_rent_58 : decode cX5_rent 58 = .ok (.lload 7, 2) := by decide +kernel
theorem dX5_rent_60 : decode cX5_rent 60 = .ok (.iload_n 2, 1) := by decide +kernel
theorem dX5_rent_61 : decode cX5_rent 61 = .ok (.i2l, 1) := by decide +kernel
theorem dX5_rent_62 : decode cX5_rent 62 = .ok (.lload 5, 2) := by decide +kernel
theorem dX5_rent_64 : decode cX5_rent 64 = .ok (.aload_n 0, 1) := by decide +kernel
theorem dX5_rent_65 : decode cX5_rent 65 = .ok (.aload_n 0, 1) := by decide +kernel
theorem dX5_rent_66 : decode cX5_rent 66 = .ok (.iload_n 1, 1) := by decide +kernel
theorem dX5_rent_67 : decode cX5_rent 67 = .ok (.iload 9, 2) := by decide +kernel
theorem dX5_rent_69 : decode cX5_rent 69 = .ok (.invokevirtual 166, 3) := by decide +kernel
theorem dX5_rent_72 : decode cX5_rent 72 = .ok (.sipush 1000, 3) := by decide +kernel
theorem dX5_rent_75 : decode cX5_rent 75 = .ok (.idiv, 1) := by decide +kernel
theorem dX5_rent_76 : decode cX5_rent 76 = .ok (.invokevirtual 160, 3) := by decide +kernel
theorem dX5_rent_79 : decode cX5_rent 79 = .ok (.i2l, 1) := by decide +kernel
theorem dX5_rent_80 : decode cX5_rent 80 = .ok (.ldiv, 1) := by decide +kernel
theorem dX5_rent_81 : decode cX5_rent 81 = .ok (.lmul, 1) := by decide +kernel
theorem dX5_rent_82 : decode cX5_rent 82 = .ok (.ladd, 1) := by decide +kernel
theorem dX5_rent_83 : decode cX5_rent 83 = .ok (.lstore 7, 2) := by decide +kernel
theorem dX5_rent_85 : decode cX5_rent 85 = .ok (.iinc 9 1, 3) := by decide +kernel
theorem dX5_rent_88 : decode cX5_rent 88 = .ok (.goto (-37), 3) := by decide +kernel
theorem dX5_rent_91 : decode cX5_rent 91 = .ok (.aload_n 0, 1) := by decide +kernel
theorem dX5_rent_92 : decode cX5_rent 92 = .ok (.lload 7, 2) := by decide +kernel
theorem dX5_rent_94 : decode cX5_rent 94 = .ok (.lload 5, 2) := by decide +kernel
theorem dX5_rent_96 : decode cX5_rent 96 = .ok (.invokevirtual 219, 3) := by decide +kernel
theorem dX5_rent_99 : decode cX5_rent 99 = .ok (.ireturn, 1) := by decide +kernel
theorem dX5_voyage_0 : decode cX5_voyage 0 = .ok (.aload_n 0, 1) := by decide +kernel
theorem dX5_voyage_1 : decode cX5_voyage 1 = .ok (.iload_n 1, 1) := by decide +kernel
theorem dX5_voyage_2 : decode cX5_voyage 2 = .ok (.invokevirtual 169, 3) := by decide +kernel
theorem dX5_voyage_5 : decode cX5_voyage 5 = .ok (.ifCond .eq 30, 3) := by decide +kernel
theorem dX5_voyage_8 : decode cX5_voyage 8 = .ok (.aload_n 0, 1) := by decide +kernel
theorem dX5_voyage_9 : decode cX5_voyage 9 = .ok (.iload_n 2, 1) := by decide +kernel
theorem dX5_voyage_10 : decode cX5_voyage 10 = .ok (.invokevirtual 169, 3) := by decide +kernel
theorem dX5_voyage_13 : decode cX5_voyage 13 = .ok (.ifCond .eq 22, 3) := by decide +kernel
theorem dX5_voyage_16 : decode cX5_voyage 16 = .ok (.iload_n 3, 1) := by decide +kernel
theorem dX5_voyage_17 : decode cX5_voyage 17 = .ok (.invokestatic 122, 3) := by decide +kernel
theorem dX5_voyage_20 : decode cX5_voyage 20 = .ok (.ifCond .eq 15, 3) := by decide +kernel
theorem dX5_voyage_23 : decode cX5_voyage 23 = .ok (.iload 4, 2) := by decide +kernel
theorem dX5_voyage_25 : decode cX5_voyage 25 = .ok (.iconst 0, 1) := by decide +kernel
theorem dX5_voyage_26 : decode cX5_voyage 26 = .ok (.sipush 999, 3) := by decide +kernel
theorem dX5_voyage_29 : decode cX5_voyage 29 = .ok (.invokestatic 60, 3) := by decide +kernel
theorem dX5_voyage_32 : decode cX5_voyage 32 = .ok (.ifCond .ne 5, 3) := by decide +kernel
theorem dX5_voyage_35 : decode cX5_voyage 35 = .ok (.iconst (-1), 1) := by decide +kernel
theorem dX5_voyage_36 : decode cX5_voyage 36 = .ok (.ireturn, 1) := by decide +kernel
theorem dX5_voyage_37 : decode cX5_voyage 37 = .ok (.iload_n 3, 1) := by decide +kernel
theorem dX5_voyage_38 : decode cX5_voyage 38 = .ok (.iload 4, 2) := by decide +kernel
theorem dX5_voyage_40 : decode cX5_voyage 40 = .ok (.iadd, 1) := by decide +kernel
theorem dX5_voyage_41 : decode cX5_voyage 41 = .ok (.sipush 19999, 3) := by decide +kernel
theorem dX5_voyage_44 : decode cX5_voyage 44 = .ok (.if_icmp .le 6, 3) := by decide +kernel
theorem dX5_voyage_47 : decode cX5_voyage 47 = .ok (.bipush (-6), 2) := by decide +kernel
theorem dX5_voyage_49 : decode cX5_voyage 49 = .ok (.ireturn, 1) := by decide +kernel
theorem dX5_voyage_50 : decode cX5_voyage 50 = .ok (.aload_n 0, 1) := by decide +kernel
theorem dX5_voyage_51 : decode cX5_voyage 51 = .ok (.iload_n 1, 1) := by decide +kernel
theorem dX5_voyage_52 : decode cX5_voyage 52 = .ok (.iload_n 3, 1) := by decide +kernel
theorem dX5_voyage_53 : decode cX5_voyage 53 = .ok (.invokevirtual 201, 3) := by decide +kernel
theorem dX5_voyage_56 : decode cX5_voyage 56 = .ok (.istore 5, 2) := by decide +kernel
theorem dX5_voyage_58 : decode cX5_voyage 58 = .ok (.aload_n 0, 1) := by decide +kernel
theorem dX5_voyage_59 : decode cX5_voyage 59 = .ok (.aload_n 0, 1) := by decide +kernel
theorem dX5_voyage_60 : decode cX5_voyage 60 = .ok (.iload_n 2, 1) := by decide +kernel
theorem dX5_voyage_61 : decode cX5_voyage 61 = .ok (.iload_n 3, 1) := by decide +kernel
theorem dX5_voyage_62 : decode cX5_voyage 62 = .ok (.iload 4, 2) := by decide +kernel
theorem dX5_voyage_64 : decode cX5_voyage 64 = .ok (.iadd, 1) := by decide +kernel
theorem dX5_voyage_65 : decode cX5_voyage 65 = .ok (.invokevirtual 201, 3) := by decide +kernel
theorem dX5_voyage_68 : decode cX5_voyage 68 = .ok (.iload 5, 2) := by decide +kernel
theorem dX5_voyage_70 : decode cX5_voyage 70 = .ok (.isub, 1) := by decide +kernel
theorem dX5_voyage_71 : decode cX5_voyage 71 = .ok (.iconst 1, 1) := by decide +kernel
theorem dX5_voyage_72 : decode cX5_voyage 72 = .ok (.invokevirtual 86, 3) := by decide +kernel
theorem dX5_voyage_75 : decode cX5_voyage 75 = .ok (.ireturn, 1) := by decide +kernel
theorem dX5_dated_0 : decode cX5_dated 0 = .ok (.iload_n 1, 1) := by decide +kernel
theorem dX5_dated_1 : decode cX5_dated 1 = .ok (.ifCond .lt 11, 3) := by decide +kernel
theorem dX5_dated_4 : decode cX5_dated 4 = .ok (.iload_n 2, 1) := by decide +kernel
theorem dX5_dated_5 : decode cX5_dated 5 = .ok (.iload_n 3, 1) := by decide +kernel
theorem dX5_dated_6 : decode cX5_dated 6 = .ok (.invokestatic 191, 3) := by decide +kernel
theorem dX5_dated_9 : decode cX5_dated 9 = .ok (.ifCond .ne 5, 3) := by decide +kernel
theorem dX5_dated_12 : decode cX5_dated 12 = .ok (.iconst (-1), 1) := by decide +kernel
theorem dX5_dated_13 : decode cX5_dated 13 = .ok (.ireturn, 1) := by decide +kernel
theorem dX5_dated_14 : decode cX5_dated 14 = .ok (.iconst 0, 1) := by decide +kernel
theorem dX5_dated_15 : decode cX5_dated 15 = .ok (.istore 4, 2) := by decide +kernel
theorem dX5_dated_17 : decode cX5_dated 17 = .ok (.iconst 0, 1) := by decide +kernel
theorem dX5_dated_18 : decode cX5_dated 18 = .ok (.istore 5, 2) := by decide +kernel
theorem dX5_dated_20 : decode cX5_dated 20 = .ok (.iload 5, 2) := by decide +kernel
theorem dX5_dated_22 : decode cX5_dated 22 = .ok (.aload_n 0, 1) := by decide +kernel
theorem dX5_dated_23 : decode cX5_dated 23 = .ok (.getfield 116, 3) := by decide +kernel
theorem dX5_dated_26 : decode cX5_dated 26 = .ok (.if_icmp .ge 48, 3) := by decide +kernel
theorem dX5_dated_29 : decode cX5_dated 29 = .ok (.aload_n 0, 1) := by decide +kernel
theorem dX5_dated_30 : decode cX5_dated 30 = .ok (.iload 5, 2) := by decide +kernel
theorem dX5_dated_32 : decode cX5_dated 32 = .ok (.iload_n 1, 1) := by decide +kernel
theorem dX5_dated_33 : decode cX5_dated 33 = .ok (.invokevirtual 185, 3) := by decide +kernel
theorem dX5_dated_36 : decode cX5_dated 36 = .ok (.istore 6, 2) := by decide +kernel
theorem dX5_dated_38 : decode cX5_dated 38 = .ok (.iload 4, 2) := by decide +kernel
theorem dX5_dated_40 : decode cX5_dated 40 = .ok (.iload 6, 2) := by decide +kernel
theorem dX5_dated_42 : decode cX5_dated 42 = .ok (.bipush (-9), 2) := by decide +kernel
theorem dX5_dated_44 : decode cX5_dated 44 = .ok (.if_icmp .eq 20, 3) := by decide +kernel
theorem dX5_dated_47 : decode cX5_dated 47 = .ok (.iload 6, 2) := by decide +kernel
theorem dX5_dated_49 : decode cX5_dated 49 = .ok (.iload_n 2, 1) := by decide +kernel
theorem dX5_dated_50 : decode cX5_dated 50 = .ok (.iload_n 3, 1) := by decide +kernel
theorem dX5_dated_51 : decode cX5_dated 51 = .ok (.invokestatic 60, 3) := by decide +kernel
theorem dX5_dated_54 : decode cX5_dated 54 = .ok (.ifCond .eq 10, 3) := by decide +kernel
theorem dX5_dated_57 : decode cX5_dated 57 = .ok (.iconst 1, 1) := by decide +kernel
theorem dX5_dated_58 : decode cX5_dated 58 = .ok (.iload 5, 2) := by decide +kernel
theorem dX5_dated_60 : decode cX5_dated 60 = .ok (.ishl, 1) := by decide +kernel
theorem dX5_dated_61 : decode cX5_dated 61 = .ok (.goto 4, 3) := by decide +kernel
theorem dX5_dated_64 : decode cX5_dated 64 = .ok (.iconst 0, 1) := by decide +kernel
theorem dX5_dated_65 : decode cX5_dated 65 = .ok (.ior, 1) := by decide +kernel
theorem dX5_dated_66 : decode cX5_dated 66 = .ok (.istore 4, 2) := by decide +kernel
theorem dX5_dated_68 : decode cX5_dated 68 = .ok (.iinc 5 1, 3) := by decide +kernel
theorem dX5_dated_71 : decode cX5_dated 71 = .ok (.goto (-51), 3) := by decide +kernel
theorem dX5_dated_74 : decode cX5_dated 74 = .ok (.iload 4, 2) := by decide +kernel
theorem dX5_dated_76 : decode cX5_dated 76 = .ok (.ireturn, 1) := by decide +kernel
theorem dX5_kinds_0 : decode cX5_kinds 0 = .ok (.aload_n 0, 1) := by decide +kernel
theorem dX5_kinds_1 : decode cX5_kinds 1 = .ok (.iload_n 1, 1) := by decide +kernel
theorem dX5_kinds_2 : decode cX5_kinds 2 = .ok (.invokevirtual 169, 3) := by decide +kernel
theorem dX5_kinds_5 : decode cX5_kinds 5 = .ok (.ifCond .ne 5, 3) := by decide +kernel
theorem dX5_kinds_8 : decode cX5_kinds 8 = .ok (.iconst (-1), 1) := by decide +kernel
theorem dX5_kinds_9 : decode cX5_kinds 9 = .ok (.ireturn, 1) := by decide +kernel
theorem dX5_kinds_10 : decode cX5_kinds 10 = .ok (.aload_n 0, 1) := by decide +kernel
theorem dX5_kinds_11 : decode cX5_kinds 11 = .ok (.iload_n 2, 1) := by decide +kernel
theorem dX5_kinds_12 : decode cX5_kinds 12 = .ok (.invokevirtual 79, 3) := by decide +kernel
theorem dX5_kinds_15 : decode cX5_kinds 15 = .ok (.istore_n 3, 1) := by decide +kernel
theorem dX5_kinds_16 : decode cX5_kinds 16 = .ok (.iload_n 3, 1) := by decide +kernel
theorem dX5_kinds_17 : decode cX5_kinds 17 = .ok (.ifCond .ge 5, 3) := by decide +kernel
theorem dX5_kinds_20 : decode cX5_kinds 20 = .ok (.iload_n 3, 1) := by decide +kernel
theorem dX5_kinds_21 : decode cX5_kinds 21 = .ok (.ireturn, 1) := by decide +kernel
theorem dX5_kinds_22 : decode cX5_kinds 22 = .ok (.aload_n 0, 1) := by decide +kernel
theorem dX5_kinds_23 : decode cX5_kinds 23 = .ok (.getfield 17, 3) := by decide +kernel
theorem dX5_kinds_26 : decode cX5_kinds 26 = .ok (.iload_n 2, 1) := by decide +kernel
theorem dX5_kinds_27 : decode cX5_kinds 27 = .ok (.iaload, 1) := by decide +kernel
theorem dX5_kinds_28 : decode cX5_kinds 28 = .ok (.iconst 2, 1) := by decide +kernel
theorem dX5_kinds_29 : decode cX5_kinds 29 = .ok (.irem, 1) := by decide +kernel
theorem dX5_kinds_30 : decode cX5_kinds 30 = .ok (.ifCond .eq 9, 3) := by decide +kernel
theorem dX5_kinds_33 : decode cX5_kinds 33 = .ok (.aload_n 0, 1) := by decide +kernel
theorem dX5_kinds_34 : decode cX5_kinds 34 = .ok (.iconst 5, 1) := by decide +kernel
theorem dX5_kinds_35 : decode cX5_kinds 35 = .ok (.invokevirtual 68, 3) := by decide +kernel
theorem dX5_kinds_38 : decode cX5_kinds 38 = .ok (.ireturn, 1) := by decide +kernel
theorem dX5_kinds_39 : decode cX5_kinds 39 = .ok (.iconst 0, 1) := by decide +kernel
theorem dX5_kinds_40 : decode cX5_kinds 40 = .ok (.istore 4, 2) := by decide +kernel
theorem dX5_kinds_42 : decode cX5_kinds 42 = .ok (.iload 4, 2) := by decide +kernel
theorem dX5_kinds_44 : decode cX5_kinds 44 = .ok (.aload_n 0, 1) := by decide +kernel
theorem dX5_kinds_45 : decode cX5_kinds 45 = .ok (.getfield 17, 3) := by decide +kernel
theorem dX5_kinds_48 : decode cX5_kinds 48 = .ok (.iload_n 2, 1) := by decide +kernel
theorem dX5_kinds_49 : decode cX5_kinds 49 = .ok (.iaload, 1) := by decide +kernel
theorem dX5_kinds_50 : decode cX5_kinds 50 = .ok (.if_icmp .ge 40, 3) := by decide +kernel
theorem dX5_kinds_53 : decode cX5_kinds 53 = .ok (.aload_n 0, 1) := by decide +kernel
theorem dX5_kinds_54 : decode cX5_kinds 54 = .ok (.iload_n 2, 1) := by decide +kernel
theorem dX5_kinds_55 : decode cX5_kinds 55 = .ok (.iload 4, 2) := by decide +kernel
theorem dX5_kinds_57 : decode cX5_kinds 57 = .ok (.invokevirtual 82, 3) := by decide +kernel
theorem dX5_kinds_60 : decode cX5_kinds 60 = .ok (.invokestatic 122, 3) := by decide +kernel
theorem dX5_kinds_63 : decode cX5_kinds 63 = .ok (.ifCond .eq 15, 3) := by decide +kernel
theorem dX5_kinds_66 : decode cX5_kinds 66 = .ok (.aload_n 0, 1) := by decide +kernel
theorem dX5_kinds_67 : decode cX5_kinds 67 = .ok (.iload_n 2, 1) := by decide +kernel
theorem dX5_kinds_68 : decode cX5_kinds 68 = .ok (.iload 4, 2) := by decide +kernel
theorem dX5_kinds_70 : decode cX5_kinds 70 = .ok (.iconst 1, 1) := by decide +kernel
theorem dX5_kinds_71 : decode cX5_kinds 71 = .ok (.iadd, 1) := by decide +kernel
theorem dX5_kinds_72 : decode cX5_kinds 72 = .ok (.invokevirtual 82, 3) := by decide +kernel
theorem dX5_kinds_75 : decode cX5_kinds 75 = .ok (.ifCond .ge 9, 3) := by decide +kernel
theorem dX5_kinds_78 : decode cX5_kinds 78 = .ok (.aload_n 0, 1) := by decide +kernel
theorem dX5_kinds_79 : decode cX5_kinds 79 = .ok (.iconst 3, 1) := by decide +kernel
theorem dX5_kinds_80 : decode cX5_kinds 80 = .ok (.invokevirtual 68, 3) := by decide +kernel
theorem dX5_kinds_83 : decode cX5_kinds 83 = .ok (.ireturn, 1) := by decide +kernel
theorem dX5_kinds_84 : decode cX5_kinds 84 = .ok (.iinc 4 2, 3) := by decide +kernel
theorem dX5_kinds_87 : decode cX5_kinds 87 = .ok (.goto (-45), 3) := by decide +kernel
theorem dX5_kinds_90 : decode cX5_kinds 90 = .ok (.aload_n 0, 1) := by decide +kernel
theorem dX5_kinds_91 : decode cX5_kinds 91 = .ok (.iload_n 1, 1) := by decide +kernel
theorem dX5_kinds_92 : decode cX5_kinds 92 = .ok (.invokevirtual 141, 3) := by decide +kernel
theorem dX5_kinds_95 : decode cX5_kinds 95 = .ok (.iconst 0, 1) := by decide +kernel
theorem dX5_kinds_96 : decode cX5_kinds 96 = .ok (.istore 4, 2) := by decide +kernel
theorem dX5_kinds_98 : decode cX5_kinds 98 = .ok (.iconst 0, 1) := by decide +kernel
theorem dX5_kinds_99 : decode cX5_kinds 99 = .ok (.istore 5, 2) := by decide +kernel
theorem dX5_kinds_101 : decode cX5_kinds 101 = .ok (.iload 5, 2) := by decide +kernel
theorem dX5_kinds_103 : decode cX5_kinds 103 = .ok (.iconst 5, 1) := by decide +kernel
theorem dX5_kinds_104 : decode cX5_kinds 104 = .ok (.if_icmp .gt 91, 3) := by decide +kernel
theorem dX5_kinds_107 : decode cX5_kinds 107 = .ok (.aload_n 0, 1) := by decide +kernel
theorem dX5_kinds_108 : decode cX5_kinds 108 = .ok (.iload 5, 2) := by decide +kernel
theorem dX5_kinds_110 : decode cX5_kinds 110 = .ok (.putfield 125, 3) := by decide +kernel
theorem dX5_kinds_113 : decode cX5_kinds 113 = .ok (.iconst 1, 1) := by decide +kernel
theorem dX5_kinds_114 : decode cX5_kinds 114 = .ok (.istore 6, 2) := by decide +kernel
theorem dX5_kinds_116 : decode cX5_kinds 116 = .ok (.iconst 0, 1) := by decide +kernel
theorem dX5_kinds_117 : decode cX5_kinds 117 = .ok (.istore 7, 2) := by decide +kernel
theorem dX5_kinds_119 : decode cX5_kinds 119 = .ok (.iload 7, 2) := by decide +kernel
theorem dX5_kinds_121 : decode cX5_kinds 121 = .ok (.aload_n 0, 1) := by decide +kernel
theorem dX5_kinds_122 : decode cX5_kinds 122 = .ok (.getfield 17, 3) := by decide +kernel
theorem dX5_kinds_125 : decode cX5_kinds 125 = .ok (.iload_n 2, 1) := by decide +kernel
theorem dX5_kinds_126 : decode cX5_kinds 126 = .ok (.iaload, 1) := by decide +kernel
theorem dX5_kinds_127 : decode cX5_kinds 127 = .ok (.if_icmp .ge 44, 3) := by decide +kernel
theorem dX5_kinds_130 : decode cX5_kinds 130 = .ok (.iload 6, 2) := by decide +kernel
theorem dX5_kinds_132 : decode cX5_kinds 132 = .ok (.ifCond .eq 30, 3) := by decide +kernel
theorem dX5_kinds_135 : decode cX5_kinds 135 = .ok (.aload_n 0, 1) := by decide +kernel
theorem dX5_kinds_136 : decode cX5_kinds 136 = .ok (.aload_n 0, 1) := by decide +kernel
theorem dX5_kinds_137 : decode cX5_kinds 137 = .ok (.iload_n 2, 1) := by decide +kernel
theorem dX5_kinds_138 : decode cX5_kinds 138 = .ok (.iload 7, 2) := by decide +kernel
theorem dX5_kinds_140 : decode cX5_kinds 140 = .ok (.invokevirtual 82, 3) := by decide +kernel
theorem dX5_kinds_143 : decode cX5_kinds 143 = .ok (.invokevirtual 157, 3) := by decide +kernel
theorem dX5_kinds_146 : decode cX5_kinds 146 = .ok (.aload_n 0, 1) := by decide +kernel
theorem dX5_kinds_147 : decode cX5_kinds 147 = .ok (.iload_n 2, 1) := by decide +kernel
theorem dX5_kinds_148 : decode cX5_kinds 148 = .ok (.iload 7, 2) := by decide +kernel
theorem dX5_kinds_150 : decode cX5_kinds 150 = .ok (.iconst 1, 1) := by decide +kernel
theorem dX5_kinds_151 : decode cX5_kinds 151 = .ok (.iadd, 1) := by decide +kernel
theorem dX5_kinds_152 : decode cX5_kinds 152 = .ok (.invokevirtual 82, 3) := by decide +kernel
theorem dX5_kinds_155 : decode cX5_kinds 155 = .ok (.if_icmp .ne 7, 3) := by decide +kernel
theorem dX5_kinds_158 : decode cX5_kinds 158 = .ok (.iconst 1, 1) := by decide +kernel
theorem dX5_kinds_159 : decode cX5_kinds 159 = .ok (.goto 4, 3) := by decide +kernel
theorem dX5_kinds_162 : decode cX5_kinds 162 = .ok (.iconst 0, 1) := by decide +kernel
theorem dX5_kinds_163 : decode cX5_kinds 163 = .ok (.istore 6, 2) := by decide +kernel
theorem dX5_kinds_165 : decode cX5_kinds 165 = .ok (.iinc 7 2, 3) := by decide +kernel
theorem dX5_kinds_168 : decode cX5_kinds 168 = .ok (.goto (-49), 3) := by decide +kernel
theorem dX5_kinds_171 : decode cX5_kinds 171 = .ok (.iload 4, 2) := by decide +kernel
theorem dX5_kinds_173 : decode cX5_kinds 173 = .ok (.iload 6, 2) := by decide +kernel
theorem dX5_kinds_175 : decode cX5_kinds 175 = .ok (.ifCond .eq 10, 3) := by decide +kernel
theorem dX5_kinds_178 : decode cX5_kinds 178 = .ok (.iconst 1, 1) := by decide +kernel
theorem dX5_kinds_179 : decode cX5_kinds 179 = .ok (.iload 5, 2) := by decide +kernel
theorem dX5_kinds_181 : decode cX5_kinds 181 = .ok (.ishl, 1) := by decide +kernel
theorem dX5_kinds_182 : decode cX5_kinds 182 = .ok (.goto 4, 3) := by decide +kernel
theorem dX5_kinds_185 : decode cX5_kinds 185 = .ok (.iconst 0, 1) := by decide +kernel
theorem dX5_kinds_186 : decode cX5_kinds 186 = .ok (.ior, 1) := by decide +kernel
theorem dX5_kinds_187 : decode cX5_kinds 187 = .ok (.istore 4, 2) := by decide +kernel
theorem dX5_kinds_189 : decode cX5_kinds 189 = .ok (.iinc 5 1, 3) := by decide +kernel
theorem dX5_kinds_192 : decode cX5_kinds 192 = .ok (.goto (-91), 3) := by decide +kernel
theorem dX5_kinds_195 : decode cX5_kinds 195 = .ok (.iload 4, 2) := by decide +kernel
theorem dX5_kinds_197 : decode cX5_kinds 197 = .ok (.ireturn, 1) := by decide +kernel
theorem dX5_tillFull_0 : decode cX5_tillFull 0 = .ok (.iload_n 0, 1) := by decide +kernel
theorem dX5_tillFull_1 : decode cX5_tillFull 1 = .ok (.bipush 59, 2) := by decide +kernel
theorem dX5_tillFull_3 : decode cX5_tillFull 3 = .ok (.irem, 1) := by decide +kernel
theorem dX5_tillFull_4 : decode cX5_tillFull 4 = .ok (.istore_n 1, 1) := by decide +kernel
theorem dX5_tillFull_5 : decode cX5_tillFull 5 = .ok (.iload_n 1, 1) := by decide +kernel
theorem dX5_tillFull_6 : decode cX5_tillFull 6 = .ok (.ifCond .ne 7, 3) := by decide +kernel
theorem dX5_tillFull_9 : decode cX5_tillFull 9 = .ok (.iconst 0, 1) := by decide +kernel
theorem dX5_tillFull_10 : decode cX5_tillFull 10 = .ok (.goto 20, 3) := by decide +kernel
theorem dX5_tillFull_13 : decode cX5_tillFull 13 = .ok (.iload_n 1, 1) := by decide +kernel
theorem dX5_tillFull_14 : decode cX5_tillFull 14 = .ok (.bipush 29, 2) := by decide +kernel
theorem dX5_tillFull_16 : decode cX5_tillFull 16 = .ok (.if_icmp .gt 10, 3) := by decide +kernel
theorem dX5_tillFull_19 : decode cX5_tillFull 19 = .ok (.bipush 29, 2) := by decide +kernel
theorem dX5_tillFull_21 : decode cX5_tillFull 21 = .ok (.iload_n 1, 1) := by decide +kernel
theorem dX5_tillFull_22 : decode cX5_tillFull 22 = .ok (.isub, 1) := by decide +kernel
theorem dX5_tillFull_23 : decode cX5_tillFull 23 = .ok (.goto 7, 3) := by decide +kernel
theorem dX5_tillFull_26 : decode cX5_tillFull 26 = .ok (.bipush 59, 2) := by decide +kernel
theorem dX5_tillFull_28 : decode cX5_tillFull 28 = .ok (.iload_n 1, 1) := by decide +kernel
theorem dX5_tillFull_29 : decode cX5_tillFull 29 = .ok (.isub, 1) := by decide +kernel
theorem dX5_tillFull_30 : decode cX5_tillFull 30 = .ok (.ireturn, 1) := by decide +kernel
theorem dX5_moon_0 : decode cX5_moon 0 = .ok (.iload_n 1, 1) := by decide +kernel
theorem dX5_moon_1 : decode cX5_moon 1 = .ok (.invokestatic 122, 3) := by decide +kernel
theorem dX5_moon_4 : decode cX5_moon 4 = .ok (.ifCond .eq 26, 3) := by decide +kernel
theorem dX5_moon_7 : decode cX5_moon 7 = .ok (.aload_n 0, 1) := by decide +kernel
theorem dX5_moon_8 : decode cX5_moon 8 = .ok (.iload_n 1, 1) := by decide +kernel
theorem dX5_moon_9 : decode cX5_moon 9 = .ok (.invokestatic 223, 3) := by decide +kernel
theorem dX5_moon_12 : decode cX5_moon 12 = .ok (.iload_n 1, 1) := by decide +kernel
theorem dX5_moon_13 : decode cX5_moon 13 = .ok (.invokestatic 223, 3) := by decide +kernel
theorem dX5_moon_16 : decode cX5_moon 16 = .ok (.ifCond .ne 7, 3) := by decide +kernel
theorem dX5_moon_19 : decode cX5_moon 19 = .ok (.iconst 1, 1) := by decide +kernel
theorem dX5_moon_20 : decode cX5_moon 20 = .ok (.goto 4, 3) := by decide +kernel
theorem dX5_moon_23 : decode cX5_moon 23 = .ok (.iconst 0, 1) := by decide +kernel
theorem dX5_moon_24 : decode cX5_moon 24 = .ok (.invokevirtual 86, 3) := by decide +kernel
theorem dX5_moon_27 : decode cX5_moon 27 = .ok (.goto 4, 3) := by decide +kernel
theorem dX5_moon_30 : decode cX5_moon 30 = .ok (.iconst (-1), 1) := by decide +kernel
theorem dX5_moon_31 : decode cX5_moon 31 = .ok (.ireturn, 1) := by decide +kernel
theorem dX5_feastOf_0 : decode cX5_feastOf 0 = .ok (.aload_n 0, 1) := by decide +kernel
theorem dX5_feastOf_1 : decode cX5_feastOf 1 = .ok (.iload_n 1, 1) := by decide +kernel
theorem dX5_feastOf_2 : decode cX5_feastOf 2 = .ok (.invokevirtual 141, 3) := by decide +kernel
theorem dX5_feastOf_5 : decode cX5_feastOf 5 = .ok (.bipush 20, 2) := by decide +kernel
theorem dX5_feastOf_7 : decode cX5_feastOf 7 = .ok (.istore_n 3, 1) := by decide +kernel
theorem dX5_feastOf_8 : decode cX5_feastOf 8 = .ok (.iload_n 3, 1) := by decide +kernel
theorem dX5_feastOf_9 : decode cX5_feastOf 9 = .ok (.aload_n 0, 1) := by decide +kernel
theorem dX5_feastOf_10 : decode cX5_feastOf 10 = .ok (.iload_n 2, 1) := by decide +kernel
theorem dX5_feastOf_11 : decode cX5_feastOf 11 = .ok (.invokevirtual 160, 3) := by decide +kernel
theorem dX5_feastOf_14 : decode cX5_feastOf 14 = .ok (.if_icmp .ge 55, 3) := by decide +kernel
theorem dX5_feastOf_17 : decode cX5_feastOf 17 = .ok (.aload_n 0, 1) := by decide +kernel
theorem dX5_feastOf_18 : decode cX5_feastOf 18 = .ok (.sipush 1000, 3) := by decide +kernel
theorem dX5_feastOf_21 : decode cX5_feastOf 21 = .ok (.iload_n 2, 1) := by decide +kernel
theorem dX5_feastOf_22 : decode cX5_feastOf 22 = .ok (.imul, 1) := by decide +kernel
theorem dX5_feastOf_23 : decode cX5_feastOf 23 = .ok (.iload_n 3, 1) := by decide +kernel
theorem dX5_feastOf_24 : decode cX5_feastOf 24 = .ok (.iadd, 1) := by decide +kernel
theorem dX5_feastOf_25 : decode cX5_feastOf 25 = .ok (.invokevirtual 163, 3) := by decide +kernel
theorem dX5_feastOf_28 : decode cX5_feastOf 28 = .ok (.istore 4, 2) := by decide +kernel
theorem dX5_feastOf_30 : decode cX5_feastOf 30 = .ok (.iload 4, 2) := by decide +kernel
theorem dX5_feastOf_32 : decode cX5_feastOf 32 = .ok (.bipush (-9), 2) := by decide +kernel
theorem dX5_feastOf_34 : decode cX5_feastOf 34 = .ok (.if_icmp .eq 29, 3) := by decide +kernel
theorem dX5_feastOf_37 : decode cX5_feastOf 37 = .ok (.iload 4, 2) := by decide +kernel
theorem dX5_feastOf_39 : decode cX5_feastOf 39 = .ok (.iload 4, 2) := by decide +kernel
theorem dX5_feastOf_41 : decode cX5_feastOf 41 = .ok (.invokestatic 223, 3) := by decide +kernel
theorem dX5_feastOf_44 : decode cX5_feastOf 44 = .ok (.iadd, 1) := by decide +kernel
theorem dX5_feastOf_45 : decode cX5_feastOf 45 = .ok (.istore 5, 2) := by decide +kernel
theorem dX5_feastOf_47 : decode cX5_feastOf 47 = .ok (.iload 5, 2) := by decide +kernel
theorem dX5_feastOf_49 : decode cX5_feastOf 49 = .ok (.sipush 19999, 3) := by decide +kernel
theorem dX5_feastOf_52 : decode cX5_feastOf 52 = .ok (.if_icmp .gt 8, 3) := by decide +kernel
theorem dX5_feastOf_55 : decode cX5_feastOf 55 = .ok (.iload 5, 2) := by decide +kernel
theorem dX5_feastOf_57 : decode cX5_feastOf 57 = .ok (.goto 5, 3) := by decide +kernel
theorem dX5_feastOf_60 : decode cX5_feastOf 60 = .ok (.bipush (-9), 2) := by decide +kernel
theorem dX5_feastOf_62 : decode cX5_feastOf 62 = .ok (.ireturn, 1) := by decide +kernel
theorem dX5_feastOf_63 : decode cX5_feastOf 63 = .ok (.iinc 3 1, 3) := by decide +kernel
theorem dX5_feastOf_66 : decode cX5_feastOf 66 = .ok (.goto (-58), 3) := by decide +kernel
theorem dX5_feastOf_69 : decode cX5_feastOf 69 = .ok (.bipush (-9), 2) := by decide +kernel
theorem dX5_feastOf_71 : decode cX5_feastOf 71 = .ok (.ireturn, 1) := by decide +kernel
theorem dX5_feast_0 : decode cX5_feast 0 = .ok (.aload_n 0, 1) := by decide +kernel
theorem dX5_feast_1 : decode cX5_feast 1 = .ok (.iload_n 1, 1) := by decide +kernel
theorem dX5_feast_2 : decode cX5_feast 2 = .ok (.invokevirtual 169, 3) := by decide +kernel
theorem dX5_feast_5 : decode cX5_feast 5 = .ok (.ifCond .eq 23, 3) := by decide +kernel
theorem dX5_feast_8 : decode cX5_feast 8 = .ok (.iload_n 2, 1) := by decide +kernel
theorem dX5_feast_9 : decode cX5_feast 9 = .ok (.iconst 0, 1) := by decide +kernel
theorem dX5_feast_10 : decode cX5_feast 10 = .ok (.sipush 150, 3) := by decide +kernel
theorem dX5_feast_13 : decode cX5_feast 13 = .ok (.invokestatic 60, 3) := by decide +kernel
theorem dX5_feast_16 : decode cX5_feast 16 = .ok (.ifCond .eq 12, 3) := by decide +kernel
theorem dX5_feast_19 : decode cX5_feast 19 = .ok (.aload_n 0, 1) := by decide +kernel
theorem dX5_feast_20 : decode cX5_feast 20 = .ok (.iload_n 1, 1) := by decide +kernel
theorem dX5_feast_21 : decode cX5_feast 21 = .ok (.iload_n 2, 1) := by decide +kernel
theorem dX5_feast_22 : decode cX5_feast 22 = .ok (.invokevirtual 226, 3) := by decide +kernel
theorem dX5_feast_25 : decode cX5_feast 25 = .ok (.goto 4, 3) := by decide +kernel
theorem dX5_feast_28 : decode cX5_feast 28 = .ok (.iconst (-1), 1) := by decide +kernel
theorem dX5_feast_29 : decode cX5_feast 29 = .ok (.ireturn, 1) := by decide +kernel
theorem dX5_together_0 : decode cX5_together 0 = .ok (.aload_n 0, 1) := by decide +kernel
theorem dX5_together_1 : decode cX5_together 1 = .ok (.iload_n 1, 1) := by decide +kernel
theorem dX5_together_2 : decode cX5_together 2 = .ok (.invokevirtual 169, 3) := by decide +kernel
theorem dX5_together_5 : decode cX5_together 5 = .ok (.ifCond .eq 34, 3) := by decide +kernel
theorem dX5_together_8 : decode cX5_together 8 = .ok (.aload_n 0, 1) := by decide +kernel
theorem dX5_together_9 : decode cX5_together 9 = .ok (.iload_n 2, 1) := by decide +kernel
theorem dX5_together_10 : decode cX5_together 10 = .ok (.invokevirtual 169, 3) := by decide +kernel
theorem dX5_together_13 : decode cX5_together 13 = .ok (.ifCond .eq 26, 3) := by decide +kernel
theorem dX5_together_16 : decode cX5_together 16 = .ok (.iload_n 3, 1) := by decide +kernel
theorem dX5_together_17 : decode cX5_together 17 = .ok (.iconst 0, 1) := by decide +kernel
theorem dX5_together_18 : decode cX5_together 18 = .ok (.sipush 150, 3) := by decide +kernel
theorem dX5_together_21 : decode cX5_together 21 = .ok (.invokestatic 60, 3) := by decide +kernel
theorem dX5_together_24 : decode cX5_together 24 = .ok (.ifCond .eq 15, 3) := by decide +kernel
theorem dX5_together_27 : decode cX5_together 27 = .ok (.iload 4, 2) := by decide +kernel
theorem dX5_together_29 : decode cX5_together 29 = .ok (.iload_n 3, 1) := by decide +kernel
theorem dX5_together_30 : decode cX5_together 30 = .ok (.sipush 150, 3) := by decide +kernel
theorem dX5_together_33 : decode cX5_together 33 = .ok (.invokestatic 60, 3) := by decide +kernel
theorem dX5_together_36 : decode cX5_together 36 = .ok (.ifCond .ne 5, 3) := by decide +kernel
theorem dX5_together_39 : decode cX5_together 39 = .ok (.iconst (-1), 1) := by decide +kernel
theorem dX5_together_40 : decode cX5_together 40 = .ok (.ireturn, 1) := by decide +kernel
theorem dX5_together_41 : decode cX5_together 41 = .ok (.iconst 0, 1) := by decide +kernel
theorem dX5_together_42 : decode cX5_together 42 = .ok (.istore 5, 2) := by decide +kernel
theorem dX5_together_44 : decode cX5_together 44 = .ok (.iload_n 3, 1) := by decide +kernel
theorem dX5_together_45 : decode cX5_together 45 = .ok (.istore 6, 2) := by decide +kernel
theorem dX5_together_47 : decode cX5_together 47 = .ok (.iload 6, 2) := by decide +kernel
theorem dX5_together_49 : decode cX5_together 49 = .ok (.iload 4, 2) := by decide +kernel
theorem dX5_together_51 : decode cX5_together 51 = .ok (.if_icmp .gt 47, 3) := by decide +kernel
theorem dX5_together_54 : decode cX5_together 54 = .ok (.aload_n 0, 1) := by decide +kernel
theorem dX5_together_55 : decode cX5_together 55 = .ok (.iload_n 1, 1) := by decide +kernel
theorem dX5_together_56 : decode cX5_together 56 = .ok (.iload 6, 2) := by decide +kernel
theorem dX5_together_58 : decode cX5_together 58 = .ok (.invokevirtual 226, 3) := by decide +kernel
theorem dX5_together_61 : decode cX5_together 61 = .ok (.istore 7, 2) := by decide +kernel
theorem dX5_together_63 : decode cX5_together 63 = .ok (.iload 5, 2) := by decide +kernel
theorem dX5_together_65 : decode cX5_together 65 = .ok (.iload 7, 2) := by decide +kernel
theorem dX5_together_67 : decode cX5_together 67 = .ok (.bipush (-9), 2) := by decide +kernel
theorem dX5_together_69 : decode cX5_together 69 = .ok (.if_icmp .eq 19, 3) := by decide +kernel
theorem dX5_together_72 : decode cX5_together 72 = .ok (.iload 7, 2) := by decide +kernel
theorem dX5_together_74 : decode cX5_together 74 = .ok (.aload_n 0, 1) := by decide +kernel
theorem dX5_together_75 : decode cX5_together 75 = .ok (.iload_n 2, 1) := by decide +kernel
theorem dX5_together_76 : decode cX5_together 76 = .ok (.iload 6, 2) := by decide +kernel
theorem dX5_together_78 : decode cX5_together 78 = .ok (.invokevirtual 226, 3) := by decide +kernel
theorem dX5_together_81 : decode cX5_together 81 = .ok (.if_icmp .ne 7, 3) := by decide +kernel
theorem dX5_together_84 : decode cX5_together 84 = .ok (.iconst 1, 1) := by decide +kernel
theorem dX5_together_85 : decode cX5_together 85 = .ok (.goto 4, 3) := by decide +kernel
theorem dX5_together_88 : decode cX5_together 88 = .ok (.iconst 0, 1) := by decide +kernel
theorem dX5_together_89 : decode cX5_together 89 = .ok (.iadd, 1) := by decide +kernel
