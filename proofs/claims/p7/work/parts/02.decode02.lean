theorem dX7_standing_17 : decode cX7_standing 17 = .ok (.invokevirtual 74, 3) := by decide +kernel
theorem dX7_standing_20 : decode cX7_standing 20 = .ok (.if_icmp .gt 21, 3) := by decide +kernel
theorem dX7_standing_23 : decode cX7_standing 23 = .ok (.iload_n 2, 1) := by decide +kernel
theorem dX7_standing_24 : decode cX7_standing 24 = .ok (.aload_n 0, 1) := by decide +kernel
theorem dX7_standing_25 : decode cX7_standing 25 = .ok (.iload_n 1, 1) := by decide +kernel
theorem dX7_standing_26 : decode cX7_standing 26 = .ok (.invokevirtual 77, 3) := by decide +kernel
theorem dX7_standing_29 : decode cX7_standing 29 = .ok (.if_icmp .lt 12, 3) := by decide +kernel
theorem dX7_standing_32 : decode cX7_standing 32 = .ok (.iload_n 2, 1) := by decide +kernel
theorem dX7_standing_33 : decode cX7_standing 33 = .ok (.aload_n 0, 1) := by decide +kernel
theorem dX7_standing_34 : decode cX7_standing 34 = .ok (.iload_n 1, 1) := by decide +kernel
theorem dX7_standing_35 : decode cX7_standing 35 = .ok (.invokevirtual 80, 3) := by decide +kernel
theorem dX7_standing_38 : decode cX7_standing 38 = .ok (.if_icmp .le 5, 3) := by decide +kernel
theorem dX7_standing_41 : decode cX7_standing 41 = .ok (.iconst 0, 1) := by decide +kernel
theorem dX7_standing_42 : decode cX7_standing 42 = .ok (.ireturn, 1) := by decide +kernel
theorem dX7_standing_43 : decode cX7_standing 43 = .ok (.iconst 0, 1) := by decide +kernel
theorem dX7_standing_44 : decode cX7_standing 44 = .ok (.istore_n 3, 1) := by decide +kernel
theorem dX7_standing_45 : decode cX7_standing 45 = .ok (.iload_n 3, 1) := by decide +kernel
theorem dX7_standing_46 : decode cX7_standing 46 = .ok (.aload_n 0, 1) := by decide +kernel
theorem dX7_standing_47 : decode cX7_standing 47 = .ok (.getfield 9, 3) := by decide +kernel
theorem dX7_standing_50 : decode cX7_standing 50 = .ok (.if_icmp .ge 40, 3) := by decide +kernel
theorem dX7_standing_53 : decode cX7_standing 53 = .ok (.aload_n 0, 1) := by decide +kernel
theorem dX7_standing_54 : decode cX7_standing 54 = .ok (.iload_n 3, 1) := by decide +kernel
theorem dX7_standing_55 : decode cX7_standing 55 = .ok (.invokevirtual 30, 3) := by decide +kernel
theorem dX7_standing_58 : decode cX7_standing 58 = .ok (.iload_n 2, 1) := by decide +kernel
theorem dX7_standing_59 : decode cX7_standing 59 = .ok (.aload_n 0, 1) := by decide +kernel
theorem dX7_standing_60 : decode cX7_standing 60 = .ok (.iload_n 3, 1) := by decide +kernel
theorem dX7_standing_61 : decode cX7_standing 61 = .ok (.invokevirtual 23, 3) := by decide +kernel
theorem dX7_standing_64 : decode cX7_standing 64 = .ok (.isub, 1) := by decide +kernel
theorem dX7_standing_65 : decode cX7_standing 65 = .ok (.imul, 1) := by decide +kernel
theorem dX7_standing_66 : decode cX7_standing 66 = .ok (.aload_n 0, 1) := by decide +kernel
theorem dX7_standing_67 : decode cX7_standing 67 = .ok (.iload_n 3, 1) := by decide +kernel
theorem dX7_standing_68 : decode cX7_standing 68 = .ok (.invokevirtual 33, 3) := by decide +kernel
theorem dX7_standing_71 : decode cX7_standing 71 = .ok (.iload_n 1, 1) := by decide +kernel
theorem dX7_standing_72 : decode cX7_standing 72 = .ok (.aload_n 0, 1) := by decide +kernel
theorem dX7_standing_73 : decode cX7_standing 73 = .ok (.iload_n 3, 1) := by decide +kernel
theorem dX7_standing_74 : decode cX7_standing 74 = .ok (.invokevirtual 15, 3) := by decide +kernel
theorem dX7_standing_77 : decode cX7_standing 77 = .ok (.isub, 1) := by decide +kernel
theorem dX7_standing_78 : decode cX7_standing 78 = .ok (.imul, 1) := by decide +kernel
theorem dX7_standing_79 : decode cX7_standing 79 = .ok (.if_icmp .ne 5, 3) := by decide +kernel
theorem dX7_standing_82 : decode cX7_standing 82 = .ok (.iconst 1, 1) := by decide +kernel
theorem dX7_standing_83 : decode cX7_standing 83 = .ok (.ireturn, 1) := by decide +kernel
theorem dX7_standing_84 : decode cX7_standing 84 = .ok (.iinc 3 1, 3) := by decide +kernel
theorem dX7_standing_87 : decode cX7_standing 87 = .ok (.goto (-42), 3) := by decide +kernel
theorem dX7_standing_90 : decode cX7_standing 90 = .ok (.iconst 2, 1) := by decide +kernel
theorem dX7_standing_91 : decode cX7_standing 91 = .ok (.ireturn, 1) := by decide +kernel
theorem dX7_coordinate_0 : decode cX7_coordinate 0 = .ok (.aload_n 0, 1) := by decide +kernel
theorem dX7_coordinate_1 : decode cX7_coordinate 1 = .ok (.getfield 9, 3) := by decide +kernel
theorem dX7_coordinate_4 : decode cX7_coordinate 4 = .ok (.ifCond .ne 6, 3) := by decide +kernel
theorem dX7_coordinate_7 : decode cX7_coordinate 7 = .ok (.ldc 83, 2) := by decide +kernel
theorem dX7_coordinate_9 : decode cX7_coordinate 9 = .ok (.ireturn, 1) := by decide +kernel
theorem dX7_coordinate_10 : decode cX7_coordinate 10 = .ok (.iload_n 1, 1) := by decide +kernel
theorem dX7_coordinate_11 : decode cX7_coordinate 11 = .ok (.istore_n 3, 1) := by decide +kernel
theorem dX7_coordinate_12 : decode cX7_coordinate 12 = .ok (.aload_n 0, 1) := by decide +kernel
theorem dX7_coordinate_13 : decode cX7_coordinate 13 = .ok (.invokevirtual 71, 3) := by decide +kernel
theorem dX7_coordinate_16 : decode cX7_coordinate 16 = .ok (.istore 4, 2) := by decide +kernel
theorem dX7_coordinate_18 : decode cX7_coordinate 18 = .ok (.iload 4, 2) := by decide +kernel
theorem dX7_coordinate_20 : decode cX7_coordinate 20 = .ok (.aload_n 0, 1) := by decide +kernel
theorem dX7_coordinate_21 : decode cX7_coordinate 21 = .ok (.invokevirtual 74, 3) := by decide +kernel
theorem dX7_coordinate_24 : decode cX7_coordinate 24 = .ok (.if_icmp .gt 59, 3) := by decide +kernel
theorem dX7_coordinate_27 : decode cX7_coordinate 27 = .ok (.aload_n 0, 1) := by decide +kernel
theorem dX7_coordinate_28 : decode cX7_coordinate 28 = .ok (.iload 4, 2) := by decide +kernel
theorem dX7_coordinate_30 : decode cX7_coordinate 30 = .ok (.invokevirtual 77, 3) := by decide +kernel
theorem dX7_coordinate_33 : decode cX7_coordinate 33 = .ok (.istore 5, 2) := by decide +kernel
theorem dX7_coordinate_35 : decode cX7_coordinate 35 = .ok (.iconst 0, 1) := by decide +kernel
theorem dX7_coordinate_36 : decode cX7_coordinate 36 = .ok (.aload_n 0, 1) := by decide +kernel
theorem dX7_coordinate_37 : decode cX7_coordinate 37 = .ok (.iload 4, 2) := by decide +kernel
theorem dX7_coordinate_39 : decode cX7_coordinate 39 = .ok (.invokevirtual 80, 3) := by decide +kernel
theorem dX7_coordinate_42 : decode cX7_coordinate 42 = .ok (.iload 5, 2) := by decide +kernel
theorem dX7_coordinate_44 : decode cX7_coordinate 44 = .ok (.isub, 1) := by decide +kernel
theorem dX7_coordinate_45 : decode cX7_coordinate 45 = .ok (.iconst 1, 1) := by decide +kernel
theorem dX7_coordinate_46 : decode cX7_coordinate 46 = .ok (.iadd, 1) := by decide +kernel
theorem dX7_coordinate_47 : decode cX7_coordinate 47 = .ok (.invokestatic 54, 3) := by decide +kernel
theorem dX7_coordinate_50 : decode cX7_coordinate 50 = .ok (.istore 6, 2) := by decide +kernel
theorem dX7_coordinate_52 : decode cX7_coordinate 52 = .ok (.iload_n 3, 1) := by decide +kernel
theorem dX7_coordinate_53 : decode cX7_coordinate 53 = .ok (.iload 6, 2) := by decide +kernel
theorem dX7_coordinate_55 : decode cX7_coordinate 55 = .ok (.if_icmp .ge 17, 3) := by decide +kernel
theorem dX7_coordinate_58 : decode cX7_coordinate 58 = .ok (.iload_n 2, 1) := by decide +kernel
theorem dX7_coordinate_59 : decode cX7_coordinate 59 = .ok (.ifCond .ne 8, 3) := by decide +kernel
theorem dX7_coordinate_62 : decode cX7_coordinate 62 = .ok (.iload 4, 2) := by decide +kernel
theorem dX7_coordinate_64 : decode cX7_coordinate 64 = .ok (.goto 7, 3) := by decide +kernel
theorem dX7_coordinate_67 : decode cX7_coordinate 67 = .ok (.iload 5, 2) := by decide +kernel
theorem dX7_coordinate_69 : decode cX7_coordinate 69 = .ok (.iload_n 3, 1) := by decide +kernel
theorem dX7_coordinate_70 : decode cX7_coordinate 70 = .ok (.iadd, 1) := by decide +kernel
theorem dX7_coordinate_71 : decode cX7_coordinate 71 = .ok (.ireturn, 1) := by decide +kernel
theorem dX7_coordinate_72 : decode cX7_coordinate 72 = .ok (.iload_n 3, 1) := by decide +kernel
theorem dX7_coordinate_73 : decode cX7_coordinate 73 = .ok (.iload 6, 2) := by decide +kernel
theorem dX7_coordinate_75 : decode cX7_coordinate 75 = .ok (.isub, 1) := by decide +kernel
theorem dX7_coordinate_76 : decode cX7_coordinate 76 = .ok (.istore_n 3, 1) := by decide +kernel
theorem dX7_coordinate_77 : decode cX7_coordinate 77 = .ok (.iinc 4 1, 3) := by decide +kernel
theorem dX7_coordinate_80 : decode cX7_coordinate 80 = .ok (.goto (-62), 3) := by decide +kernel
theorem dX7_coordinate_83 : decode cX7_coordinate 83 = .ok (.ldc 83, 2) := by decide +kernel
theorem dX7_coordinate_85 : decode cX7_coordinate 85 = .ok (.ireturn, 1) := by decide +kernel
theorem dX7_across_0 : decode cX7_across 0 = .ok (.iload_n 1, 1) := by decide +kernel
theorem dX7_across_1 : decode cX7_across 1 = .ok (.aload_n 0, 1) := by decide +kernel
theorem dX7_across_2 : decode cX7_across 2 = .ok (.iconst 0, 1) := by decide +kernel
theorem dX7_across_3 : decode cX7_across 3 = .ok (.invokevirtual 15, 3) := by decide +kernel
theorem dX7_across_6 : decode cX7_across 6 = .ok (.imul, 1) := by decide +kernel
theorem dX7_across_7 : decode cX7_across 7 = .ok (.iload_n 2, 1) := by decide +kernel
theorem dX7_across_8 : decode cX7_across 8 = .ok (.aload_n 0, 1) := by decide +kernel
theorem dX7_across_9 : decode cX7_across 9 = .ok (.iconst 0, 1) := by decide +kernel
theorem dX7_across_10 : decode cX7_across 10 = .ok (.invokevirtual 23, 3) := by decide +kernel
theorem dX7_across_13 : decode cX7_across 13 = .ok (.imul, 1) := by decide +kernel
theorem dX7_across_14 : decode cX7_across 14 = .ok (.iadd, 1) := by decide +kernel
theorem dX7_across_15 : decode cX7_across 15 = .ok (.istore_n 3, 1) := by decide +kernel
theorem dX7_across_16 : decode cX7_across 16 = .ok (.iload_n 3, 1) := by decide +kernel
theorem dX7_across_17 : decode cX7_across 17 = .ok (.istore 4, 2) := by decide +kernel
theorem dX7_across_19 : decode cX7_across 19 = .ok (.iconst 1, 1) := by decide +kernel
theorem dX7_across_20 : decode cX7_across 20 = .ok (.istore 5, 2) := by decide +kernel
theorem dX7_across_22 : decode cX7_across 22 = .ok (.iload 5, 2) := by decide +kernel
theorem dX7_across_24 : decode cX7_across 24 = .ok (.aload_n 0, 1) := by decide +kernel
theorem dX7_across_25 : decode cX7_across 25 = .ok (.getfield 9, 3) := by decide +kernel
theorem dX7_across_28 : decode cX7_across 28 = .ok (.if_icmp .ge 44, 3) := by decide +kernel
theorem dX7_across_31 : decode cX7_across 31 = .ok (.iload_n 1, 1) := by decide +kernel
theorem dX7_across_32 : decode cX7_across 32 = .ok (.aload_n 0, 1) := by decide +kernel
theorem dX7_across_33 : decode cX7_across 33 = .ok (.iload 5, 2) := by decide +kernel
theorem dX7_across_35 : decode cX7_across 35 = .ok (.invokevirtual 15, 3) := by decide +kernel
theorem dX7_across_38 : decode cX7_across 38 = .ok (.imul, 1) := by decide +kernel
theorem dX7_across_39 : decode cX7_across 39 = .ok (.iload_n 2, 1) := by decide +kernel
theorem dX7_across_40 : decode cX7_across 40 = .ok (.aload_n 0, 1) := by decide +kernel
theorem dX7_across_41 : decode cX7_across 41 = .ok (.iload 5, 2) := by decide +kernel
theorem dX7_across_43 : decode cX7_across 43 = .ok (.invokevirtual 23, 3) := by decide +kernel
theorem dX7_across_46 : decode cX7_across 46 = .ok (.imul, 1) := by decide +kernel
theorem dX7_across_47 : decode cX7_across 47 = .ok (.iadd, 1) := by decide +kernel
theorem dX7_across_48 : decode cX7_across 48 = .ok (.istore 6, 2) := by decide +kernel
theorem dX7_across_50 : decode cX7_across 50 = .ok (.iload_n 3, 1) := by decide +kernel
theorem dX7_across_51 : decode cX7_across 51 = .ok (.iload 6, 2) := by decide +kernel
theorem dX7_across_53 : decode cX7_across 53 = .ok (.invokestatic 59, 3) := by decide +kernel
theorem dX7_across_56 : decode cX7_across 56 = .ok (.istore_n 3, 1) := by decide +kernel
theorem dX7_across_57 : decode cX7_across 57 = .ok (.iload 4, 2) := by decide +kernel
theorem dX7_across_59 : decode cX7_across 59 = .ok (.iload 6, 2) := by decide +kernel
theorem dX7_across_61 : decode cX7_across 61 = .ok (.invokestatic 54, 3) := by decide +kernel
theorem dX7_across_64 : decode cX7_across 64 = .ok (.istore 4, 2) := by decide +kernel
theorem dX7_across_66 : decode cX7_across 66 = .ok (.iinc 5 1, 3) := by decide +kernel
theorem dX7_across_69 : decode cX7_across 69 = .ok (.goto (-47), 3) := by decide +kernel
theorem dX7_across_72 : decode cX7_across 72 = .ok (.iload 4, 2) := by decide +kernel
theorem dX7_across_74 : decode cX7_across 74 = .ok (.iload_n 3, 1) := by decide +kernel
theorem dX7_across_75 : decode cX7_across 75 = .ok (.isub, 1) := by decide +kernel
theorem dX7_across_76 : decode cX7_across 76 = .ok (.ireturn, 1) := by decide +kernel
theorem dX7_isRound_0 : decode cX7_isRound 0 = .ok (.aload_n 0, 1) := by decide +kernel
theorem dX7_isRound_1 : decode cX7_isRound 1 = .ok (.invokevirtual 84, 3) := by decide +kernel
theorem dX7_isRound_4 : decode cX7_isRound 4 = .ok (.ifCond .eq 17, 3) := by decide +kernel
theorem dX7_isRound_7 : decode cX7_isRound 7 = .ok (.aload_n 0, 1) := by decide +kernel
theorem dX7_isRound_8 : decode cX7_isRound 8 = .ok (.iconst 0, 1) := by decide +kernel
theorem dX7_isRound_9 : decode cX7_isRound 9 = .ok (.iconst 0, 1) := by decide +kernel
theorem dX7_isRound_10 : decode cX7_isRound 10 = .ok (.invokevirtual 88, 3) := by decide +kernel
theorem dX7_isRound_13 : decode cX7_isRound 13 = .ok (.iconst 2, 1) := by decide +kernel
theorem dX7_isRound_14 : decode cX7_isRound 14 = .ok (.if_icmp .ne 7, 3) := by decide +kernel
theorem dX7_isRound_17 : decode cX7_isRound 17 = .ok (.iconst 1, 1) := by decide +kernel
theorem dX7_isRound_18 : decode cX7_isRound 18 = .ok (.goto 4, 3) := by decide +kernel
theorem dX7_isRound_21 : decode cX7_isRound 21 = .ok (.iconst 0, 1) := by decide +kernel
theorem dX7_isRound_22 : decode cX7_isRound 22 = .ok (.ireturn, 1) := by decide +kernel
theorem dX7_normalA_0 : decode cX7_normalA 0 = .ok (.aload_n 0, 1) := by decide +kernel
theorem dX7_normalA_1 : decode cX7_normalA 1 = .ok (.iload_n 1, 1) := by decide +kernel
theorem dX7_normalA_2 : decode cX7_normalA 2 = .ok (.invokevirtual 39, 3) := by decide +kernel
theorem dX7_normalA_5 : decode cX7_normalA 5 = .ok (.istore_n 2, 1) := by decide +kernel
theorem dX7_normalA_6 : decode cX7_normalA 6 = .ok (.iload_n 2, 1) := by decide +kernel
theorem dX7_normalA_7 : decode cX7_normalA 7 = .ok (.ifCond .ne 7, 3) := by decide +kernel
theorem dX7_normalA_10 : decode cX7_normalA 10 = .ok (.iconst 0, 1) := by decide +kernel
theorem dX7_normalA_11 : decode cX7_normalA 11 = .ok (.goto 10, 3) := by decide +kernel
theorem dX7_normalA_14 : decode cX7_normalA 14 = .ok (.aload_n 0, 1) := by decide +kernel
theorem dX7_normalA_15 : decode cX7_normalA 15 = .ok (.iload_n 1, 1) := by decide +kernel
theorem dX7_normalA_16 : decode cX7_normalA 16 = .ok (.invokevirtual 33, 3) := by decide +kernel
theorem dX7_normalA_19 : decode cX7_normalA 19 = .ok (.iload_n 2, 1) := by decide +kernel
theorem dX7_normalA_20 : decode cX7_normalA 20 = .ok (.idiv, 1) := by decide +kernel
theorem dX7_normalA_21 : decode cX7_normalA 21 = .ok (.ireturn, 1) := by decide +kernel
theorem dX7_normalB_0 : decode cX7_normalB 0 = .ok (.aload_n 0, 1) := by decide +kernel
theorem dX7_normalB_1 : decode cX7_normalB 1 = .ok (.iload_n 1, 1) := by decide +kernel
theorem dX7_normalB_2 : decode cX7_normalB 2 = .ok (.invokevirtual 39, 3) := by decide +kernel
theorem dX7_normalB_5 : decode cX7_normalB 5 = .ok (.istore_n 2, 1) := by decide +kernel
theorem dX7_normalB_6 : decode cX7_normalB 6 = .ok (.iload_n 2, 1) := by decide +kernel
theorem dX7_normalB_7 : decode cX7_normalB 7 = .ok (.ifCond .ne 7, 3) := by decide +kernel
theorem dX7_normalB_10 : decode cX7_normalB 10 = .ok (.iconst 0, 1) := by decide +kernel
theorem dX7_normalB_11 : decode cX7_normalB 11 = .ok (.goto 11, 3) := by decide +kernel
theorem dX7_normalB_14 : decode cX7_normalB 14 = .ok (.aload_n 0, 1) := by decide +kernel
theorem dX7_normalB_15 : decode cX7_normalB 15 = .ok (.iload_n 1, 1) := by decide +kernel
theorem dX7_normalB_16 : decode cX7_normalB 16 = .ok (.invokevirtual 30, 3) := by decide +kernel
theorem dX7_normalB_19 : decode cX7_normalB 19 = .ok (.ineg, 1) := by decide +kernel
theorem dX7_normalB_20 : decode cX7_normalB 20 = .ok (.iload_n 2, 1) := by decide +kernel
theorem dX7_normalB_21 : decode cX7_normalB 21 = .ok (.idiv, 1) := by decide +kernel
theorem dX7_normalB_22 : decode cX7_normalB 22 = .ok (.ireturn, 1) := by decide +kernel
theorem dX7_far_0 : decode cX7_far 0 = .ok (.aload_n 0, 1) := by decide +kernel
theorem dX7_far_1 : decode cX7_far 1 = .ok (.iload_n 1, 1) := by decide +kernel
theorem dX7_far_2 : decode cX7_far 2 = .ok (.invokevirtual 91, 3) := by decide +kernel
theorem dX7_far_5 : decode cX7_far 5 = .ok (.aload_n 0, 1) := by decide +kernel
theorem dX7_far_6 : decode cX7_far 6 = .ok (.iload_n 1, 1) := by decide +kernel
theorem dX7_far_7 : decode cX7_far 7 = .ok (.invokevirtual 15, 3) := by decide +kernel
theorem dX7_far_10 : decode cX7_far 10 = .ok (.imul, 1) := by decide +kernel
theorem dX7_far_11 : decode cX7_far 11 = .ok (.aload_n 0, 1) := by decide +kernel
theorem dX7_far_12 : decode cX7_far 12 = .ok (.iload_n 1, 1) := by decide +kernel
theorem dX7_far_13 : decode cX7_far 13 = .ok (.invokevirtual 94, 3) := by decide +kernel
theorem dX7_far_16 : decode cX7_far 16 = .ok (.aload_n 0, 1) := by decide +kernel
theorem dX7_far_17 : decode cX7_far 17 = .ok (.iload_n 1, 1) := by decide +kernel
theorem dX7_far_18 : decode cX7_far 18 = .ok (.invokevirtual 23, 3) := by decide +kernel
theorem dX7_far_21 : decode cX7_far 21 = .ok (.imul, 1) := by decide +kernel
theorem dX7_far_22 : decode cX7_far 22 = .ok (.iadd, 1) := by decide +kernel
theorem dX7_far_23 : decode cX7_far 23 = .ok (.ireturn, 1) := by decide +kernel
theorem dX7_isReflexive_0 : decode cX7_isReflexive 0 = .ok (.aload_n 0, 1) := by decide +kernel
theorem dX7_isReflexive_1 : decode cX7_isReflexive 1 = .ok (.invokevirtual 97, 3) := by decide +kernel
theorem dX7_isReflexive_4 : decode cX7_isReflexive 4 = .ok (.ifCond .ne 5, 3) := by decide +kernel
theorem dX7_isReflexive_7 : decode cX7_isReflexive 7 = .ok (.iconst 0, 1) := by decide +kernel
theorem dX7_isReflexive_8 : decode cX7_isReflexive 8 = .ok (.ireturn, 1) := by decide +kernel
theorem dX7_isReflexive_9 : decode cX7_isReflexive 9 = .ok (.iconst 0, 1) := by decide +kernel
theorem dX7_isReflexive_10 : decode cX7_isReflexive 10 = .ok (.istore_n 1, 1) := by decide +kernel
theorem dX7_isReflexive_11 : decode cX7_isReflexive 11 = .ok (.iload_n 1, 1) := by decide +kernel
theorem dX7_isReflexive_12 : decode cX7_isReflexive 12 = .ok (.aload_n 0, 1) := by decide +kernel
theorem dX7_isReflexive_13 : decode cX7_isReflexive 13 = .ok (.getfield 9, 3) := by decide +kernel
theorem dX7_isReflexive_16 : decode cX7_isReflexive 16 = .ok (.if_icmp .ge 20, 3) := by decide +kernel
theorem dX7_isReflexive_19 : decode cX7_isReflexive 19 = .ok (.aload_n 0, 1) := by decide +kernel
theorem dX7_isReflexive_20 : decode cX7_isReflexive 20 = .ok (.iload_n 1, 1) := by decide +kernel
theorem dX7_isReflexive_21 : decode cX7_isReflexive 21 = .ok (.invokevirtual 100, 3) := by decide +kernel
theorem dX7_isReflexive_24 : decode cX7_isReflexive 24 = .ok (.iconst 1, 1) := by decide +kernel
theorem dX7_isReflexive_25 : decode cX7_isReflexive 25 = .ok (.if_icmp .eq 5, 3) := by decide +kernel
theorem dX7_isReflexive_28 : decode cX7_isReflexive 28 = .ok (.iconst 0, 1) := by decide +kernel
theorem dX7_isReflexive_29 : decode cX7_isReflexive 29 = .ok (.ireturn, 1) := by decide +kernel
theorem dX7_isReflexive_30 : decode cX7_isReflexive 30 = .ok (.iinc 1 1, 3) := by decide +kernel
theorem dX7_isReflexive_33 : decode cX7_isReflexive 33 = .ok (.goto (-22), 3) := by decide +kernel
theorem dX7_isReflexive_36 : decode cX7_isReflexive 36 = .ok (.iconst 1, 1) := by decide +kernel
theorem dX7_isReflexive_37 : decode cX7_isReflexive 37 = .ok (.ireturn, 1) := by decide +kernel
theorem dX8_init_0 : decode cX8_init 0 = .ok (.aload_n 0, 1) := by decide +kernel
theorem dX8_init_1 : decode cX8_init 1 = .ok (.invokespecial 1, 3) := by decide +kernel
theorem dX8_init_4 : decode cX8_init 4 = .ok (.aload_n 0, 1) := by decide +kernel
theorem dX8_init_5 : decode cX8_init 5 = .ok (.iload_n 1, 1) := by decide +kernel
theorem dX8_init_6 : decode cX8_init 6 = .ok (.newarray .int, 2) := by decide +kernel
theorem dX8_init_8 : decode cX8_init 8 = .ok (.putfield 7, 3) := by decide +kernel
theorem dX8_init_11 : decode cX8_init 11 = .ok (.aload_n 0, 1) := by decide +kernel
theorem dX8_init_12 : decode cX8_init 12 = .ok (.iload_n 1, 1) := by decide +kernel
theorem dX8_init_13 : decode cX8_init 13 = .ok (.newarray .int, 2) := by decide +kernel
theorem dX8_init_15 : decode cX8_init 15 = .ok (.putfield 13, 3) := by decide +kernel
theorem dX8_init_18 : decode cX8_init 18 = .ok (.return_, 1) := by decide +kernel
theorem dX8_x_0 : decode cX8_x 0 = .ok (.iload_n 1, 1) := by decide +kernel
theorem dX8_x_1 : decode cX8_x 1 = .ok (.ifCond .lt 21, 3) := by decide +kernel
theorem dX8_x_4 : decode cX8_x 4 = .ok (.iload_n 1, 1) := by decide +kernel
theorem dX8_x_5 : decode cX8_x 5 = .ok (.aload_n 0, 1) := by decide +kernel
theorem dX8_x_6 : decode cX8_x 6 = .ok (.getfield 7, 3) := by decide +kernel
theorem dX8_x_9 : decode cX8_x 9 = .ok (.arraylength, 1) := by decide +kernel
theorem dX8_x_10 : decode cX8_x 10 = .ok (.if_icmp .ge 12, 3) := by decide +kernel
theorem dX8_x_13 : decode cX8_x 13 = .ok (.aload_n 0, 1) := by decide +kernel
theorem dX8_x_14 : decode cX8_x 14 = .ok (.getfield 7, 3) := by decide +kernel
theorem dX8_x_17 : decode cX8_x 17 = .ok (.iload_n 1, 1) := by decide +kernel
theorem dX8_x_18 : decode cX8_x 18 = .ok (.iaload, 1) := by decide +kernel
theorem dX8_x_19 : decode cX8_x 19 = .ok (.goto 4, 3) := by decide +kernel
theorem dX8_x_22 : decode cX8_x 22 = .ok (.iconst 0, 1) := by decide +kernel
theorem dX8_x_23 : decode cX8_x 23 = .ok (.ireturn, 1) := by decide +kernel
theorem dX8_y_0 : decode cX8_y 0 = .ok (.iload_n 1, 1) := by decide +kernel
theorem dX8_y_1 : decode cX8_y 1 = .ok (.ifCond .lt 21, 3) := by decide +kernel
theorem dX8_y_4 : decode cX8_y 4 = .ok (.iload_n 1, 1) := by decide +kernel
theorem dX8_y_5 : decode cX8_y 5 = .ok (.aload_n 0, 1) := by decide +kernel
theorem dX8_y_6 : decode cX8_y 6 = .ok (.getfield 13, 3) := by decide +kernel
theorem dX8_y_9 : decode cX8_y 9 = .ok (.arraylength, 1) := by decide +kernel
theorem dX8_y_10 : decode cX8_y 10 = .ok (.if_icmp .ge 12, 3) := by decide +kernel
theorem dX8_y_13 : decode cX8_y 13 = .ok (.aload_n 0, 1) := by decide +kernel
theorem dX8_y_14 : decode cX8_y 14 = .ok (.getfield 13, 3) := by decide +kernel
theorem dX8_y_17 : decode cX8_y 17 = .ok (.iload_n 1, 1) := by decide +kernel
theorem dX8_y_18 : decode cX8_y 18 = .ok (.iaload, 1) := by decide +kernel
theorem dX8_y_19 : decode cX8_y 19 = .ok (.goto 4, 3) := by decide +kernel
theorem dX8_y_22 : decode cX8_y 22 = .ok (.iconst 0, 1) := by decide +kernel
theorem dX8_y_23 : decode cX8_y 23 = .ok (.ireturn, 1) := by decide +kernel
theorem dX8_append_0 : decode cX8_append 0 = .ok (.aload_n 0, 1) := by decide +kernel
theorem dX8_append_1 : decode cX8_append 1 = .ok (.getfield 16, 3) := by decide +kernel
theorem dX8_append_4 : decode cX8_append 4 = .ok (.ifCond .lt 57, 3) := by decide +kernel
theorem dX8_append_7 : decode cX8_append 7 = .ok (.aload_n 0, 1) := by decide +kernel
theorem dX8_append_8 : decode cX8_append 8 = .ok (.getfield 16, 3) := by decide +kernel
theorem dX8_append_11 : decode cX8_append 11 = .ok (.aload_n 0, 1) := by decide +kernel
theorem dX8_append_12 : decode cX8_append 12 = .ok (.getfield 7, 3) := by decide +kernel
theorem dX8_append_15 : decode cX8_append 15 = .ok (.arraylength, 1) := by decide +kernel
theorem dX8_append_16 : decode cX8_append 16 = .ok (.if_icmp .ge 45, 3) := by decide +kernel
theorem dX8_append_19 : decode cX8_append 19 = .ok (.aload_n 0, 1) := by decide +kernel
theorem dX8_append_20 : decode cX8_append 20 = .ok (.getfield 16, 3) := by decide +kernel
theorem dX8_append_23 : decode cX8_append 23 = .ok (.aload_n 0, 1) := by decide +kernel
theorem dX8_append_24 : decode cX8_append 24 = .ok (.getfield 13, 3) := by decide +kernel
theorem dX8_append_27 : decode cX8_append 27 = .ok (.arraylength, 1) := by decide +kernel
theorem dX8_append_28 : decode cX8_append 28 = .ok (.if_icmp .ge 33, 3) := by decide +kernel
theorem dX8_append_31 : decode cX8_append 31 = .ok (.aload_n 0, 1) := by decide +kernel
theorem dX8_append_32 : decode cX8_append 32 = .ok (.getfield 7, 3) := by decide +kernel
theorem dX8_append_35 : decode cX8_append 35 = .ok (.aload_n 0, 1) := by decide +kernel
theorem dX8_append_36 : decode cX8_append 36 = .ok (.getfield 16, 3) := by decide +kernel
theorem dX8_append_39 : decode cX8_append 39 = .ok (.iload_n 1, 1) := by decide +kernel
theorem dX8_append_40 : decode cX8_append 40 = .ok (.iastore, 1) := by decide +kernel
theorem dX8_append_41 : decode cX8_append 41 = .ok (.aload_n 0, 1) := by decide +kernel
theorem dX8_append_42 : decode cX8_append 42 = .ok (.getfield 13, 3) := by decide +kernel
theorem dX8_append_45 : decode cX8_append 45 = .ok (.aload_n 0, 1) := by decide +kernel
theorem dX8_append_46 : decode cX8_append 46 = .ok (.getfield 16, 3) := by decide +kernel
theorem dX8_append_49 : decode cX8_append 49 = .ok (.iload_n 2, 1) := by decide +kernel
theorem dX8_append_50 : decode cX8_append 50 = .ok (.iastore, 1) := by decide +kernel
theorem dX8_append_51 : decode cX8_append 51 = .ok (.aload_n 0, 1) := by decide +kernel
theorem dX8_append_52 : decode cX8_append 52 = .ok (.dup, 1) := by decide +kernel
theorem dX8_append_53 : decode cX8_append 53 = .ok (.getfield 16, 3) := by decide +kernel
theorem dX8_append_56 : decode cX8_append 56 = .ok (.iconst 1, 1) := by decide +kernel
theorem dX8_append_57 : decode cX8_append 57 = .ok (.iadd, 1) := by decide +kernel
theorem dX8_append_58 : decode cX8_append 58 = .ok (.putfield 16, 3) := by decide +kernel
theorem dX8_append_61 : decode cX8_append 61 = .ok (.return_, 1) := by decide +kernel
theorem dX9_init_0 : decode cX9_init 0 = .ok (.aload_n 0, 1) := by decide +kernel
theorem dX9_init_1 : decode cX9_init 1 = .ok (.invokespecial 3, 3) := by decide +kernel
theorem dX9_init_4 : decode cX9_init 4 = .ok (.return_, 1) := by decide +kernel
theorem dX9_walk_0 : decode cX9_walk 0 = .ok (.iload_n 1, 1) := by decide +kernel
theorem dX9_walk_1 : decode cX9_walk 1 = .ok (.iload_n 2, 1) := by decide +kernel
theorem dX9_walk_2 : decode cX9_walk 2 = .ok (.invokestatic 9, 3) := by decide +kernel
theorem dX9_walk_5 : decode cX9_walk 5 = .ok (.istore 6, 2) := by decide +kernel
theorem dX9_walk_7 : decode cX9_walk 7 = .ok (.iload_n 3, 1) := by decide +kernel
theorem dX9_walk_8 : decode cX9_walk 8 = .ok (.iload 4, 2) := by decide +kernel
theorem dX9_walk_10 : decode cX9_walk 10 = .ok (.invokestatic 9, 3) := by decide +kernel
theorem dX9_walk_13 : decode cX9_walk 13 = .ok (.istore 7, 2) := by decide +kernel
theorem dX9_walk_15 : decode cX9_walk 15 = .ok (.aload_n 0, 1) := by decide +kernel
theorem dX9_walk_16 : decode cX9_walk 16 = .ok (.iconst 0, 1) := by decide +kernel
theorem dX9_walk_17 : decode cX9_walk 17 = .ok (.putfield 13, 3) := by decide +kernel
theorem dX9_walk_20 : decode cX9_walk 20 = .ok (.iload 6, 2) := by decide +kernel
theorem dX9_walk_22 : decode cX9_walk 22 = .ok (.ifCond .eq 8, 3) := by decide +kernel
theorem dX9_walk_25 : decode cX9_walk 25 = .ok (.iload 7, 2) := by decide +kernel
theorem dX9_walk_27 : decode cX9_walk 27 = .ok (.ifCond .ne 4, 3) := by decide +kernel
theorem dX9_walk_30 : decode cX9_walk 30 = .ok (.return_, 1) := by decide +kernel
theorem dX9_walk_31 : decode cX9_walk 31 = .ok (.iload_n 1, 1) := by decide +kernel
theorem dX9_walk_32 : decode cX9_walk 32 = .ok (.iload 6, 2) := by decide +kernel
theorem dX9_walk_34 : decode cX9_walk 34 = .ok (.idiv, 1) := by decide +kernel
theorem dX9_walk_35 : decode cX9_walk 35 = .ok (.istore 8, 2) := by decide +kernel
theorem dX9_walk_37 : decode cX9_walk 37 = .ok (.iload_n 2, 1) := by decide +kernel
theorem dX9_walk_38 : decode cX9_walk 38 = .ok (.iload 6, 2) := by decide +kernel
theorem dX9_walk_40 : decode cX9_walk 40 = .ok (.idiv, 1) := by decide +kernel
theorem dX9_walk_41 : decode cX9_walk 41 = .ok (.istore 9, 2) := by decide +kernel
theorem dX9_walk_43 : decode cX9_walk 43 = .ok (.iload_n 3, 1) := by decide +kernel
theorem dX9_walk_44 : decode cX9_walk 44 = .ok (.iload 7, 2) := by decide +kernel
theorem dX9_walk_46 : decode cX9_walk 46 = .ok (.idiv, 1) := by decide +kernel
theorem dX9_walk_47 : decode cX9_walk 47 = .ok (.istore 10, 2) := by decide +kernel
theorem dX9_walk_49 : decode cX9_walk 49 = .ok (.iload 4, 2) := by decide +kernel
theorem dX9_walk_51 : decode cX9_walk 51 = .ok (.iload 7, 2) := by decide +kernel
theorem dX9_walk_53 : decode cX9_walk 53 = .ok (.idiv, 1) := by decide +kernel
theorem dX9_walk_54 : decode cX9_walk 54 = .ok (.istore 11, 2) := by decide +kernel
theorem dX9_walk_56 : decode cX9_walk 56 = .ok (.aload_n 0, 1) := by decide +kernel
theorem dX9_walk_57 : decode cX9_walk 57 = .ok (.iload 8, 2) := by decide +kernel
theorem dX9_walk_59 : decode cX9_walk 59 = .ok (.iload 9, 2) := by decide +kernel
theorem dX9_walk_61 : decode cX9_walk 61 = .ok (.ldc 19, 2) := by decide +kernel
theorem dX9_walk_63 : decode cX9_walk 63 = .ok (.iload 5, 2) := by decide +kernel
theorem dX9_walk_65 : decode cX9_walk 65 = .ok (.invokevirtual 20, 3) := by decide +kernel
theorem dX9_walk_68 : decode cX9_walk 68 = .ok (.aload_n 0, 1) := by decide +kernel
theorem dX9_walk_69 : decode cX9_walk 69 = .ok (.iload 8, 2) := by decide +kernel
theorem dX9_walk_71 : decode cX9_walk 71 = .ok (.iload 9, 2) := by decide +kernel
theorem dX9_walk_73 : decode cX9_walk 73 = .ok (.iload 10, 2) := by decide +kernel
theorem dX9_walk_75 : decode cX9_walk 75 = .ok (.iload 11, 2) := by decide +kernel
theorem dX9_walk_77 : decode cX9_walk 77 = .ok (.invokevirtual 24, 3) := by decide +kernel
theorem dX9_walk_80 : decode cX9_walk 80 = .ok (.aload_n 0, 1) := by decide +kernel
theorem dX9_walk_81 : decode cX9_walk 81 = .ok (.getfield 27, 3) := by decide +kernel
theorem dX9_walk_84 : decode cX9_walk 84 = .ok (.istore 12, 2) := by decide +kernel
theorem dX9_walk_86 : decode cX9_walk 86 = .ok (.aload_n 0, 1) := by decide +kernel
theorem dX9_walk_87 : decode cX9_walk 87 = .ok (.getfield 30, 3) := by decide +kernel
theorem dX9_walk_90 : decode cX9_walk 90 = .ok (.istore 13, 2) := by decide +kernel
theorem dX9_walk_92 : decode cX9_walk 92 = .ok (.iload 8, 2) := by decide +kernel
theorem dX9_walk_94 : decode cX9_walk 94 = .ok (.iload 11, 2) := by decide +kernel
theorem dX9_walk_96 : decode cX9_walk 96 = .ok (.imul, 1) := by decide +kernel
theorem dX9_walk_97 : decode cX9_walk 97 = .ok (.iload 9, 2) := by decide +kernel
theorem dX9_walk_99 : decode cX9_walk 99 = .ok (.iload 10, 2) := by decide +kernel
theorem dX9_walk_101 : decode cX9_walk 101 = .ok (.imul, 1) := by decide +kernel
theorem dX9_walk_102 : decode cX9_walk 102 = .ok (.isub, 1) := by decide +kernel
theorem dX9_walk_103 : decode cX9_walk 103 = .ok (.istore 14, 2) := by decide +kernel
theorem dX9_walk_105 : decode cX9_walk 105 = .ok (.iload 12, 2) := by decide +kernel
theorem dX9_walk_107 : decode cX9_walk 107 = .ok (.iload 11, 2) := by decide +kernel
theorem dX9_walk_109 : decode cX9_walk 109 = .ok (.imul, 1) := by decide +kernel
theorem dX9_walk_110 : decode cX9_walk 110 = .ok (.iload 13, 2) := by decide +kernel
theorem dX9_walk_112 : decode cX9_walk 112 = .ok (.iload 10, 2) := by decide +kernel
theorem dX9_walk_114 : decode cX9_walk 114 = .ok (.imul, 1) := by decide +kernel
theorem dX9_walk_115 : decode cX9_walk 115 = .ok (.isub, 1) := by decide +kernel
theorem dX9_walk_116 : decode cX9_walk 116 = .ok (.istore 15, 2) := by decide +kernel
theorem dX9_walk_118 : decode cX9_walk 118 = .ok (.iconst 0, 1) := by decide +kernel
theorem dX9_walk_119 : decode cX9_walk 119 = .ok (.istore 16, 2) := by decide +kernel
theorem dX9_walk_121 : decode cX9_walk 121 = .ok (.iload 16, 2) := by decide +kernel
theorem dX9_walk_123 : decode cX9_walk 123 = .ok (.sipush 25921, 3) := by decide +kernel
theorem dX9_walk_126 : decode cX9_walk 126 = .ok (.if_icmp .ge 90, 3) := by decide +kernel
theorem dX9_walk_129 : decode cX9_walk 129 = .ok (.iload 15, 2) := by decide +kernel
theorem dX9_walk_131 : decode cX9_walk 131 = .ok (.ifCond .le 85, 3) := by decide +kernel
theorem dX9_walk_134 : decode cX9_walk 134 = .ok (.iload 14, 2) := by decide +kernel
theorem dX9_walk_136 : decode cX9_walk 136 = .ok (.ineg, 1) := by decide +kernel
theorem dX9_walk_137 : decode cX9_walk 137 = .ok (.iload 15, 2) := by decide +kernel
theorem dX9_walk_139 : decode cX9_walk 139 = .ok (.invokestatic 33, 3) := by decide +kernel
theorem dX9_walk_142 : decode cX9_walk 142 = .ok (.ineg, 1) := by decide +kernel
theorem dX9_walk_143 : decode cX9_walk 143 = .ok (.istore 17, 2) := by decide +kernel
theorem dX9_walk_145 : decode cX9_walk 145 = .ok (.aload_n 0, 1) := by decide +kernel
theorem dX9_walk_146 : decode cX9_walk 146 = .ok (.iload 12, 2) := by decide +kernel
theorem dX9_walk_148 : decode cX9_walk 148 = .ok (.iload 13, 2) := by decide +kernel
theorem dX9_walk_150 : decode cX9_walk 150 = .ok (.iload 17, 2) := by decide +kernel
theorem dX9_walk_152 : decode cX9_walk 152 = .ok (.iload 5, 2) := by decide +kernel
theorem dX9_walk_154 : decode cX9_walk 154 = .ok (.invokevirtual 20, 3) := by decide +kernel
theorem dX9_walk_157 : decode cX9_walk 157 = .ok (.iload 17, 2) := by decide +kernel
theorem dX9_walk_159 : decode cX9_walk 159 = .ok (.iload 12, 2) := by decide +kernel
theorem dX9_walk_161 : decode cX9_walk 161 = .ok (.imul, 1) := by decide +kernel
theorem dX9_walk_162 : decode cX9_walk 162 = .ok (.iload 8, 2) := by decide +kernel
theorem dX9_walk_164 : decode cX9_walk 164 = .ok (.isub, 1) := by decide +kernel
theorem dX9_walk_165 : decode cX9_walk 165 = .ok (.istore 18, 2) := by decide +kernel
theorem dX9_walk_167 : decode cX9_walk 167 = .ok (.iload 17, 2) := by decide +kernel
theorem dX9_walk_169 : decode cX9_walk 169 = .ok (.iload 13, 2) := by decide +kernel
theorem dX9_walk_171 : decode cX9_walk 171 = .ok (.imul, 1) := by decide +kernel
theorem dX9_walk_172 : decode cX9_walk 172 = .ok (.iload 9, 2) := by decide +kernel
theorem dX9_walk_174 : decode cX9_walk 174 = .ok (.isub, 1) := by decide +kernel
theorem dX9_walk_175 : decode cX9_walk 175 = .ok (.istore 19, 2) := by decide +kernel
theorem dX9_walk_177 : decode cX9_walk 177 = .ok (.iload 12, 2) := by decide +kernel
theorem dX9_walk_179 : decode cX9_walk 179 = .ok (.istore 8, 2) := by decide +kernel
theorem dX9_walk_181 : decode cX9_walk 181 = .ok (.iload 13, 2) := by decide +kernel
theorem dX9_walk_183 : decode cX9_walk 183 = .ok (.istore 9, 2) := by decide +kernel
theorem dX9_walk_185 : decode cX9_walk 185 = .ok (.iload 18, 2) := by decide +kernel
theorem dX9_walk_187 : decode cX9_walk 187 = .ok (.istore 12, 2) := by decide +kernel
theorem dX9_walk_189 : decode cX9_walk 189 = .ok (.iload 19, 2) := by decide +kernel
theorem dX9_walk_191 : decode cX9_walk 191 = .ok (.istore 13, 2) := by decide +kernel
theorem dX9_walk_193 : decode cX9_walk 193 = .ok (.iload 15, 2) := by decide +kernel
theorem dX9_walk_195 : decode cX9_walk 195 = .ok (.istore 14, 2) := by decide +kernel
theorem dX9_walk_197 : decode cX9_walk 197 = .ok (.iload 12, 2) := by decide +kernel
theorem dX9_walk_199 : decode cX9_walk 199 = .ok (.iload 11, 2) := by decide +kernel
theorem dX9_walk_201 : decode cX9_walk 201 = .ok (.imul, 1) := by decide +kernel
theorem dX9_walk_202 : decode cX9_walk 202 = .ok (.iload 13, 2) := by decide +kernel
theorem dX9_walk_204 : decode cX9_walk 204 = .ok (.iload 10, 2) := by decide +kernel
theorem dX9_walk_206 : decode cX9_walk 206 = .ok (.imul, 1) := by decide +kernel
theorem dX9_walk_207 : decode cX9_walk 207 = .ok (.isub, 1) := by decide +kernel
theorem dX9_walk_208 : decode cX9_walk 208 = .ok (.istore 15, 2) := by decide +kernel
theorem dX9_walk_210 : decode cX9_walk 210 = .ok (.iinc 16 1, 3) := by decide +kernel
theorem dX9_walk_213 : decode cX9_walk 213 = .ok (.goto (-92), 3) := by decide +kernel
theorem dX9_walk_216 : decode cX9_walk 216 = .ok (.aload_n 0, 1) := by decide +kernel
theorem dX9_walk_217 : decode cX9_walk 217 = .ok (.iload 10, 2) := by decide +kernel
theorem dX9_walk_219 : decode cX9_walk 219 = .ok (.iload 11, 2) := by decide +kernel
theorem dX9_walk_221 : decode cX9_walk 221 = .ok (.ldc 19, 2) := by decide +kernel
theorem dX9_walk_223 : decode cX9_walk 223 = .ok (.iload 5, 2) := by decide +kernel
theorem dX9_walk_225 : decode cX9_walk 225 = .ok (.invokevirtual 20, 3) := by decide +kernel
theorem dX9_walk_228 : decode cX9_walk 228 = .ok (.return_, 1) := by decide +kernel
theorem dX9_findSecond_0 : decode cX9_findSecond 0 = .ok (.iload_n 2, 1) := by decide +kernel
theorem dX9_findSecond_1 : decode cX9_findSecond 1 = .ok (.ineg, 1) := by decide +kernel
theorem dX9_findSecond_2 : decode cX9_findSecond 2 = .ok (.istore 5, 2) := by decide +kernel
theorem dX9_findSecond_4 : decode cX9_findSecond 4 = .ok (.iconst 0, 1) := by decide +kernel
theorem dX9_findSecond_5 : decode cX9_findSecond 5 = .ok (.istore 6, 2) := by decide +kernel
theorem dX9_findSecond_7 : decode cX9_findSecond 7 = .ok (.iconst 0, 1) := by decide +kernel
theorem dX9_findSecond_8 : decode cX9_findSecond 8 = .ok (.istore 7, 2) := by decide +kernel
theorem dX9_findSecond_10 : decode cX9_findSecond 10 = .ok (.iload_n 1, 1) := by decide +kernel
theorem dX9_findSecond_11 : decode cX9_findSecond 11 = .ok (.ifCond .eq 43, 3) := by decide +kernel
theorem dX9_findSecond_14 : decode cX9_findSecond 14 = .ok (.iload 7, 2) := by decide +kernel
theorem dX9_findSecond_16 : decode cX9_findSecond 16 = .ok (.iload_n 1, 1) := by decide +kernel
theorem dX9_findSecond_17 : decode cX9_findSecond 17 = .ok (.invokestatic 38, 3) := by decide +kernel
theorem dX9_findSecond_20 : decode cX9_findSecond 20 = .ok (.if_icmp .ge 34, 3) := by decide +kernel
theorem dX9_findSecond_23 : decode cX9_findSecond 23 = .ok (.iconst 1, 1) := by decide +kernel
theorem dX9_findSecond_24 : decode cX9_findSecond 24 = .ok (.iload_n 2, 1) := by decide +kernel
theorem dX9_findSecond_25 : decode cX9_findSecond 25 = .ok (.iload 7, 2) := by decide +kernel
theorem dX9_findSecond_27 : decode cX9_findSecond 27 = .ok (.imul, 1) := by decide +kernel
theorem dX9_findSecond_28 : decode cX9_findSecond 28 = .ok (.iadd, 1) := by decide +kernel
theorem dX9_findSecond_29 : decode cX9_findSecond 29 = .ok (.iload_n 1, 1) := by decide +kernel
theorem dX9_findSecond_30 : decode cX9_findSecond 30 = .ok (.irem, 1) := by decide +kernel
theorem dX9_findSecond_31 : decode cX9_findSecond 31 = .ok (.ifCond .ne 17, 3) := by decide +kernel
theorem dX9_findSecond_34 : decode cX9_findSecond 34 = .ok (.iload 7, 2) := by decide +kernel
theorem dX9_findSecond_36 : decode cX9_findSecond 36 = .ok (.istore 5, 2) := by decide +kernel
theorem dX9_findSecond_38 : decode cX9_findSecond 38 = .ok (.iconst 1, 1) := by decide +kernel
theorem dX9_findSecond_39 : decode cX9_findSecond 39 = .ok (.iload_n 2, 1) := by decide +kernel
theorem dX9_findSecond_40 : decode cX9_findSecond 40 = .ok (.iload 7, 2) := by decide +kernel
theorem dX9_findSecond_42 : decode cX9_findSecond 42 = .ok (.imul, 1) := by decide +kernel
theorem dX9_findSecond_43 : decode cX9_findSecond 43 = .ok (.iadd, 1) := by decide +kernel
theorem dX9_findSecond_44 : decode cX9_findSecond 44 = .ok (.iload_n 1, 1) := by decide +kernel
theorem dX9_findSecond_45 : decode cX9_findSecond 45 = .ok (.idiv, 1) := by decide +kernel
theorem dX9_findSecond_46 : decode cX9_findSecond 46 = .ok (.istore 6, 2) := by decide +kernel
theorem dX9_findSecond_48 : decode cX9_findSecond 48 = .ok (.iinc 7 1, 3) := by decide +kernel
theorem dX9_findSecond_51 : decode cX9_findSecond 51 = .ok (.goto (-41), 3) := by decide +kernel
theorem dX9_findSecond_54 : decode cX9_findSecond 54 = .ok (.iload_n 1, 1) := by decide +kernel
theorem dX9_findSecond_55 : decode cX9_findSecond 55 = .ok (.iload 4, 2) := by decide +kernel
theorem dX9_findSecond_57 : decode cX9_findSecond 57 = .ok (.imul, 1) := by decide +kernel
theorem dX9_findSecond_58 : decode cX9_findSecond 58 = .ok (.iload_n 2, 1) := by decide +kernel
theorem dX9_findSecond_59 : decode cX9_findSecond 59 = .ok (.iload_n 3, 1) := by decide +kernel
theorem dX9_findSecond_60 : decode cX9_findSecond 60 = .ok (.imul, 1) := by decide +kernel
theorem dX9_findSecond_61 : decode cX9_findSecond 61 = .ok (.isub, 1) := by decide +kernel
theorem dX9_findSecond_62 : decode cX9_findSecond 62 = .ok (.istore 7, 2) := by decide +kernel
theorem dX9_findSecond_64 : decode cX9_findSecond 64 = .ok (.iload 7, 2) := by decide +kernel
theorem dX9_findSecond_66 : decode cX9_findSecond 66 = .ok (.ifCond .ne 7, 3) := by decide +kernel
theorem dX9_findSecond_69 : decode cX9_findSecond 69 = .ok (.iconst 0, 1) := by decide +kernel
theorem dX9_findSecond_70 : decode cX9_findSecond 70 = .ok (.goto 18, 3) := by decide +kernel
theorem dX9_findSecond_73 : decode cX9_findSecond 73 = .ok (.iload 5, 2) := by decide +kernel
theorem dX9_findSecond_75 : decode cX9_findSecond 75 = .ok (.iload 4, 2) := by decide +kernel
theorem dX9_findSecond_77 : decode cX9_findSecond 77 = .ok (.imul, 1) := by decide +kernel
theorem dX9_findSecond_78 : decode cX9_findSecond 78 = .ok (.iload 6, 2) := by decide +kernel
theorem dX9_findSecond_80 : decode cX9_findSecond 80 = .ok (.iload_n 3, 1) := by decide +kernel
theorem dX9_findSecond_81 : decode cX9_findSecond 81 = .ok (.imul, 1) := by decide +kernel
theorem dX9_findSecond_82 : decode cX9_findSecond 82 = .ok (.isub, 1) := by decide +kernel
theorem dX9_findSecond_83 : decode cX9_findSecond 83 = .ok (.iload 7, 2) := by decide +kernel
theorem dX9_findSecond_85 : decode cX9_findSecond 85 = .ok (.invokestatic 33, 3) := by decide +kernel
theorem dX9_findSecond_88 : decode cX9_findSecond 88 = .ok (.istore 8, 2) := by decide +kernel
theorem dX9_findSecond_90 : decode cX9_findSecond 90 = .ok (.aload_n 0, 1) := by decide +kernel
theorem dX9_findSecond_91 : decode cX9_findSecond 91 = .ok (.iload 5, 2) := by decide +kernel
theorem dX9_findSecond_93 : decode cX9_findSecond 93 = .ok (.iload 8, 2) := by decide +kernel
theorem dX9_findSecond_95 : decode cX9_findSecond 95 = .ok (.iload_n 1, 1) := by decide +kernel
theorem dX9_findSecond_96 : decode cX9_findSecond 96 = .ok (.imul, 1) := by decide +kernel
theorem dX9_findSecond_97 : decode cX9_findSecond 97 = .ok (.isub, 1) := by decide +kernel
theorem dX9_findSecond_98 : decode cX9_findSecond 98 = .ok (.putfield 27, 3) := by decide +kernel
theorem dX9_findSecond_101 : decode cX9_findSecond 101 = .ok (.aload_n 0, 1) := by decide +kernel
theorem dX9_findSecond_102 : decode cX9_findSecond 102 = .ok (.iload 6, 2) := by decide +kernel
theorem dX9_findSecond_104 : decode cX9_findSecond 104 = .ok (.iload 8, 2) := by decide +kernel
theorem dX9_findSecond_106 : decode cX9_findSecond 106 = .ok (.iload_n 2, 1) := by decide +kernel
theorem dX9_findSecond_107 : decode cX9_findSecond 107 = .ok (.imul, 1) := by decide +kernel
theorem dX9_findSecond_108 : decode cX9_findSecond 108 = .ok (.isub, 1) := by decide +kernel
theorem dX9_findSecond_109 : decode cX9_findSecond 109 = .ok (.putfield 30, 3) := by decide +kernel
theorem dX9_findSecond_112 : decode cX9_findSecond 112 = .ok (.return_, 1) := by decide +kernel
theorem dX9_keep_0 : decode cX9_keep 0 = .ok (.aload_n 0, 1) := by decide +kernel
theorem dX9_keep_1 : decode cX9_keep 1 = .ok (.getfield 13, 3) := by decide +kernel
theorem dX9_keep_4 : decode cX9_keep 4 = .ok (.iload 4, 2) := by decide +kernel
theorem dX9_keep_6 : decode cX9_keep 6 = .ok (.if_icmp .ne 18, 3) := by decide +kernel
theorem dX9_keep_9 : decode cX9_keep 9 = .ok (.aload_n 0, 1) := by decide +kernel
theorem dX9_keep_10 : decode cX9_keep 10 = .ok (.iload_n 1, 1) := by decide +kernel
theorem dX9_keep_11 : decode cX9_keep 11 = .ok (.putfield 42, 3) := by decide +kernel
theorem dX9_keep_14 : decode cX9_keep 14 = .ok (.aload_n 0, 1) := by decide +kernel
theorem dX9_keep_15 : decode cX9_keep 15 = .ok (.iload_n 2, 1) := by decide +kernel
theorem dX9_keep_16 : decode cX9_keep 16 = .ok (.putfield 45, 3) := by decide +kernel
theorem dX9_keep_19 : decode cX9_keep 19 = .ok (.aload_n 0, 1) := by decide +kernel
theorem dX9_keep_20 : decode cX9_keep 20 = .ok (.iload_n 3, 1) := by decide +kernel
theorem dX9_keep_21 : decode cX9_keep 21 = .ok (.putfield 48, 3) := by decide +kernel
theorem dX9_keep_24 : decode cX9_keep 24 = .ok (.aload_n 0, 1) := by decide +kernel
theorem dX9_keep_25 : decode cX9_keep 25 = .ok (.dup, 1) := by decide +kernel
theorem dX9_keep_26 : decode cX9_keep 26 = .ok (.getfield 13, 3) := by decide +kernel
theorem dX9_keep_29 : decode cX9_keep 29 = .ok (.iconst 1, 1) := by decide +kernel
theorem dX9_keep_30 : decode cX9_keep 30 = .ok (.iadd, 1) := by decide +kernel
theorem dX9_keep_31 : decode cX9_keep 31 = .ok (.putfield 13, 3) := by decide +kernel
theorem dX9_keep_34 : decode cX9_keep 34 = .ok (.return_, 1) := by decide +kernel
theorem dX10_init_0 : decode cX10_init 0 = .ok (.aload_n 0, 1) := by decide +kernel
theorem dX10_init_1 : decode cX10_init 1 = .ok (.invokespecial 3, 3) := by decide +kernel
theorem dX10_init_4 : decode cX10_init 4 = .ok (.aload_n 0, 1) := by decide +kernel
theorem dX10_init_5 : decode cX10_init 5 = .ok (.new 9, 3) := by decide +kernel
theorem dX10_init_8 : decode cX10_init 8 = .ok (.dup, 1) := by decide +kernel
theorem dX10_init_9 : decode cX10_init 9 = .ok (.bipush 24, 2) := by decide +kernel
theorem dX10_init_11 : decode cX10_init 11 = .ok (.invokespecial 11, 3) := by decide +kernel
theorem dX10_init_14 : decode cX10_init 14 = .ok (.putfield 14, 3) := by decide +kernel
theorem dX10_init_17 : decode cX10_init 17 = .ok (.aload_n 0, 1) := by decide +kernel
theorem dX10_init_18 : decode cX10_init 18 = .ok (.bipush 40, 2) := by decide +kernel
theorem dX10_init_20 : decode cX10_init 20 = .ok (.newarray .int, 2) := by decide +kernel
theorem dX10_init_22 : decode cX10_init 22 = .ok (.putfield 20, 3) := by decide +kernel
theorem dX10_init_25 : decode cX10_init 25 = .ok (.return_, 1) := by decide +kernel
theorem dX11_init_0 : decode cX11_init 0 = .ok (.aload_n 0, 1) := by decide +kernel
theorem dX11_init_1 : decode cX11_init 1 = .ok (.invokespecial 3, 3) := by decide +kernel
theorem dX11_init_4 : decode cX11_init 4 = .ok (.aload_n 0, 1) := by decide +kernel
theorem dX11_init_5 : decode cX11_init 5 = .ok (.bipush 8, 2) := by decide +kernel
theorem dX11_init_7 : decode cX11_init 7 = .ok (.anewarray 9, 3) := by decide +kernel
theorem dX11_init_10 : decode cX11_init 10 = .ok (.putfield 11, 3) := by decide +kernel
theorem dX11_init_13 : decode cX11_init 13 = .ok (.iconst 0, 1) := by decide +kernel
theorem dX11_init_14 : decode cX11_init 14 = .ok (.istore_n 1, 1) := by decide +kernel
theorem dX11_init_15 : decode cX11_init 15 = .ok (.iload_n 1, 1) := by decide +kernel
theorem dX11_init_16 : decode cX11_init 16 = .ok (.bipush 8, 2) := by decide +kernel
theorem dX11_init_18 : decode cX11_init 18 = .ok (.if_icmp .ge 22, 3) := by decide +kernel
theorem dX11_init_21 : decode cX11_init 21 = .ok (.aload_n 0, 1) := by decide +kernel
theorem dX11_init_22 : decode cX11_init 22 = .ok (.getfield 11, 3) := by decide +kernel
theorem dX11_init_25 : decode cX11_init 25 = .ok (.iload_n 1, 1) := by decide +kernel
theorem dX11_init_26 : decode cX11_init 26 = .ok (.new 9, 3) := by decide +kernel
theorem dX11_init_29 : decode cX11_init 29 = .ok (.dup, 1) := by decide +kernel
theorem dX11_init_30 : decode cX11_init 30 = .ok (.invokespecial 15, 3) := by decide +kernel
theorem dX11_init_33 : decode cX11_init 33 = .ok (.aastore, 1) := by decide +kernel
theorem dX11_init_34 : decode cX11_init 34 = .ok (.iinc 1 1, 3) := by decide +kernel
theorem dX11_init_37 : decode cX11_init 37 = .ok (.goto (-22), 3) := by decide +kernel
theorem dX11_init_40 : decode cX11_init 40 = .ok (.aload_n 0, 1) := by decide +kernel
theorem dX11_init_41 : decode cX11_init 41 = .ok (.new 16, 3) := by decide +kernel
theorem dX11_init_44 : decode cX11_init 44 = .ok (.dup, 1) := by decide +kernel
theorem dX11_init_45 : decode cX11_init 45 = .ok (.invokespecial 18, 3) := by decide +kernel
theorem dX11_init_48 : decode cX11_init 48 = .ok (.putfield 19, 3) := by decide +kernel
theorem dX11_init_51 : decode cX11_init 51 = .ok (.aload_n 0, 1) := by decide +kernel
theorem dX11_init_52 : decode cX11_init 52 = .ok (.new 23, 3) := by decide +kernel
theorem dX11_init_55 : decode cX11_init 55 = .ok (.dup, 1) := by decide +kernel
theorem dX11_init_56 : decode cX11_init 56 = .ok (.invokespecial 25, 3) := by decide +kernel
theorem dX11_init_59 : decode cX11_init 59 = .ok (.putfield 26, 3) := by decide +kernel
theorem dX11_init_62 : decode cX11_init 62 = .ok (.aload_n 0, 1) := by decide +kernel
theorem dX11_init_63 : decode cX11_init 63 = .ok (.new 30, 3) := by decide +kernel
theorem dX11_init_66 : decode cX11_init 66 = .ok (.dup, 1) := by decide +kernel
theorem dX11_init_67 : decode cX11_init 67 = .ok (.invokespecial 32, 3) := by decide +kernel
theorem dX11_init_70 : decode cX11_init 70 = .ok (.putfield 33, 3) := by decide +kernel
theorem dX11_init_73 : decode cX11_init 73 = .ok (.aload_n 0, 1) := by decide +kernel
theorem dX11_init_74 : decode cX11_init 74 = .ok (.new 37, 3) := by decide +kernel
theorem dX11_init_77 : decode cX11_init 77 = .ok (.dup, 1) := by decide +kernel
theorem dX11_init_78 : decode cX11_init 78 = .ok (.invokespecial 39, 3) := by decide +kernel
theorem dX11_init_81 : decode cX11_init 81 = .ok (.putfield 40, 3) := by decide +kernel
theorem dX11_init_84 : decode cX11_init 84 = .ok (.aload_n 0, 1) := by decide +kernel
theorem dX11_init_85 : decode cX11_init 85 = .ok (.new 44, 3) := by decide +kernel
theorem dX11_init_88 : decode cX11_init 88 = .ok (.dup, 1) := by decide +kernel
theorem dX11_init_89 : decode cX11_init 89 = .ok (.invokespecial 46, 3) := by decide +kernel
theorem dX11_init_92 : decode cX11_init 92 = .ok (.putfield 47, 3) := by decide +kernel
theorem dX11_init_95 : decode cX11_init 95 = .ok (.aload_n 0, 1) := by decide +kernel
theorem dX11_init_96 : decode cX11_init 96 = .ok (.new 51, 3) := by decide +kernel
theorem dX11_init_99 : decode cX11_init 99 = .ok (.dup, 1) := by decide +kernel
theorem dX11_init_100 : decode cX11_init 100 = .ok (.invokespecial 53, 3) := by decide +kernel
theorem dX11_init_103 : decode cX11_init 103 = .ok (.putfield 54, 3) := by decide +kernel
theorem dX11_init_106 : decode cX11_init 106 = .ok (.return_, 1) := by decide +kernel
theorem dX11_clear_0 : decode cX11_clear 0 = .ok (.aload_n 0, 1) := by decide +kernel
theorem dX11_clear_1 : decode cX11_clear 1 = .ok (.iload_n 1, 1) := by decide +kernel
theorem dX11_clear_2 : decode cX11_clear 2 = .ok (.invokevirtual 58, 3) := by decide +kernel
theorem dX11_clear_5 : decode cX11_clear 5 = .ok (.astore_n 2, 1) := by decide +kernel
theorem dX11_clear_6 : decode cX11_clear 6 = .ok (.aload_n 2, 1) := by decide +kernel
theorem dX11_clear_7 : decode cX11_clear 7 = .ok (.ifnonnull 5, 3) := by decide +kernel
theorem dX11_clear_10 : decode cX11_clear 10 = .ok (.iconst (-1), 1) := by decide +kernel
theorem dX11_clear_11 : decode cX11_clear 11 = .ok (.ireturn, 1) := by decide +kernel
theorem dX11_clear_12 : decode cX11_clear 12 = .ok (.aload_n 2, 1) := by decide +kernel
theorem dX11_clear_13 : decode cX11_clear 13 = .ok (.getfield 62, 3) := by decide +kernel
theorem dX11_clear_16 : decode cX11_clear 16 = .ok (.getfield 66, 3) := by decide +kernel
theorem dX11_clear_19 : decode cX11_clear 19 = .ok (.istore_n 3, 1) := by decide +kernel
theorem dX11_clear_20 : decode cX11_clear 20 = .ok (.aload_n 0, 1) := by decide +kernel
theorem dX11_clear_21 : decode cX11_clear 21 = .ok (.getfield 19, 3) := by decide +kernel
theorem dX11_clear_24 : decode cX11_clear 24 = .ok (.invokevirtual 72, 3) := by decide +kernel
theorem dX11_clear_27 : decode cX11_clear 27 = .ok (.aload_n 0, 1) := by decide +kernel
theorem dX11_clear_28 : decode cX11_clear 28 = .ok (.getfield 19, 3) := by decide +kernel
theorem dX11_clear_31 : decode cX11_clear 31 = .ok (.invokevirtual 75, 3) := by decide +kernel
theorem dX11_clear_34 : decode cX11_clear 34 = .ok (.aload_n 0, 1) := by decide +kernel
theorem dX11_clear_35 : decode cX11_clear 35 = .ok (.aload_n 2, 1) := by decide +kernel
theorem dX11_clear_36 : decode cX11_clear 36 = .ok (.invokevirtual 78, 3) := by decide +kernel
theorem dX11_clear_39 : decode cX11_clear 39 = .ok (.iload_n 3, 1) := by decide +kernel
theorem dX11_clear_40 : decode cX11_clear 40 = .ok (.ireturn, 1) := by decide +kernel
theorem dX11_add_0 : decode cX11_add 0 = .ok (.aload_n 0, 1) := by decide +kernel
theorem dX11_add_1 : decode cX11_add 1 = .ok (.iload_n 1, 1) := by decide +kernel
theorem dX11_add_2 : decode cX11_add 2 = .ok (.invokevirtual 58, 3) := by decide +kernel
theorem dX11_add_5 : decode cX11_add 5 = .ok (.astore 4, 2) := by decide +kernel
theorem dX11_add_7 : decode cX11_add 7 = .ok (.aload 4, 2) := by decide +kernel
theorem dX11_add_9 : decode cX11_add 9 = .ok (.ifnull 17, 3) := by decide +kernel
theorem dX11_add_12 : decode cX11_add 12 = .ok (.iload_n 2, 1) := by decide +kernel
theorem dX11_add_13 : decode cX11_add 13 = .ok (.invokestatic 82, 3) := by decide +kernel
theorem dX11_add_16 : decode cX11_add 16 = .ok (.ifCond .eq 10, 3) := by decide +kernel
theorem dX11_add_19 : decode cX11_add 19 = .ok (.iload_n 3, 1) := by decide +kernel
theorem dX11_add_20 : decode cX11_add 20 = .ok (.invokestatic 82, 3) := by decide +kernel
theorem dX11_add_23 : decode cX11_add 23 = .ok (.ifCond .ne 5, 3) := by decide +kernel
theorem dX11_add_26 : decode cX11_add 26 = .ok (.iconst (-1), 1) := by decide +kernel
theorem dX11_add_27 : decode cX11_add 27 = .ok (.ireturn, 1) := by decide +kernel
theorem dX11_add_28 : decode cX11_add 28 = .ok (.aload_n 0, 1) := by decide +kernel
theorem dX11_add_29 : decode cX11_add 29 = .ok (.getfield 19, 3) := by decide +kernel
theorem dX11_add_32 : decode cX11_add 32 = .ok (.invokevirtual 72, 3) := by decide +kernel
theorem dX11_add_35 : decode cX11_add 35 = .ok (.aload_n 0, 1) := by decide +kernel
theorem dX11_add_36 : decode cX11_add 36 = .ok (.getfield 19, 3) := by decide +kernel
theorem dX11_add_39 : decode cX11_add 39 = .ok (.aload 4, 2) := by decide +kernel
theorem dX11_add_41 : decode cX11_add 41 = .ok (.getfield 62, 3) := by decide +kernel
theorem dX11_add_44 : decode cX11_add 44 = .ok (.invokevirtual 86, 3) := by decide +kernel
theorem dX11_add_47 : decode cX11_add 47 = .ok (.aload_n 0, 1) := by decide +kernel
theorem dX11_add_48 : decode cX11_add 48 = .ok (.getfield 19, 3) := by decide +kernel
theorem dX11_add_51 : decode cX11_add 51 = .ok (.iload_n 2, 1) := by decide +kernel
theorem dX11_add_52 : decode cX11_add 52 = .ok (.iload_n 3, 1) := by decide +kernel
theorem dX11_add_53 : decode cX11_add 53 = .ok (.invokevirtual 90, 3) := by decide +kernel
theorem dX11_add_56 : decode cX11_add 56 = .ok (.aload_n 0, 1) := by decide +kernel
theorem dX11_add_57 : decode cX11_add 57 = .ok (.getfield 19, 3) := by decide +kernel
theorem dX11_add_60 : decode cX11_add 60 = .ok (.invokevirtual 75, 3) := by decide +kernel
theorem dX11_add_63 : decode cX11_add 63 = .ok (.aload_n 0, 1) := by decide +kernel
theorem dX11_add_64 : decode cX11_add 64 = .ok (.aload 4, 2) := by decide +kernel
theorem dX11_add_66 : decode cX11_add 66 = .ok (.invokevirtual 94, 3) := by decide +kernel
theorem dX11_add_69 : decode cX11_add 69 = .ok (.ireturn, 1) := by decide +kernel
theorem dX11_corners_0 : decode cX11_corners 0 = .ok (.aload_n 0, 1) := by decide +kernel
theorem dX11_corners_1 : decode cX11_corners 1 = .ok (.iload_n 1, 1) := by decide +kernel
theorem dX11_corners_2 : decode cX11_corners 2 = .ok (.invokevirtual 58, 3) := by decide +kernel
theorem dX11_corners_5 : decode cX11_corners 5 = .ok (.astore_n 2, 1) := by decide +kernel
theorem dX11_corners_6 : decode cX11_corners 6 = .ok (.aload_n 2, 1) := by decide +kernel
theorem dX11_corners_7 : decode cX11_corners 7 = .ok (.ifnonnull 7, 3) := by decide +kernel
theorem dX11_corners_10 : decode cX11_corners 10 = .ok (.iconst (-1), 1) := by decide +kernel
theorem dX11_corners_11 : decode cX11_corners 11 = .ok (.goto 10, 3) := by decide +kernel
theorem dX11_corners_14 : decode cX11_corners 14 = .ok (.aload_n 2, 1) := by decide +kernel
theorem dX11_corners_15 : decode cX11_corners 15 = .ok (.getfield 62, 3) := by decide +kernel
theorem dX11_corners_18 : decode cX11_corners 18 = .ok (.getfield 66, 3) := by decide +kernel
theorem dX11_corners_21 : decode cX11_corners 21 = .ok (.ireturn, 1) := by decide +kernel
theorem dX11_corner_0 : decode cX11_corner 0 = .ok (.aload_n 0, 1) := by decide +kernel
theorem dX11_corner_1 : decode cX11_corner 1 = .ok (.iload_n 1, 1) := by decide +kernel
theorem dX11_corner_2 : decode cX11_corner 2 = .ok (.invokevirtual 58, 3) := by decide +kernel
theorem dX11_corner_5 : decode cX11_corner 5 = .ok (.astore 4, 2) := by decide +kernel
theorem dX11_corner_7 : decode cX11_corner 7 = .ok (.aload 4, 2) := by decide +kernel
theorem dX11_corner_9 : decode cX11_corner 9 = .ok (.ifnull 28, 3) := by decide +kernel
theorem dX11_corner_12 : decode cX11_corner 12 = .ok (.iload_n 2, 1) := by decide +kernel
theorem dX11_corner_13 : decode cX11_corner 13 = .ok (.ifCond .lt 24, 3) := by decide +kernel
theorem dX11_corner_16 : decode cX11_corner 16 = .ok (.iload_n 2, 1) := by decide +kernel
theorem dX11_corner_17 : decode cX11_corner 17 = .ok (.aload 4, 2) := by decide +kernel
theorem dX11_corner_19 : decode cX11_corner 19 = .ok (.getfield 62, 3) := by decide +kernel
theorem dX11_corner_22 : decode cX11_corner 22 = .ok (.getfield 66, 3) := by decide +kernel
theorem dX11_corner_25 : decode cX11_corner 25 = .ok (.if_icmp .ge 12, 3) := by decide +kernel
theorem dX11_corner_28 : decode cX11_corner 28 = .ok (.iload_n 3, 1) := by decide +kernel
theorem dX11_corner_29 : decode cX11_corner 29 = .ok (.ifCond .lt 8, 3) := by decide +kernel
theorem dX11_corner_32 : decode cX11_corner 32 = .ok (.iload_n 3, 1) := by decide +kernel
theorem dX11_corner_33 : decode cX11_corner 33 = .ok (.iconst 1, 1) := by decide +kernel
theorem dX11_corner_34 : decode cX11_corner 34 = .ok (.if_icmp .le 6, 3) := by decide +kernel
theorem dX11_corner_37 : decode cX11_corner 37 = .ok (.ldc 98, 2) := by decide +kernel
theorem dX11_corner_39 : decode cX11_corner 39 = .ok (.ireturn, 1) := by decide +kernel
theorem dX11_corner_40 : decode cX11_corner 40 = .ok (.iload_n 3, 1) := by decide +kernel
theorem dX11_corner_41 : decode cX11_corner 41 = .ok (.ifCond .ne 15, 3) := by decide +kernel
theorem dX11_corner_44 : decode cX11_corner 44 = .ok (.aload 4, 2) := by decide +kernel
theorem dX11_corner_46 : decode cX11_corner 46 = .ok (.getfield 62, 3) := by decide +kernel
theorem dX11_corner_49 : decode cX11_corner 49 = .ok (.iload_n 2, 1) := by decide +kernel
theorem dX11_corner_50 : decode cX11_corner 50 = .ok (.invokevirtual 99, 3) := by decide +kernel
theorem dX11_corner_53 : decode cX11_corner 53 = .ok (.goto 12, 3) := by decide +kernel
theorem dX11_corner_56 : decode cX11_corner 56 = .ok (.aload 4, 2) := by decide +kernel
theorem dX11_corner_58 : decode cX11_corner 58 = .ok (.getfield 62, 3) := by decide +kernel
theorem dX11_corner_61 : decode cX11_corner 61 = .ok (.iload_n 2, 1) := by decide +kernel
theorem dX11_corner_62 : decode cX11_corner 62 = .ok (.invokevirtual 103, 3) := by decide +kernel
theorem dX11_corner_65 : decode cX11_corner 65 = .ok (.ireturn, 1) := by decide +kernel
theorem dX11_points_0 : decode cX11_points 0 = .ok (.aload_n 0, 1) := by decide +kernel
theorem dX11_points_1 : decode cX11_points 1 = .ok (.iload_n 1, 1) := by decide +kernel
theorem dX11_points_2 : decode cX11_points 2 = .ok (.invokevirtual 58, 3) := by decide +kernel
theorem dX11_points_5 : decode cX11_points 5 = .ok (.astore_n 3, 1) := by decide +kernel
theorem dX11_points_6 : decode cX11_points 6 = .ok (.aload_n 3, 1) := by decide +kernel
theorem dX11_points_7 : decode cX11_points 7 = .ok (.ifnonnull 5, 3) := by decide +kernel
theorem dX11_points_10 : decode cX11_points 10 = .ok (.iconst (-1), 1) := by decide +kernel
theorem dX11_points_11 : decode cX11_points 11 = .ok (.ireturn, 1) := by decide +kernel
theorem dX11_points_12 : decode cX11_points 12 = .ok (.iload_n 2, 1) := by decide +kernel
theorem dX11_points_13 : decode cX11_points 13 = .ok (.tableswitch 63 0 3 #[31, 39, 47, 55], 31) := by decide +kernel
theorem dX11_points_44 : decode cX11_points 44 = .ok (.aload_n 3, 1) := by decide +kernel
theorem dX11_points_45 : decode cX11_points 45 = .ok (.getfield 62, 3) := by decide +kernel
theorem dX11_points_48 : decode cX11_points 48 = .ok (.invokevirtual 106, 3) := by decide +kernel
theorem dX11_points_51 : decode cX11_points 51 = .ok (.ireturn, 1) := by decide +kernel
theorem dX11_points_52 : decode cX11_points 52 = .ok (.aload_n 3, 1) := by decide +kernel
theorem dX11_points_53 : decode cX11_points 53 = .ok (.getfield 62, 3) := by decide +kernel
theorem dX11_points_56 : decode cX11_points 56 = .ok (.invokevirtual 110, 3) := by decide +kernel
theorem dX11_points_59 : decode cX11_points 59 = .ok (.ireturn, 1) := by decide +kernel
theorem dX11_points_60 : decode cX11_points 60 = .ok (.aload_n 3, 1) := by decide +kernel
theorem dX11_points_61 : decode cX11_points 61 = .ok (.getfield 62, 3) := by decide +kernel
theorem dX11_points_64 : decode cX11_points 64 = .ok (.invokevirtual 113, 3) := by decide +kernel
theorem dX11_points_67 : decode cX11_points 67 = .ok (.ireturn, 1) := by decide +kernel
theorem dX11_points_68 : decode cX11_points 68 = .ok (.aload_n 3, 1) := by decide +kernel
theorem dX11_points_69 : decode cX11_points 69 = .ok (.getfield 62, 3) := by decide +kernel
theorem dX11_points_72 : decode cX11_points 72 = .ok (.invokevirtual 116, 3) := by decide +kernel
theorem dX11_points_75 : decode cX11_points 75 = .ok (.ireturn, 1) := by decide +kernel
theorem dX11_points_76 : decode cX11_points 76 = .ok (.iconst (-1), 1) := by decide +kernel
theorem dX11_points_77 : decode cX11_points 77 = .ok (.ireturn, 1) := by decide +kernel
theorem dX11_times_0 : decode cX11_times 0 = .ok (.aload_n 0, 1) := by decide +kernel
theorem dX11_times_1 : decode cX11_times 1 = .ok (.iload_n 1, 1) := by decide +kernel
theorem dX11_times_2 : decode cX11_times 2 = .ok (.invokevirtual 58, 3) := by decide +kernel
theorem dX11_times_5 : decode cX11_times 5 = .ok (.astore 4, 2) := by decide +kernel
theorem dX11_times_7 : decode cX11_times 7 = .ok (.aload 4, 2) := by decide +kernel
theorem dX11_times_9 : decode cX11_times 9 = .ok (.ifnull 23, 3) := by decide +kernel
theorem dX11_times_12 : decode cX11_times 12 = .ok (.iload_n 2, 1) := by decide +kernel
theorem dX11_times_13 : decode cX11_times 13 = .ok (.ifCond .lt 19, 3) := by decide +kernel
theorem dX11_times_16 : decode cX11_times 16 = .ok (.iload_n 2, 1) := by decide +kernel
theorem dX11_times_17 : decode cX11_times 17 = .ok (.sipush 1000, 3) := by decide +kernel
theorem dX11_times_20 : decode cX11_times 20 = .ok (.if_icmp .gt 12, 3) := by decide +kernel
theorem dX11_times_23 : decode cX11_times 23 = .ok (.iload_n 3, 1) := by decide +kernel
theorem dX11_times_24 : decode cX11_times 24 = .ok (.ifCond .lt 8, 3) := by decide +kernel
theorem dX11_times_27 : decode cX11_times 27 = .ok (.iload_n 3, 1) := by decide +kernel
theorem dX11_times_28 : decode cX11_times 28 = .ok (.iconst 1, 1) := by decide +kernel
theorem dX11_times_29 : decode cX11_times 29 = .ok (.if_icmp .le 7, 3) := by decide +kernel
theorem dX11_times_32 : decode cX11_times 32 = .ok (.ldc2_w 119, 3) := by decide +kernel
theorem dX11_times_35 : decode cX11_times 35 = .ok (.lreturn, 1) := by decide +kernel
theorem dX11_times_36 : decode cX11_times 36 = .ok (.iload_n 3, 1) := by decide +kernel
theorem dX11_times_37 : decode cX11_times 37 = .ok (.ifCond .ne 13, 3) := by decide +kernel
theorem dX11_times_40 : decode cX11_times 40 = .ok (.aload 4, 2) := by decide +kernel
theorem dX11_times_42 : decode cX11_times 42 = .ok (.getfield 62, 3) := by decide +kernel
theorem dX11_times_45 : decode cX11_times 45 = .ok (.iload_n 2, 1) := by decide +kernel
theorem dX11_times_46 : decode cX11_times 46 = .ok (.invokevirtual 121, 3) := by decide +kernel
theorem dX11_times_49 : decode cX11_times 49 = .ok (.lreturn, 1) := by decide +kernel
theorem dX11_times_50 : decode cX11_times 50 = .ok (.aload 4, 2) := by decide +kernel
theorem dX11_times_52 : decode cX11_times 52 = .ok (.getfield 62, 3) := by decide +kernel
theorem dX11_times_55 : decode cX11_times 55 = .ok (.invokevirtual 125, 3) := by decide +kernel
theorem dX11_times_58 : decode cX11_times 58 = .ok (.ifCond .eq 15, 3) := by decide +kernel
theorem dX11_times_61 : decode cX11_times 61 = .ok (.aload 4, 2) := by decide +kernel
theorem dX11_times_63 : decode cX11_times 63 = .ok (.getfield 62, 3) := by decide +kernel
theorem dX11_times_66 : decode cX11_times 66 = .ok (.iload_n 2, 1) := by decide +kernel
theorem dX11_times_67 : decode cX11_times 67 = .ok (.invokevirtual 129, 3) := by decide +kernel
theorem dX11_times_70 : decode cX11_times 70 = .ok (.goto 6, 3) := by decide +kernel
theorem dX11_times_73 : decode cX11_times 73 = .ok (.ldc2_w 132, 3) := by decide +kernel
theorem dX11_times_76 : decode cX11_times 76 = .ok (.lreturn, 1) := by decide +kernel
theorem dX11_where_0 : decode cX11_where 0 = .ok (.aload_n 0, 1) := by decide +kernel
theorem dX11_where_1 : decode cX11_where 1 = .ok (.iload_n 1, 1) := by decide +kernel
theorem dX11_where_2 : decode cX11_where 2 = .ok (.invokevirtual 58, 3) := by decide +kernel
theorem dX11_where_5 : decode cX11_where 5 = .ok (.astore 4, 2) := by decide +kernel
theorem dX11_where_7 : decode cX11_where 7 = .ok (.aload 4, 2) := by decide +kernel
theorem dX11_where_9 : decode cX11_where 9 = .ok (.ifnull 17, 3) := by decide +kernel
theorem dX11_where_12 : decode cX11_where 12 = .ok (.iload_n 2, 1) := by decide +kernel
theorem dX11_where_13 : decode cX11_where 13 = .ok (.invokestatic 82, 3) := by decide +kernel
theorem dX11_where_16 : decode cX11_where 16 = .ok (.ifCond .eq 10, 3) := by decide +kernel
theorem dX11_where_19 : decode cX11_where 19 = .ok (.iload_n 3, 1) := by decide +kernel
theorem dX11_where_20 : decode cX11_where 20 = .ok (.invokestatic 82, 3) := by decide +kernel
theorem dX11_where_23 : decode cX11_where 23 = .ok (.ifCond .ne 5, 3) := by decide +kernel
theorem dX11_where_26 : decode cX11_where 26 = .ok (.iconst (-1), 1) := by decide +kernel
theorem dX11_where_27 : decode cX11_where 27 = .ok (.ireturn, 1) := by decide +kernel
theorem dX11_where_28 : decode cX11_where 28 = .ok (.aload 4, 2) := by decide +kernel
theorem dX11_where_30 : decode cX11_where 30 = .ok (.getfield 62, 3) := by decide +kernel
theorem dX11_where_33 : decode cX11_where 33 = .ok (.iload_n 2, 1) := by decide +kernel
theorem dX11_where_34 : decode cX11_where 34 = .ok (.iload_n 3, 1) := by decide +kernel
theorem dX11_where_35 : decode cX11_where 35 = .ok (.invokevirtual 134, 3) := by decide +kernel
theorem dX11_where_38 : decode cX11_where 38 = .ok (.ireturn, 1) := by decide +kernel
theorem dX11_point_0 : decode cX11_point 0 = .ok (.aload_n 0, 1) := by decide +kernel
theorem dX11_point_1 : decode cX11_point 1 = .ok (.iload_n 1, 1) := by decide +kernel
theorem dX11_point_2 : decode cX11_point 2 = .ok (.invokevirtual 58, 3) := by decide +kernel
theorem dX11_point_5 : decode cX11_point 5 = .ok (.astore 4, 2) := by decide +kernel
theorem dX11_point_7 : decode cX11_point 7 = .ok (.aload 4, 2) := by decide +kernel
theorem dX11_point_9 : decode cX11_point 9 = .ok (.ifnull 16, 3) := by decide +kernel
theorem dX11_point_12 : decode cX11_point 12 = .ok (.iload_n 2, 1) := by decide +kernel
theorem dX11_point_13 : decode cX11_point 13 = .ok (.ifCond .lt 12, 3) := by decide +kernel
theorem dX11_point_16 : decode cX11_point 16 = .ok (.iload_n 3, 1) := by decide +kernel
theorem dX11_point_17 : decode cX11_point 17 = .ok (.ifCond .lt 8, 3) := by decide +kernel
theorem dX11_point_20 : decode cX11_point 20 = .ok (.iload_n 3, 1) := by decide +kernel
theorem dX11_point_21 : decode cX11_point 21 = .ok (.iconst 1, 1) := by decide +kernel
theorem dX11_point_22 : decode cX11_point 22 = .ok (.if_icmp .le 6, 3) := by decide +kernel
theorem dX11_point_25 : decode cX11_point 25 = .ok (.ldc 98, 2) := by decide +kernel
theorem dX11_point_27 : decode cX11_point 27 = .ok (.ireturn, 1) := by decide +kernel
theorem dX11_point_28 : decode cX11_point 28 = .ok (.aload 4, 2) := by decide +kernel
theorem dX11_point_30 : decode cX11_point 30 = .ok (.getfield 62, 3) := by decide +kernel
theorem dX11_point_33 : decode cX11_point 33 = .ok (.iload_n 2, 1) := by decide +kernel
theorem dX11_point_34 : decode cX11_point 34 = .ok (.iload_n 3, 1) := by decide +kernel
theorem dX11_point_35 : decode cX11_point 35 = .ok (.invokevirtual 138, 3) := by decide +kernel
theorem dX11_point_38 : decode cX11_point 38 = .ok (.ireturn, 1) := by decide +kernel
theorem dX11_width_0 : decode cX11_width 0 = .ok (.aload_n 0, 1) := by decide +kernel
theorem dX11_width_1 : decode cX11_width 1 = .ok (.iload_n 1, 1) := by decide +kernel
theorem dX11_width_2 : decode cX11_width 2 = .ok (.invokevirtual 58, 3) := by decide +kernel
theorem dX11_width_5 : decode cX11_width 5 = .ok (.astore 4, 2) := by decide +kernel
theorem dX11_width_7 : decode cX11_width 7 = .ok (.aload 4, 2) := by decide +kernel
theorem dX11_width_9 : decode cX11_width 9 = .ok (.ifnull 11, 3) := by decide +kernel
theorem dX11_width_12 : decode cX11_width 12 = .ok (.iload_n 2, 1) := by decide +kernel
theorem dX11_width_13 : decode cX11_width 13 = .ok (.iload_n 3, 1) := by decide +kernel
theorem dX11_width_14 : decode cX11_width 14 = .ok (.invokestatic 141, 3) := by decide +kernel
theorem dX11_width_17 : decode cX11_width 17 = .ok (.ifCond .ne 5, 3) := by decide +kernel
theorem dX11_width_20 : decode cX11_width 20 = .ok (.iconst (-1), 1) := by decide +kernel
theorem dX11_width_21 : decode cX11_width 21 = .ok (.ireturn, 1) := by decide +kernel
theorem dX11_width_22 : decode cX11_width 22 = .ok (.aload 4, 2) := by decide +kernel
theorem dX11_width_24 : decode cX11_width 24 = .ok (.getfield 62, 3) := by decide +kernel
theorem dX11_width_27 : decode cX11_width 27 = .ok (.getfield 66, 3) := by decide +kernel
theorem dX11_width_30 : decode cX11_width 30 = .ok (.ifCond .ne 8, 3) := by decide +kernel
theorem dX11_width_33 : decode cX11_width 33 = .ok (.bipush (-2), 2) := by decide +kernel
theorem dX11_width_35 : decode cX11_width 35 = .ok (.goto 13, 3) := by decide +kernel
theorem dX11_width_38 : decode cX11_width 38 = .ok (.aload 4, 2) := by decide +kernel
theorem dX11_width_40 : decode cX11_width 40 = .ok (.getfield 62, 3) := by decide +kernel
theorem dX11_width_43 : decode cX11_width 43 = .ok (.iload_n 2, 1) := by decide +kernel
theorem dX11_width_44 : decode cX11_width 44 = .ok (.iload_n 3, 1) := by decide +kernel
theorem dX11_width_45 : decode cX11_width 45 = .ok (.invokevirtual 145, 3) := by decide +kernel
theorem dX11_width_48 : decode cX11_width 48 = .ok (.ireturn, 1) := by decide +kernel
theorem dX11_least_0 : decode cX11_least 0 = .ok (.aload_n 0, 1) := by decide +kernel
theorem dX11_least_1 : decode cX11_least 1 = .ok (.iload_n 1, 1) := by decide +kernel
theorem dX11_least_2 : decode cX11_least 2 = .ok (.invokevirtual 58, 3) := by decide +kernel
theorem dX11_least_5 : decode cX11_least 5 = .ok (.astore_n 3, 1) := by decide +kernel
theorem dX11_least_6 : decode cX11_least 6 = .ok (.aload_n 3, 1) := by decide +kernel
theorem dX11_least_7 : decode cX11_least 7 = .ok (.ifnull 22, 3) := by decide +kernel
theorem dX11_least_10 : decode cX11_least 10 = .ok (.iload_n 2, 1) := by decide +kernel
theorem dX11_least_11 : decode cX11_least 11 = .ok (.ifCond .lt 18, 3) := by decide +kernel
theorem dX11_least_14 : decode cX11_least 14 = .ok (.iload_n 2, 1) := by decide +kernel
theorem dX11_least_15 : decode cX11_least 15 = .ok (.iconst 2, 1) := by decide +kernel
theorem dX11_least_16 : decode cX11_least 16 = .ok (.if_icmp .gt 13, 3) := by decide +kernel
theorem dX11_least_19 : decode cX11_least 19 = .ok (.aload_n 3, 1) := by decide +kernel
theorem dX11_least_20 : decode cX11_least 20 = .ok (.getfield 62, 3) := by decide +kernel
theorem dX11_least_23 : decode cX11_least 23 = .ok (.invokevirtual 125, 3) := by decide +kernel
theorem dX11_least_26 : decode cX11_least 26 = .ok (.ifCond .ne 6, 3) := by decide +kernel
theorem dX11_least_29 : decode cX11_least 29 = .ok (.ldc 98, 2) := by decide +kernel
theorem dX11_least_31 : decode cX11_least 31 = .ok (.ireturn, 1) := by decide +kernel
theorem dX11_least_32 : decode cX11_least 32 = .ok (.aload_n 0, 1) := by decide +kernel
theorem dX11_least_33 : decode cX11_least 33 = .ok (.getfield 26, 3) := by decide +kernel
theorem dX11_least_36 : decode cX11_least 36 = .ok (.aload_n 3, 1) := by decide +kernel
theorem dX11_least_37 : decode cX11_least 37 = .ok (.getfield 62, 3) := by decide +kernel
theorem dX11_least_40 : decode cX11_least 40 = .ok (.invokevirtual 148, 3) := by decide +kernel
theorem dX11_least_43 : decode cX11_least 43 = .ok (.iload_n 2, 1) := by decide +kernel
theorem dX11_least_44 : decode cX11_least 44 = .ok (.ifCond .ne 11, 3) := by decide +kernel
theorem dX11_least_47 : decode cX11_least 47 = .ok (.aload_n 0, 1) := by decide +kernel
theorem dX11_least_48 : decode cX11_least 48 = .ok (.getfield 26, 3) := by decide +kernel
theorem dX11_least_51 : decode cX11_least 51 = .ok (.getfield 151, 3) := by decide +kernel
theorem dX11_least_54 : decode cX11_least 54 = .ok (.ireturn, 1) := by decide +kernel
theorem dX11_least_55 : decode cX11_least 55 = .ok (.iload_n 2, 1) := by decide +kernel
theorem dX11_least_56 : decode cX11_least 56 = .ok (.iconst 1, 1) := by decide +kernel
theorem dX11_least_57 : decode cX11_least 57 = .ok (.if_icmp .ne 13, 3) := by decide +kernel
theorem dX11_least_60 : decode cX11_least 60 = .ok (.aload_n 0, 1) := by decide +kernel
theorem dX11_least_61 : decode cX11_least 61 = .ok (.getfield 26, 3) := by decide +kernel
theorem dX11_least_64 : decode cX11_least 64 = .ok (.getfield 153, 3) := by decide +kernel
theorem dX11_least_67 : decode cX11_least 67 = .ok (.goto 10, 3) := by decide +kernel
theorem dX11_least_70 : decode cX11_least 70 = .ok (.aload_n 0, 1) := by decide +kernel
theorem dX11_least_71 : decode cX11_least 71 = .ok (.getfield 26, 3) := by decide +kernel
theorem dX11_least_74 : decode cX11_least 74 = .ok (.getfield 156, 3) := by decide +kernel
theorem dX11_least_77 : decode cX11_least 77 = .ok (.ireturn, 1) := by decide +kernel
theorem dX11_map_0 : decode cX11_map 0 = .ok (.aload_n 0, 1) := by decide +kernel
theorem dX11_map_1 : decode cX11_map 1 = .ok (.iload_n 1, 1) := by decide +kernel
theorem dX11_map_2 : decode cX11_map 2 = .ok (.invokevirtual 58, 3) := by decide +kernel
theorem dX11_map_5 : decode cX11_map 5 = .ok (.astore 9, 2) := by decide +kernel
theorem dX11_map_7 : decode cX11_map 7 = .ok (.aload_n 0, 1) := by decide +kernel
theorem dX11_map_8 : decode cX11_map 8 = .ok (.iload_n 2, 1) := by decide +kernel
theorem dX11_map_9 : decode cX11_map 9 = .ok (.invokevirtual 58, 3) := by decide +kernel
theorem dX11_map_12 : decode cX11_map 12 = .ok (.astore 10, 2) := by decide +kernel
theorem dX11_map_14 : decode cX11_map 14 = .ok (.iload_n 3, 1) := by decide +kernel
theorem dX11_map_15 : decode cX11_map 15 = .ok (.invokestatic 82, 3) := by decide +kernel
theorem dX11_map_18 : decode cX11_map 18 = .ok (.ifCond .eq 47, 3) := by decide +kernel
theorem dX11_map_21 : decode cX11_map 21 = .ok (.iload 4, 2) := by decide +kernel
theorem dX11_map_23 : decode cX11_map 23 = .ok (.invokestatic 82, 3) := by decide +kernel
theorem dX11_map_26 : decode cX11_map 26 = .ok (.ifCond .eq 39, 3) := by decide +kernel
theorem dX11_map_29 : decode cX11_map 29 = .ok (.iload 5, 2) := by decide +kernel
theorem dX11_map_31 : decode cX11_map 31 = .ok (.invokestatic 82, 3) := by decide +kernel
theorem dX11_map_34 : decode cX11_map 34 = .ok (.ifCond .eq 31, 3) := by decide +kernel
theorem dX11_map_37 : decode cX11_map 37 = .ok (.iload 6, 2) := by decide +kernel
theorem dX11_map_39 : decode cX11_map 39 = .ok (.invokestatic 82, 3) := by decide +kernel
theorem dX11_map_42 : decode cX11_map 42 = .ok (.ifCond .eq 23, 3) := by decide +kernel
theorem dX11_map_45 : decode cX11_map 45 = .ok (.iload 7, 2) := by decide +kernel
theorem dX11_map_47 : decode cX11_map 47 = .ok (.invokestatic 82, 3) := by decide +kernel
theorem dX11_map_50 : decode cX11_map 50 = .ok (.ifCond .eq 15, 3) := by decide +kernel
theorem dX11_map_53 : decode cX11_map 53 = .ok (.iload 8, 2) := by decide +kernel
theorem dX11_map_55 : decode cX11_map 55 = .ok (.invokestatic 82, 3) := by decide +kernel
theorem dX11_map_58 : decode cX11_map 58 = .ok (.ifCond .eq 7, 3) := by decide +kernel
theorem dX11_map_61 : decode cX11_map 61 = .ok (.iconst 1, 1) := by decide +kernel
theorem dX11_map_62 : decode cX11_map 62 = .ok (.goto 4, 3) := by decide +kernel
theorem dX11_map_65 : decode cX11_map 65 = .ok (.iconst 0, 1) := by decide +kernel
theorem dX11_map_66 : decode cX11_map 66 = .ok (.istore 11, 2) := by decide +kernel
theorem dX11_map_68 : decode cX11_map 68 = .ok (.aload 9, 2) := by decide +kernel
theorem dX11_map_70 : decode cX11_map 70 = .ok (.ifnull 13, 3) := by decide +kernel
theorem dX11_map_73 : decode cX11_map 73 = .ok (.aload 10, 2) := by decide +kernel
theorem dX11_map_75 : decode cX11_map 75 = .ok (.ifnull 8, 3) := by decide +kernel
theorem dX11_map_78 : decode cX11_map 78 = .ok (.iload 11, 2) := by decide +kernel
theorem dX11_map_80 : decode cX11_map 80 = .ok (.ifCond .ne 5, 3) := by decide +kernel
theorem dX11_map_83 : decode cX11_map 83 = .ok (.iconst (-1), 1) := by decide +kernel
theorem dX11_map_84 : decode cX11_map 84 = .ok (.ireturn, 1) := by decide +kernel
theorem dX11_map_85 : decode cX11_map 85 = .ok (.iload_n 3, 1) := by decide +kernel
theorem dX11_map_86 : decode cX11_map 86 = .ok (.iload 6, 2) := by decide +kernel
theorem dX11_map_88 : decode cX11_map 88 = .ok (.imul, 1) := by decide +kernel
theorem dX11_map_89 : decode cX11_map 89 = .ok (.iload 4, 2) := by decide +kernel
theorem dX11_map_91 : decode cX11_map 91 = .ok (.iload 5, 2) := by decide +kernel
theorem dX11_map_93 : decode cX11_map 93 = .ok (.imul, 1) := by decide +kernel
theorem dX11_map_94 : decode cX11_map 94 = .ok (.isub, 1) := by decide +kernel
theorem dX11_map_95 : decode cX11_map 95 = .ok (.istore 12, 2) := by decide +kernel
theorem dX11_map_97 : decode cX11_map 97 = .ok (.iload 12, 2) := by decide +kernel
theorem dX11_map_99 : decode cX11_map 99 = .ok (.iconst 1, 1) := by decide +kernel
theorem dX11_map_100 : decode cX11_map 100 = .ok (.if_icmp .eq 12, 3) := by decide +kernel
theorem dX11_map_103 : decode cX11_map 103 = .ok (.iload 12, 2) := by decide +kernel
theorem dX11_map_105 : decode cX11_map 105 = .ok (.iconst (-1), 1) := by decide +kernel
theorem dX11_map_106 : decode cX11_map 106 = .ok (.if_icmp .eq 6, 3) := by decide +kernel
theorem dX11_map_109 : decode cX11_map 109 = .ok (.bipush (-2), 2) := by decide +kernel
theorem dX11_map_111 : decode cX11_map 111 = .ok (.ireturn, 1) := by decide +kernel
theorem dX11_map_112 : decode cX11_map 112 = .ok (.aload_n 0, 1) := by decide +kernel
theorem dX11_map_113 : decode cX11_map 113 = .ok (.getfield 19, 3) := by decide +kernel
theorem dX11_map_116 : decode cX11_map 116 = .ok (.invokevirtual 72, 3) := by decide +kernel
theorem dX11_map_119 : decode cX11_map 119 = .ok (.iconst 0, 1) := by decide +kernel
theorem dX11_map_120 : decode cX11_map 120 = .ok (.istore 13, 2) := by decide +kernel
theorem dX11_map_122 : decode cX11_map 122 = .ok (.iload 13, 2) := by decide +kernel
theorem dX11_map_124 : decode cX11_map 124 = .ok (.aload 9, 2) := by decide +kernel
theorem dX11_map_126 : decode cX11_map 126 = .ok (.getfield 62, 3) := by decide +kernel
theorem dX11_map_129 : decode cX11_map 129 = .ok (.getfield 66, 3) := by decide +kernel
theorem dX11_map_132 : decode cX11_map 132 = .ok (.if_icmp .ge 102, 3) := by decide +kernel
theorem dX11_map_135 : decode cX11_map 135 = .ok (.iload_n 3, 1) := by decide +kernel
theorem dX11_map_136 : decode cX11_map 136 = .ok (.aload 9, 2) := by decide +kernel
theorem dX11_map_138 : decode cX11_map 138 = .ok (.getfield 62, 3) := by decide +kernel
theorem dX11_map_141 : decode cX11_map 141 = .ok (.iload 13, 2) := by decide +kernel
theorem dX11_map_143 : decode cX11_map 143 = .ok (.invokevirtual 99, 3) := by decide +kernel
theorem dX11_map_146 : decode cX11_map 146 = .ok (.imul, 1) := by decide +kernel
theorem dX11_map_147 : decode cX11_map 147 = .ok (.iload 4, 2) := by decide +kernel
theorem dX11_map_149 : decode cX11_map 149 = .ok (.aload 9, 2) := by decide +kernel
theorem dX11_map_151 : decode cX11_map 151 = .ok (.getfield 62, 3) := by decide +kernel
theorem dX11_map_154 : decode cX11_map 154 = .ok (.iload 13, 2) := by decide +kernel
theorem dX11_map_156 : decode cX11_map 156 = .ok (.invokevirtual 103, 3) := by decide +kernel
theorem dX11_map_159 : decode cX11_map 159 = .ok (.imul, 1) := by decide +kernel
theorem dX11_map_160 : decode cX11_map 160 = .ok (.iadd, 1) := by decide +kernel
theorem dX11_map_161 : decode cX11_map 161 = .ok (.iload 7, 2) := by decide +kernel
theorem dX11_map_163 : decode cX11_map 163 = .ok (.iadd, 1) := by decide +kernel
theorem dX11_map_164 : decode cX11_map 164 = .ok (.istore 14, 2) := by decide +kernel
theorem dX11_map_166 : decode cX11_map 166 = .ok (.iload 5, 2) := by decide +kernel
theorem dX11_map_168 : decode cX11_map 168 = .ok (.aload 9, 2) := by decide +kernel
theorem dX11_map_170 : decode cX11_map 170 = .ok (.getfield 62, 3) := by decide +kernel
theorem dX11_map_173 : decode cX11_map 173 = .ok (.iload 13, 2) := by decide +kernel
theorem dX11_map_175 : decode cX11_map 175 = .ok (.invokevirtual 99, 3) := by decide +kernel
theorem dX11_map_178 : decode cX11_map 178 = .ok (.imul, 1) := by decide +kernel
theorem dX11_map_179 : decode cX11_map 179 = .ok (.iload 6, 2) := by decide +kernel
theorem dX11_map_181 : decode cX11_map 181 = .ok (.aload 9, 2) := by decide +kernel
theorem dX11_map_183 : decode cX11_map 183 = .ok (.getfield 62, 3) := by decide +kernel
theorem dX11_map_186 : decode cX11_map 186 = .ok (.iload 13, 2) := by decide +kernel
theorem dX11_map_188 : decode cX11_map 188 = .ok (.invokevirtual 103, 3) := by decide +kernel
theorem dX11_map_191 : decode cX11_map 191 = .ok (.imul, 1) := by decide +kernel
theorem dX11_map_192 : decode cX11_map 192 = .ok (.iadd, 1) := by decide +kernel
theorem dX11_map_193 : decode cX11_map 193 = .ok (.iload 8, 2) := by decide +kernel
theorem dX11_map_195 : decode cX11_map 195 = .ok (.iadd, 1) := by decide +kernel
theorem dX11_map_196 : decode cX11_map 196 = .ok (.istore 15, 2) := by decide +kernel
theorem dX11_map_198 : decode cX11_map 198 = .ok (.iload 14, 2) := by decide +kernel
theorem dX11_map_200 : decode cX11_map 200 = .ok (.invokestatic 82, 3) := by decide +kernel
theorem dX11_map_203 : decode cX11_map 203 = .ok (.ifCond .eq 11, 3) := by decide +kernel
theorem dX11_map_206 : decode cX11_map 206 = .ok (.iload 15, 2) := by decide +kernel
theorem dX11_map_208 : decode cX11_map 208 = .ok (.invokestatic 82, 3) := by decide +kernel
theorem dX11_map_211 : decode cX11_map 211 = .ok (.ifCond .ne 6, 3) := by decide +kernel
theorem dX11_map_214 : decode cX11_map 214 = .ok (.bipush (-3), 2) := by decide +kernel
theorem dX11_map_216 : decode cX11_map 216 = .ok (.ireturn, 1) := by decide +kernel
theorem dX11_map_217 : decode cX11_map 217 = .ok (.aload_n 0, 1) := by decide +kernel
theorem dX11_map_218 : decode cX11_map 218 = .ok (.getfield 19, 3) := by decide +kernel
theorem dX11_map_221 : decode cX11_map 221 = .ok (.iload 14, 2) := by decide +kernel
theorem dX11_map_223 : decode cX11_map 223 = .ok (.iload 15, 2) := by decide +kernel
theorem dX11_map_225 : decode cX11_map 225 = .ok (.invokevirtual 90, 3) := by decide +kernel
theorem dX11_map_228 : decode cX11_map 228 = .ok (.iinc 13 1, 3) := by decide +kernel
theorem dX11_map_231 : decode cX11_map 231 = .ok (.goto (-109), 3) := by decide +kernel
theorem dX11_map_234 : decode cX11_map 234 = .ok (.aload_n 0, 1) := by decide +kernel
theorem dX11_map_235 : decode cX11_map 235 = .ok (.getfield 19, 3) := by decide +kernel
theorem dX11_map_238 : decode cX11_map 238 = .ok (.invokevirtual 75, 3) := by decide +kernel
theorem dX11_map_241 : decode cX11_map 241 = .ok (.aload_n 0, 1) := by decide +kernel
theorem dX11_map_242 : decode cX11_map 242 = .ok (.aload 10, 2) := by decide +kernel
theorem dX11_map_244 : decode cX11_map 244 = .ok (.invokevirtual 94, 3) := by decide +kernel
theorem dX11_map_247 : decode cX11_map 247 = .ok (.ireturn, 1) := by decide +kernel
theorem dX11_maps_0 : decode cX11_maps 0 = .ok (.aload_n 0, 1) := by decide +kernel
theorem dX11_maps_1 : decode cX11_maps 1 = .ok (.iload_n 1, 1) := by decide +kernel
theorem dX11_maps_2 : decode cX11_maps 2 = .ok (.invokevirtual 58, 3) := by decide +kernel
theorem dX11_maps_5 : decode cX11_maps 5 = .ok (.astore_n 3, 1) := by decide +kernel
theorem dX11_maps_6 : decode cX11_maps 6 = .ok (.aload_n 0, 1) := by decide +kernel
theorem dX11_maps_7 : decode cX11_maps 7 = .ok (.iload_n 2, 1) := by decide +kernel
theorem dX11_maps_8 : decode cX11_maps 8 = .ok (.invokevirtual 58, 3) := by decide +kernel
theorem dX11_maps_11 : decode cX11_maps 11 = .ok (.astore 4, 2) := by decide +kernel
theorem dX11_maps_13 : decode cX11_maps 13 = .ok (.aload_n 3, 1) := by decide +kernel
theorem dX11_maps_14 : decode cX11_maps 14 = .ok (.ifnull 8, 3) := by decide +kernel
theorem dX11_maps_17 : decode cX11_maps 17 = .ok (.aload 4, 2) := by decide +kernel
theorem dX11_maps_19 : decode cX11_maps 19 = .ok (.ifnonnull 5, 3) := by decide +kernel
theorem dX11_maps_22 : decode cX11_maps 22 = .ok (.iconst (-1), 1) := by decide +kernel
theorem dX11_maps_23 : decode cX11_maps 23 = .ok (.ireturn, 1) := by decide +kernel
theorem dX11_maps_24 : decode cX11_maps 24 = .ok (.aload_n 3, 1) := by decide +kernel
theorem dX11_maps_25 : decode cX11_maps 25 = .ok (.getfield 62, 3) := by decide +kernel
theorem dX11_maps_28 : decode cX11_maps 28 = .ok (.invokevirtual 125, 3) := by decide +kernel
theorem dX11_maps_31 : decode cX11_maps 31 = .ok (.ifCond .eq 14, 3) := by decide +kernel
theorem dX11_maps_34 : decode cX11_maps 34 = .ok (.aload 4, 2) := by decide +kernel
theorem dX11_maps_36 : decode cX11_maps 36 = .ok (.getfield 62, 3) := by decide +kernel
theorem dX11_maps_39 : decode cX11_maps 39 = .ok (.invokevirtual 125, 3) := by decide +kernel
theorem dX11_maps_42 : decode cX11_maps 42 = .ok (.ifCond .ne 6, 3) := by decide +kernel
theorem dX11_maps_45 : decode cX11_maps 45 = .ok (.bipush (-2), 2) := by decide +kernel
theorem dX11_maps_47 : decode cX11_maps 47 = .ok (.ireturn, 1) := by decide +kernel
theorem dX11_maps_48 : decode cX11_maps 48 = .ok (.aload_n 3, 1) := by decide +kernel
theorem dX11_maps_49 : decode cX11_maps 49 = .ok (.getfield 62, 3) := by decide +kernel
theorem dX11_maps_52 : decode cX11_maps 52 = .ok (.aload 4, 2) := by decide +kernel
theorem dX11_maps_54 : decode cX11_maps 54 = .ok (.getfield 62, 3) := by decide +kernel
theorem dX11_maps_57 : decode cX11_maps 57 = .ok (.invokestatic 159, 3) := by decide +kernel
theorem dX11_maps_60 : decode cX11_maps 60 = .ok (.ireturn, 1) := by decide +kernel
theorem dX11_alike_0 : decode cX11_alike 0 = .ok (.aload_n 0, 1) := by decide +kernel
theorem dX11_alike_1 : decode cX11_alike 1 = .ok (.iload_n 1, 1) := by decide +kernel
theorem dX11_alike_2 : decode cX11_alike 2 = .ok (.invokevirtual 58, 3) := by decide +kernel
theorem dX11_alike_5 : decode cX11_alike 5 = .ok (.astore_n 3, 1) := by decide +kernel
theorem dX11_alike_6 : decode cX11_alike 6 = .ok (.aload_n 0, 1) := by decide +kernel
theorem dX11_alike_7 : decode cX11_alike 7 = .ok (.iload_n 2, 1) := by decide +kernel
theorem dX11_alike_8 : decode cX11_alike 8 = .ok (.invokevirtual 58, 3) := by decide +kernel
theorem dX11_alike_11 : decode cX11_alike 11 = .ok (.astore 4, 2) := by decide +kernel
theorem dX11_alike_13 : decode cX11_alike 13 = .ok (.aload_n 3, 1) := by decide +kernel
theorem dX11_alike_14 : decode cX11_alike 14 = .ok (.ifnull 8, 3) := by decide +kernel
theorem dX11_alike_17 : decode cX11_alike 17 = .ok (.aload 4, 2) := by decide +kernel
theorem dX11_alike_19 : decode cX11_alike 19 = .ok (.ifnonnull 5, 3) := by decide +kernel
theorem dX11_alike_22 : decode cX11_alike 22 = .ok (.iconst (-1), 1) := by decide +kernel
theorem dX11_alike_23 : decode cX11_alike 23 = .ok (.ireturn, 1) := by decide +kernel
theorem dX11_alike_24 : decode cX11_alike 24 = .ok (.aload_n 3, 1) := by decide +kernel
theorem dX11_alike_25 : decode cX11_alike 25 = .ok (.getfield 62, 3) := by decide +kernel
theorem dX11_alike_28 : decode cX11_alike 28 = .ok (.aload 4, 2) := by decide +kernel
theorem dX11_alike_30 : decode cX11_alike 30 = .ok (.getfield 62, 3) := by decide +kernel
theorem dX11_alike_33 : decode cX11_alike 33 = .ok (.invokestatic 163, 3) := by decide +kernel
theorem dX11_alike_36 : decode cX11_alike 36 = .ok (.ifCond .eq 7, 3) := by decide +kernel
theorem dX11_alike_39 : decode cX11_alike 39 = .ok (.iconst 1, 1) := by decide +kernel
theorem dX11_alike_40 : decode cX11_alike 40 = .ok (.goto 4, 3) := by decide +kernel
theorem dX11_alike_43 : decode cX11_alike 43 = .ok (.iconst 0, 1) := by decide +kernel
theorem dX11_alike_44 : decode cX11_alike 44 = .ok (.ireturn, 1) := by decide +kernel
theorem dX11_heaps_0 : decode cX11_heaps 0 = .ok (.iconst 0, 1) := by decide +kernel
theorem dX11_heaps_1 : decode cX11_heaps 1 = .ok (.istore_n 1, 1) := by decide +kernel
theorem dX11_heaps_2 : decode cX11_heaps 2 = .ok (.iconst 0, 1) := by decide +kernel
theorem dX11_heaps_3 : decode cX11_heaps 3 = .ok (.istore_n 2, 1) := by decide +kernel
theorem dX11_heaps_4 : decode cX11_heaps 4 = .ok (.iload_n 2, 1) := by decide +kernel
theorem dX11_heaps_5 : decode cX11_heaps 5 = .ok (.bipush 8, 2) := by decide +kernel
theorem dX11_heaps_7 : decode cX11_heaps 7 = .ok (.if_icmp .ge 20, 3) := by decide +kernel
theorem dX11_heaps_10 : decode cX11_heaps 10 = .ok (.aload_n 0, 1) := by decide +kernel
theorem dX11_heaps_11 : decode cX11_heaps 11 = .ok (.iload_n 2, 1) := by decide +kernel
theorem dX11_heaps_12 : decode cX11_heaps 12 = .ok (.invokevirtual 167, 3) := by decide +kernel
theorem dX11_heaps_15 : decode cX11_heaps 15 = .ok (.ifCond .eq 6, 3) := by decide +kernel
theorem dX11_heaps_18 : decode cX11_heaps 18 = .ok (.iinc 1 1, 3) := by decide +kernel
theorem dX11_heaps_21 : decode cX11_heaps 21 = .ok (.iinc 2 1, 3) := by decide +kernel
theorem dX11_heaps_24 : decode cX11_heaps 24 = .ok (.goto (-20), 3) := by decide +kernel
theorem dX11_heaps_27 : decode cX11_heaps 27 = .ok (.iload_n 1, 1) := by decide +kernel
theorem dX11_heaps_28 : decode cX11_heaps 28 = .ok (.ireturn, 1) := by decide +kernel
theorem dX11_sum_0 : decode cX11_sum 0 = .ok (.aload_n 0, 1) := by decide +kernel
theorem dX11_sum_1 : decode cX11_sum 1 = .ok (.iload_n 1, 1) := by decide +kernel
theorem dX11_sum_2 : decode cX11_sum 2 = .ok (.invokevirtual 58, 3) := by decide +kernel
theorem dX11_sum_5 : decode cX11_sum 5 = .ok (.astore 4, 2) := by decide +kernel
theorem dX11_sum_7 : decode cX11_sum 7 = .ok (.aload_n 0, 1) := by decide +kernel
theorem dX11_sum_8 : decode cX11_sum 8 = .ok (.iload_n 2, 1) := by decide +kernel
theorem dX11_sum_9 : decode cX11_sum 9 = .ok (.invokevirtual 58, 3) := by decide +kernel
theorem dX11_sum_12 : decode cX11_sum 12 = .ok (.astore 5, 2) := by decide +kernel
theorem dX11_sum_14 : decode cX11_sum 14 = .ok (.aload_n 0, 1) := by decide +kernel
theorem dX11_sum_15 : decode cX11_sum 15 = .ok (.iload_n 3, 1) := by decide +kernel
theorem dX11_sum_16 : decode cX11_sum 16 = .ok (.invokevirtual 58, 3) := by decide +kernel
theorem dX11_sum_19 : decode cX11_sum 19 = .ok (.astore 6, 2) := by decide +kernel
theorem dX11_sum_21 : decode cX11_sum 21 = .ok (.aload 4, 2) := by decide +kernel
theorem dX11_sum_23 : decode cX11_sum 23 = .ok (.ifnull 13, 3) := by decide +kernel
theorem dX11_sum_26 : decode cX11_sum 26 = .ok (.aload 5, 2) := by decide +kernel
theorem dX11_sum_28 : decode cX11_sum 28 = .ok (.ifnull 8, 3) := by decide +kernel
theorem dX11_sum_31 : decode cX11_sum 31 = .ok (.aload 6, 2) := by decide +kernel
theorem dX11_sum_33 : decode cX11_sum 33 = .ok (.ifnonnull 5, 3) := by decide +kernel
theorem dX11_sum_36 : decode cX11_sum 36 = .ok (.iconst (-1), 1) := by decide +kernel
theorem dX11_sum_37 : decode cX11_sum 37 = .ok (.ireturn, 1) := by decide +kernel
theorem dX11_sum_38 : decode cX11_sum 38 = .ok (.aload_n 0, 1) := by decide +kernel
theorem dX11_sum_39 : decode cX11_sum 39 = .ok (.getfield 19, 3) := by decide +kernel
theorem dX11_sum_42 : decode cX11_sum 42 = .ok (.aload 4, 2) := by decide +kernel
theorem dX11_sum_44 : decode cX11_sum 44 = .ok (.getfield 62, 3) := by decide +kernel
theorem dX11_sum_47 : decode cX11_sum 47 = .ok (.aload 5, 2) := by decide +kernel
theorem dX11_sum_49 : decode cX11_sum 49 = .ok (.getfield 62, 3) := by decide +kernel
theorem dX11_sum_52 : decode cX11_sum 52 = .ok (.invokevirtual 170, 3) := by decide +kernel
theorem dX11_sum_55 : decode cX11_sum 55 = .ok (.aload_n 0, 1) := by decide +kernel
theorem dX11_sum_56 : decode cX11_sum 56 = .ok (.aload 6, 2) := by decide +kernel
theorem dX11_sum_58 : decode cX11_sum 58 = .ok (.invokevirtual 94, 3) := by decide +kernel
theorem dX11_sum_61 : decode cX11_sum 61 = .ok (.ireturn, 1) := by decide +kernel
theorem dX11_mixed_0 : decode cX11_mixed 0 = .ok (.aload_n 0, 1) := by decide +kernel
theorem dX11_mixed_1 : decode cX11_mixed 1 = .ok (.iload_n 1, 1) := by decide +kernel
theorem dX11_mixed_2 : decode cX11_mixed 2 = .ok (.invokevirtual 58, 3) := by decide +kernel
theorem dX11_mixed_5 : decode cX11_mixed 5 = .ok (.astore_n 3, 1) := by decide +kernel
theorem dX11_mixed_6 : decode cX11_mixed 6 = .ok (.aload_n 0, 1) := by decide +kernel
theorem dX11_mixed_7 : decode cX11_mixed 7 = .ok (.iload_n 2, 1) := by decide +kernel
theorem dX11_mixed_8 : decode cX11_mixed 8 = .ok (.invokevirtual 58, 3) := by decide +kernel
theorem dX11_mixed_11 : decode cX11_mixed 11 = .ok (.astore 4, 2) := by decide +kernel
theorem dX11_mixed_13 : decode cX11_mixed 13 = .ok (.aload_n 3, 1) := by decide +kernel
theorem dX11_mixed_14 : decode cX11_mixed 14 = .ok (.ifnull 8, 3) := by decide +kernel
theorem dX11_mixed_17 : decode cX11_mixed 17 = .ok (.aload 4, 2) := by decide +kernel
theorem dX11_mixed_19 : decode cX11_mixed 19 = .ok (.ifnonnull 5, 3) := by decide +kernel
theorem dX11_mixed_22 : decode cX11_mixed 22 = .ok (.iconst (-1), 1) := by decide +kernel
theorem dX11_mixed_23 : decode cX11_mixed 23 = .ok (.ireturn, 1) := by decide +kernel
theorem dX11_mixed_24 : decode cX11_mixed 24 = .ok (.aload_n 3, 1) := by decide +kernel
theorem dX11_mixed_25 : decode cX11_mixed 25 = .ok (.getfield 62, 3) := by decide +kernel
theorem dX11_mixed_28 : decode cX11_mixed 28 = .ok (.getfield 66, 3) := by decide +kernel
theorem dX11_mixed_31 : decode cX11_mixed 31 = .ok (.ifCond .eq 14, 3) := by decide +kernel
theorem dX11_mixed_34 : decode cX11_mixed 34 = .ok (.aload 4, 2) := by decide +kernel
theorem dX11_mixed_36 : decode cX11_mixed 36 = .ok (.getfield 62, 3) := by decide +kernel
theorem dX11_mixed_39 : decode cX11_mixed 39 = .ok (.getfield 66, 3) := by decide +kernel
theorem dX11_mixed_42 : decode cX11_mixed 42 = .ok (.ifCond .ne 5, 3) := by decide +kernel
theorem dX11_mixed_45 : decode cX11_mixed 45 = .ok (.iconst 0, 1) := by decide +kernel
theorem dX11_mixed_46 : decode cX11_mixed 46 = .ok (.ireturn, 1) := by decide +kernel
theorem dX11_mixed_47 : decode cX11_mixed 47 = .ok (.aload_n 0, 1) := by decide +kernel
theorem dX11_mixed_48 : decode cX11_mixed 48 = .ok (.getfield 19, 3) := by decide +kernel
theorem dX11_mixed_51 : decode cX11_mixed 51 = .ok (.aload_n 3, 1) := by decide +kernel
theorem dX11_mixed_52 : decode cX11_mixed 52 = .ok (.getfield 62, 3) := by decide +kernel
theorem dX11_mixed_55 : decode cX11_mixed 55 = .ok (.aload 4, 2) := by decide +kernel
theorem dX11_mixed_57 : decode cX11_mixed 57 = .ok (.getfield 62, 3) := by decide +kernel
theorem dX11_mixed_60 : decode cX11_mixed 60 = .ok (.invokevirtual 170, 3) := by decide +kernel
theorem dX11_mixed_63 : decode cX11_mixed 63 = .ok (.aload_n 0, 1) := by decide +kernel
theorem dX11_mixed_64 : decode cX11_mixed 64 = .ok (.getfield 19, 3) := by decide +kernel
theorem dX11_mixed_67 : decode cX11_mixed 67 = .ok (.getfield 174, 3) := by decide +kernel
theorem dX11_mixed_70 : decode cX11_mixed 70 = .ok (.invokevirtual 106, 3) := by decide +kernel
theorem dX11_mixed_73 : decode cX11_mixed 73 = .ok (.aload_n 3, 1) := by decide +kernel
theorem dX11_mixed_74 : decode cX11_mixed 74 = .ok (.getfield 62, 3) := by decide +kernel
theorem dX11_mixed_77 : decode cX11_mixed 77 = .ok (.invokevirtual 106, 3) := by decide +kernel
theorem dX11_mixed_80 : decode cX11_mixed 80 = .ok (.isub, 1) := by decide +kernel
theorem dX11_mixed_81 : decode cX11_mixed 81 = .ok (.aload 4, 2) := by decide +kernel
theorem dX11_mixed_83 : decode cX11_mixed 83 = .ok (.getfield 62, 3) := by decide +kernel
theorem dX11_mixed_86 : decode cX11_mixed 86 = .ok (.invokevirtual 106, 3) := by decide +kernel
theorem dX11_mixed_89 : decode cX11_mixed 89 = .ok (.isub, 1) := by decide +kernel
theorem dX11_mixed_90 : decode cX11_mixed 90 = .ok (.ireturn, 1) := by decide +kernel
theorem dX11_parts_0 : decode cX11_parts 0 = .ok (.aload_n 0, 1) := by decide +kernel
theorem dX11_parts_1 : decode cX11_parts 1 = .ok (.iload_n 1, 1) := by decide +kernel
theorem dX11_parts_2 : decode cX11_parts 2 = .ok (.invokevirtual 58, 3) := by decide +kernel
theorem dX11_parts_5 : decode cX11_parts 5 = .ok (.astore_n 2, 1) := by decide +kernel
theorem dX11_parts_6 : decode cX11_parts 6 = .ok (.aload_n 2, 1) := by decide +kernel
theorem dX11_parts_7 : decode cX11_parts 7 = .ok (.ifnonnull 7, 3) := by decide +kernel
theorem dX11_parts_10 : decode cX11_parts 10 = .ok (.ldc2_w 119, 3) := by decide +kernel
theorem dX11_parts_13 : decode cX11_parts 13 = .ok (.lreturn, 1) := by decide +kernel
theorem dX11_parts_14 : decode cX11_parts 14 = .ok (.aload_n 2, 1) := by decide +kernel
theorem dX11_parts_15 : decode cX11_parts 15 = .ok (.getfield 62, 3) := by decide +kernel
theorem dX11_parts_18 : decode cX11_parts 18 = .ok (.invokevirtual 125, 3) := by decide +kernel
theorem dX11_parts_21 : decode cX11_parts 21 = .ok (.ifCond .eq 17, 3) := by decide +kernel
theorem dX11_parts_24 : decode cX11_parts 24 = .ok (.aload_n 0, 1) := by decide +kernel
theorem dX11_parts_25 : decode cX11_parts 25 = .ok (.getfield 40, 3) := by decide +kernel
theorem dX11_parts_28 : decode cX11_parts 28 = .ok (.aload_n 2, 1) := by decide +kernel
theorem dX11_parts_29 : decode cX11_parts 29 = .ok (.getfield 62, 3) := by decide +kernel
theorem dX11_parts_32 : decode cX11_parts 32 = .ok (.invokevirtual 175, 3) := by decide +kernel
theorem dX11_parts_35 : decode cX11_parts 35 = .ok (.goto 6, 3) := by decide +kernel
theorem dX11_parts_38 : decode cX11_parts 38 = .ok (.ldc2_w 132, 3) := by decide +kernel
theorem dX11_parts_41 : decode cX11_parts 41 = .ok (.lreturn, 1) := by decide +kernel
theorem dX11_part_0 : decode cX11_part 0 = .ok (.aload_n 0, 1) := by decide +kernel
theorem dX11_part_1 : decode cX11_part 1 = .ok (.iload_n 1, 1) := by decide +kernel
theorem dX11_part_2 : decode cX11_part 2 = .ok (.invokevirtual 58, 3) := by decide +kernel
theorem dX11_part_5 : decode cX11_part 5 = .ok (.astore_n 3, 1) := by decide +kernel
theorem dX11_part_6 : decode cX11_part 6 = .ok (.aload_n 3, 1) := by decide +kernel
theorem dX11_part_7 : decode cX11_part 7 = .ok (.ifnull 19, 3) := by decide +kernel
theorem dX11_part_10 : decode cX11_part 10 = .ok (.iload_n 2, 1) := by decide +kernel
theorem dX11_part_11 : decode cX11_part 11 = .ok (.iconst (-1), 1) := by decide +kernel
theorem dX11_part_12 : decode cX11_part 12 = .ok (.if_icmp .lt 14, 3) := by decide +kernel
theorem dX11_part_15 : decode cX11_part 15 = .ok (.iload_n 2, 1) := by decide +kernel
theorem dX11_part_16 : decode cX11_part 16 = .ok (.aload_n 3, 1) := by decide +kernel
theorem dX11_part_17 : decode cX11_part 17 = .ok (.getfield 62, 3) := by decide +kernel
theorem dX11_part_20 : decode cX11_part 20 = .ok (.getfield 66, 3) := by decide +kernel
theorem dX11_part_23 : decode cX11_part 23 = .ok (.if_icmp .lt 5, 3) := by decide +kernel
theorem dX11_part_26 : decode cX11_part 26 = .ok (.iconst (-1), 1) := by decide +kernel
theorem dX11_part_27 : decode cX11_part 27 = .ok (.ireturn, 1) := by decide +kernel
theorem dX11_part_28 : decode cX11_part 28 = .ok (.aload_n 3, 1) := by decide +kernel
theorem dX11_part_29 : decode cX11_part 29 = .ok (.getfield 62, 3) := by decide +kernel
theorem dX11_part_32 : decode cX11_part 32 = .ok (.invokevirtual 125, 3) := by decide +kernel
theorem dX11_part_35 : decode cX11_part 35 = .ok (.ifCond .ne 6, 3) := by decide +kernel
theorem dX11_part_38 : decode cX11_part 38 = .ok (.bipush (-2), 2) := by decide +kernel
theorem dX11_part_40 : decode cX11_part 40 = .ok (.ireturn, 1) := by decide +kernel
theorem dX11_part_41 : decode cX11_part 41 = .ok (.aload_n 0, 1) := by decide +kernel
theorem dX11_part_42 : decode cX11_part 42 = .ok (.getfield 40, 3) := by decide +kernel
theorem dX11_part_45 : decode cX11_part 45 = .ok (.aload_n 3, 1) := by decide +kernel
theorem dX11_part_46 : decode cX11_part 46 = .ok (.invokevirtual 179, 3) := by decide +kernel
theorem dX11_part_49 : decode cX11_part 49 = .ok (.iload_n 2, 1) := by decide +kernel
theorem dX11_part_50 : decode cX11_part 50 = .ok (.iconst (-1), 1) := by decide +kernel
theorem dX11_part_51 : decode cX11_part 51 = .ok (.if_icmp .ne 13, 3) := by decide +kernel
theorem dX11_part_54 : decode cX11_part 54 = .ok (.aload_n 0, 1) := by decide +kernel
theorem dX11_part_55 : decode cX11_part 55 = .ok (.getfield 40, 3) := by decide +kernel
theorem dX11_part_58 : decode cX11_part 58 = .ok (.getfield 182, 3) := by decide +kernel
theorem dX11_part_61 : decode cX11_part 61 = .ok (.goto 11, 3) := by decide +kernel
theorem dX11_part_64 : decode cX11_part 64 = .ok (.aload_n 0, 1) := by decide +kernel
theorem dX11_part_65 : decode cX11_part 65 = .ok (.getfield 40, 3) := by decide +kernel
theorem dX11_part_68 : decode cX11_part 68 = .ok (.iload_n 2, 1) := by decide +kernel
theorem dX11_part_69 : decode cX11_part 69 = .ok (.invokevirtual 185, 3) := by decide +kernel
theorem dX11_part_72 : decode cX11_part 72 = .ok (.ireturn, 1) := by decide +kernel
theorem dX11_normal_0 : decode cX11_normal 0 = .ok (.aload_n 0, 1) := by decide +kernel
theorem dX11_normal_1 : decode cX11_normal 1 = .ok (.iload_n 1, 1) := by decide +kernel
theorem dX11_normal_2 : decode cX11_normal 2 = .ok (.invokevirtual 58, 3) := by decide +kernel
theorem dX11_normal_5 : decode cX11_normal 5 = .ok (.astore 4, 2) := by decide +kernel
theorem dX11_normal_7 : decode cX11_normal 7 = .ok (.aload 4, 2) := by decide +kernel
theorem dX11_normal_9 : decode cX11_normal 9 = .ok (.ifnull 39, 3) := by decide +kernel
theorem dX11_normal_12 : decode cX11_normal 12 = .ok (.iload_n 3, 1) := by decide +kernel
theorem dX11_normal_13 : decode cX11_normal 13 = .ok (.ifCond .lt 35, 3) := by decide +kernel
theorem dX11_normal_16 : decode cX11_normal 16 = .ok (.iload_n 3, 1) := by decide +kernel
theorem dX11_normal_17 : decode cX11_normal 17 = .ok (.iconst 2, 1) := by decide +kernel
theorem dX11_normal_18 : decode cX11_normal 18 = .ok (.if_icmp .gt 30, 3) := by decide +kernel
theorem dX11_normal_21 : decode cX11_normal 21 = .ok (.iload_n 2, 1) := by decide +kernel
theorem dX11_normal_22 : decode cX11_normal 22 = .ok (.ifCond .lt 26, 3) := by decide +kernel
theorem dX11_normal_25 : decode cX11_normal 25 = .ok (.iload_n 2, 1) := by decide +kernel
theorem dX11_normal_26 : decode cX11_normal 26 = .ok (.aload 4, 2) := by decide +kernel
theorem dX11_normal_28 : decode cX11_normal 28 = .ok (.getfield 62, 3) := by decide +kernel
theorem dX11_normal_31 : decode cX11_normal 31 = .ok (.getfield 66, 3) := by decide +kernel
theorem dX11_normal_34 : decode cX11_normal 34 = .ok (.if_icmp .ge 14, 3) := by decide +kernel
theorem dX11_normal_37 : decode cX11_normal 37 = .ok (.aload 4, 2) := by decide +kernel
theorem dX11_normal_39 : decode cX11_normal 39 = .ok (.getfield 62, 3) := by decide +kernel
theorem dX11_normal_42 : decode cX11_normal 42 = .ok (.invokevirtual 188, 3) := by decide +kernel
theorem dX11_normal_45 : decode cX11_normal 45 = .ok (.ifCond .ne 6, 3) := by decide +kernel
theorem dX11_normal_48 : decode cX11_normal 48 = .ok (.ldc 98, 2) := by decide +kernel
theorem dX11_normal_50 : decode cX11_normal 50 = .ok (.ireturn, 1) := by decide +kernel
theorem dX11_normal_51 : decode cX11_normal 51 = .ok (.iload_n 3, 1) := by decide +kernel
theorem dX11_normal_52 : decode cX11_normal 52 = .ok (.ifCond .ne 13, 3) := by decide +kernel
theorem dX11_normal_55 : decode cX11_normal 55 = .ok (.aload 4, 2) := by decide +kernel
theorem dX11_normal_57 : decode cX11_normal 57 = .ok (.getfield 62, 3) := by decide +kernel
theorem dX11_normal_60 : decode cX11_normal 60 = .ok (.iload_n 2, 1) := by decide +kernel
theorem dX11_normal_61 : decode cX11_normal 61 = .ok (.invokevirtual 191, 3) := by decide +kernel
theorem dX11_normal_64 : decode cX11_normal 64 = .ok (.ireturn, 1) := by decide +kernel
theorem dX11_normal_65 : decode cX11_normal 65 = .ok (.iload_n 3, 1) := by decide +kernel
theorem dX11_normal_66 : decode cX11_normal 66 = .ok (.iconst 1, 1) := by decide +kernel
theorem dX11_normal_67 : decode cX11_normal 67 = .ok (.if_icmp .ne 15, 3) := by decide +kernel
theorem dX11_normal_70 : decode cX11_normal 70 = .ok (.aload 4, 2) := by decide +kernel
theorem dX11_normal_72 : decode cX11_normal 72 = .ok (.getfield 62, 3) := by decide +kernel
theorem dX11_normal_75 : decode cX11_normal 75 = .ok (.iload_n 2, 1) := by decide +kernel
theorem dX11_normal_76 : decode cX11_normal 76 = .ok (.invokevirtual 194, 3) := by decide +kernel
theorem dX11_normal_79 : decode cX11_normal 79 = .ok (.goto 12, 3) := by decide +kernel
theorem dX11_normal_82 : decode cX11_normal 82 = .ok (.aload 4, 2) := by decide +kernel
theorem dX11_normal_84 : decode cX11_normal 84 = .ok (.getfield 62, 3) := by decide +kernel
theorem dX11_normal_87 : decode cX11_normal 87 = .ok (.iload_n 2, 1) := by decide +kernel
theorem dX11_normal_88 : decode cX11_normal 88 = .ok (.invokevirtual 197, 3) := by decide +kernel
theorem dX11_normal_91 : decode cX11_normal 91 = .ok (.ireturn, 1) := by decide +kernel
theorem dX11_reflexive_0 : decode cX11_reflexive 0 = .ok (.aload_n 0, 1) := by decide +kernel
theorem dX11_reflexive_1 : decode cX11_reflexive 1 = .ok (.iload_n 1, 1) := by decide +kernel
theorem dX11_reflexive_2 : decode cX11_reflexive 2 = .ok (.invokevirtual 58, 3) := by decide +kernel
theorem dX11_reflexive_5 : decode cX11_reflexive 5 = .ok (.astore_n 2, 1) := by decide +kernel
theorem dX11_reflexive_6 : decode cX11_reflexive 6 = .ok (.aload_n 2, 1) := by decide +kernel
theorem dX11_reflexive_7 : decode cX11_reflexive 7 = .ok (.ifnonnull 5, 3) := by decide +kernel
theorem dX11_reflexive_10 : decode cX11_reflexive 10 = .ok (.iconst (-1), 1) := by decide +kernel
theorem dX11_reflexive_11 : decode cX11_reflexive 11 = .ok (.ireturn, 1) := by decide +kernel
theorem dX11_reflexive_12 : decode cX11_reflexive 12 = .ok (.aload_n 2, 1) := by decide +kernel
theorem dX11_reflexive_13 : decode cX11_reflexive 13 = .ok (.getfield 62, 3) := by decide +kernel
theorem dX11_reflexive_16 : decode cX11_reflexive 16 = .ok (.invokevirtual 200, 3) := by decide +kernel
theorem dX11_reflexive_19 : decode cX11_reflexive 19 = .ok (.ifCond .eq 7, 3) := by decide +kernel
theorem dX11_reflexive_22 : decode cX11_reflexive 22 = .ok (.iconst 1, 1) := by decide +kernel
theorem dX11_reflexive_23 : decode cX11_reflexive 23 = .ok (.goto 4, 3) := by decide +kernel
theorem dX11_reflexive_26 : decode cX11_reflexive 26 = .ok (.iconst 0, 1) := by decide +kernel
theorem dX11_reflexive_27 : decode cX11_reflexive 27 = .ok (.ireturn, 1) := by decide +kernel
theorem dX11_dual_0 : decode cX11_dual 0 = .ok (.aload_n 0, 1) := by decide +kernel
theorem dX11_dual_1 : decode cX11_dual 1 = .ok (.iload_n 1, 1) := by decide +kernel
theorem dX11_dual_2 : decode cX11_dual 2 = .ok (.invokevirtual 58, 3) := by decide +kernel
theorem dX11_dual_5 : decode cX11_dual 5 = .ok (.astore_n 3, 1) := by decide +kernel
theorem dX11_dual_6 : decode cX11_dual 6 = .ok (.aload_n 0, 1) := by decide +kernel
theorem dX11_dual_7 : decode cX11_dual 7 = .ok (.iload_n 2, 1) := by decide +kernel
theorem dX11_dual_8 : decode cX11_dual 8 = .ok (.invokevirtual 58, 3) := by decide +kernel
theorem dX11_dual_11 : decode cX11_dual 11 = .ok (.astore 4, 2) := by decide +kernel
theorem dX11_dual_13 : decode cX11_dual 13 = .ok (.aload_n 3, 1) := by decide +kernel
theorem dX11_dual_14 : decode cX11_dual 14 = .ok (.ifnull 8, 3) := by decide +kernel
theorem dX11_dual_17 : decode cX11_dual 17 = .ok (.aload 4, 2) := by decide +kernel
theorem dX11_dual_19 : decode cX11_dual 19 = .ok (.ifnonnull 5, 3) := by decide +kernel
theorem dX11_dual_22 : decode cX11_dual 22 = .ok (.iconst (-1), 1) := by decide +kernel
theorem dX11_dual_23 : decode cX11_dual 23 = .ok (.ireturn, 1) := by decide +kernel
theorem dX11_dual_24 : decode cX11_dual 24 = .ok (.aload_n 3, 1) := by decide +kernel
theorem dX11_dual_25 : decode cX11_dual 25 = .ok (.getfield 62, 3) := by decide +kernel
theorem dX11_dual_28 : decode cX11_dual 28 = .ok (.invokevirtual 200, 3) := by decide +kernel
theorem dX11_dual_31 : decode cX11_dual 31 = .ok (.ifCond .ne 6, 3) := by decide +kernel
theorem dX11_dual_34 : decode cX11_dual 34 = .ok (.bipush (-2), 2) := by decide +kernel
theorem dX11_dual_36 : decode cX11_dual 36 = .ok (.ireturn, 1) := by decide +kernel
theorem dX11_dual_37 : decode cX11_dual 37 = .ok (.aload_n 0, 1) := by decide +kernel
theorem dX11_dual_38 : decode cX11_dual 38 = .ok (.getfield 19, 3) := by decide +kernel
theorem dX11_dual_41 : decode cX11_dual 41 = .ok (.invokevirtual 72, 3) := by decide +kernel
theorem dX11_dual_44 : decode cX11_dual 44 = .ok (.iconst 0, 1) := by decide +kernel
theorem dX11_dual_45 : decode cX11_dual 45 = .ok (.istore 5, 2) := by decide +kernel
theorem dX11_dual_47 : decode cX11_dual 47 = .ok (.iload 5, 2) := by decide +kernel
theorem dX11_dual_49 : decode cX11_dual 49 = .ok (.aload_n 3, 1) := by decide +kernel
theorem dX11_dual_50 : decode cX11_dual 50 = .ok (.getfield 62, 3) := by decide +kernel
theorem dX11_dual_53 : decode cX11_dual 53 = .ok (.getfield 66, 3) := by decide +kernel
theorem dX11_dual_56 : decode cX11_dual 56 = .ok (.if_icmp .ge 34, 3) := by decide +kernel
theorem dX11_dual_59 : decode cX11_dual 59 = .ok (.aload_n 0, 1) := by decide +kernel
theorem dX11_dual_60 : decode cX11_dual 60 = .ok (.getfield 19, 3) := by decide +kernel
theorem dX11_dual_63 : decode cX11_dual 63 = .ok (.aload_n 3, 1) := by decide +kernel
theorem dX11_dual_64 : decode cX11_dual 64 = .ok (.getfield 62, 3) := by decide +kernel
theorem dX11_dual_67 : decode cX11_dual 67 = .ok (.iload 5, 2) := by decide +kernel
theorem dX11_dual_69 : decode cX11_dual 69 = .ok (.invokevirtual 191, 3) := by decide +kernel
theorem dX11_dual_72 : decode cX11_dual 72 = .ok (.aload_n 3, 1) := by decide +kernel
theorem dX11_dual_73 : decode cX11_dual 73 = .ok (.getfield 62, 3) := by decide +kernel
theorem dX11_dual_76 : decode cX11_dual 76 = .ok (.iload 5, 2) := by decide +kernel
theorem dX11_dual_78 : decode cX11_dual 78 = .ok (.invokevirtual 194, 3) := by decide +kernel
theorem dX11_dual_81 : decode cX11_dual 81 = .ok (.invokevirtual 90, 3) := by decide +kernel
theorem dX11_dual_84 : decode cX11_dual 84 = .ok (.iinc 5 1, 3) := by decide +kernel
theorem dX11_dual_87 : decode cX11_dual 87 = .ok (.goto (-40), 3) := by decide +kernel
theorem dX11_dual_90 : decode cX11_dual 90 = .ok (.aload_n 0, 1) := by decide +kernel
theorem dX11_dual_91 : decode cX11_dual 91 = .ok (.getfield 19, 3) := by decide +kernel
theorem dX11_dual_94 : decode cX11_dual 94 = .ok (.invokevirtual 75, 3) := by decide +kernel
theorem dX11_dual_97 : decode cX11_dual 97 = .ok (.aload_n 0, 1) := by decide +kernel
theorem dX11_dual_98 : decode cX11_dual 98 = .ok (.aload 4, 2) := by decide +kernel
theorem dX11_dual_100 : decode cX11_dual 100 = .ok (.invokevirtual 94, 3) := by decide +kernel
theorem dX11_dual_103 : decode cX11_dual 103 = .ok (.ireturn, 1) := by decide +kernel
theorem dX11_between_0 : decode cX11_between 0 = .ok (.iload_n 1, 1) := by decide +kernel
theorem dX11_between_1 : decode cX11_between 1 = .ok (.invokestatic 82, 3) := by decide +kernel
theorem dX11_between_4 : decode cX11_between 4 = .ok (.ifCond .eq 25, 3) := by decide +kernel
theorem dX11_between_7 : decode cX11_between 7 = .ok (.iload_n 2, 1) := by decide +kernel
theorem dX11_between_8 : decode cX11_between 8 = .ok (.invokestatic 82, 3) := by decide +kernel
theorem dX11_between_11 : decode cX11_between 11 = .ok (.ifCond .eq 18, 3) := by decide +kernel
theorem dX11_between_14 : decode cX11_between 14 = .ok (.iload_n 3, 1) := by decide +kernel
theorem dX11_between_15 : decode cX11_between 15 = .ok (.invokestatic 82, 3) := by decide +kernel
theorem dX11_between_18 : decode cX11_between 18 = .ok (.ifCond .eq 11, 3) := by decide +kernel
theorem dX11_between_21 : decode cX11_between 21 = .ok (.iload 4, 2) := by decide +kernel
theorem dX11_between_23 : decode cX11_between 23 = .ok (.invokestatic 82, 3) := by decide +kernel
theorem dX11_between_26 : decode cX11_between 26 = .ok (.ifCond .ne 5, 3) := by decide +kernel
theorem dX11_between_29 : decode cX11_between 29 = .ok (.iconst (-1), 1) := by decide +kernel
theorem dX11_between_30 : decode cX11_between 30 = .ok (.ireturn, 1) := by decide +kernel
theorem dX11_between_31 : decode cX11_between 31 = .ok (.iload_n 1, 1) := by decide +kernel
theorem dX11_between_32 : decode cX11_between 32 = .ok (.iload_n 2, 1) := by decide +kernel
theorem dX11_between_33 : decode cX11_between 33 = .ok (.iload_n 3, 1) := by decide +kernel
theorem dX11_between_34 : decode cX11_between 34 = .ok (.iload 4, 2) := by decide +kernel
theorem dX11_between_36 : decode cX11_between 36 = .ok (.invokestatic 203, 3) := by decide +kernel
theorem dX11_between_39 : decode cX11_between 39 = .ok (.ifCond .ne 6, 3) := by decide +kernel
theorem dX11_between_42 : decode cX11_between 42 = .ok (.bipush (-2), 2) := by decide +kernel
theorem dX11_between_44 : decode cX11_between 44 = .ok (.ireturn, 1) := by decide +kernel
theorem dX11_between_45 : decode cX11_between 45 = .ok (.aload_n 0, 1) := by decide +kernel
theorem dX11_between_46 : decode cX11_between 46 = .ok (.getfield 33, 3) := by decide +kernel
theorem dX11_between_49 : decode cX11_between 49 = .ok (.iload_n 1, 1) := by decide +kernel
theorem dX11_between_50 : decode cX11_between 50 = .ok (.iload_n 2, 1) := by decide +kernel
theorem dX11_between_51 : decode cX11_between 51 = .ok (.iload_n 3, 1) := by decide +kernel
theorem dX11_between_52 : decode cX11_between 52 = .ok (.iload 4, 2) := by decide +kernel
theorem dX11_between_54 : decode cX11_between 54 = .ok (.iconst 0, 1) := by decide +kernel
theorem dX11_between_55 : decode cX11_between 55 = .ok (.invokevirtual 207, 3) := by decide +kernel
theorem dX11_between_58 : decode cX11_between 58 = .ok (.aload_n 0, 1) := by decide +kernel
theorem dX11_between_59 : decode cX11_between 59 = .ok (.getfield 33, 3) := by decide +kernel
theorem dX11_between_62 : decode cX11_between 62 = .ok (.getfield 211, 3) := by decide +kernel
theorem dX11_between_65 : decode cX11_between 65 = .ok (.ireturn, 1) := by decide +kernel
theorem dX11_ray_0 : decode cX11_ray 0 = .ok (.iload_n 1, 1) := by decide +kernel
theorem dX11_ray_1 : decode cX11_ray 1 = .ok (.invokestatic 82, 3) := by decide +kernel
theorem dX11_ray_4 : decode cX11_ray 4 = .ok (.ifCond .eq 41, 3) := by decide +kernel
theorem dX11_ray_7 : decode cX11_ray 7 = .ok (.iload_n 2, 1) := by decide +kernel
theorem dX11_ray_8 : decode cX11_ray 8 = .ok (.invokestatic 82, 3) := by decide +kernel
theorem dX11_ray_11 : decode cX11_ray 11 = .ok (.ifCond .eq 34, 3) := by decide +kernel
theorem dX11_ray_14 : decode cX11_ray 14 = .ok (.iload_n 3, 1) := by decide +kernel
theorem dX11_ray_15 : decode cX11_ray 15 = .ok (.invokestatic 82, 3) := by decide +kernel
theorem dX11_ray_18 : decode cX11_ray 18 = .ok (.ifCond .eq 27, 3) := by decide +kernel
theorem dX11_ray_21 : decode cX11_ray 21 = .ok (.iload 4, 2) := by decide +kernel
theorem dX11_ray_23 : decode cX11_ray 23 = .ok (.invokestatic 82, 3) := by decide +kernel
theorem dX11_ray_26 : decode cX11_ray 26 = .ok (.ifCond .eq 19, 3) := by decide +kernel
theorem dX11_ray_29 : decode cX11_ray 29 = .ok (.iload 5, 2) := by decide +kernel
theorem dX11_ray_31 : decode cX11_ray 31 = .ok (.ifCond .lt 14, 3) := by decide +kernel
theorem dX11_ray_34 : decode cX11_ray 34 = .ok (.iload 6, 2) := by decide +kernel
theorem dX11_ray_36 : decode cX11_ray 36 = .ok (.ifCond .lt 9, 3) := by decide +kernel
theorem dX11_ray_39 : decode cX11_ray 39 = .ok (.iload 6, 2) := by decide +kernel
theorem dX11_ray_41 : decode cX11_ray 41 = .ok (.iconst 2, 1) := by decide +kernel
theorem dX11_ray_42 : decode cX11_ray 42 = .ok (.if_icmp .le 6, 3) := by decide +kernel
theorem dX11_ray_45 : decode cX11_ray 45 = .ok (.ldc 98, 2) := by decide +kernel
theorem dX11_ray_47 : decode cX11_ray 47 = .ok (.ireturn, 1) := by decide +kernel
theorem dX11_ray_48 : decode cX11_ray 48 = .ok (.iload_n 1, 1) := by decide +kernel
theorem dX11_ray_49 : decode cX11_ray 49 = .ok (.iload_n 2, 1) := by decide +kernel
theorem dX11_ray_50 : decode cX11_ray 50 = .ok (.iload_n 3, 1) := by decide +kernel
theorem dX11_ray_51 : decode cX11_ray 51 = .ok (.iload 4, 2) := by decide +kernel
theorem dX11_ray_53 : decode cX11_ray 53 = .ok (.invokestatic 203, 3) := by decide +kernel
theorem dX11_ray_56 : decode cX11_ray 56 = .ok (.ifCond .ne 6, 3) := by decide +kernel
theorem dX11_ray_59 : decode cX11_ray 59 = .ok (.ldc 98, 2) := by decide +kernel
theorem dX11_ray_61 : decode cX11_ray 61 = .ok (.ireturn, 1) := by decide +kernel
theorem dX11_ray_62 : decode cX11_ray 62 = .ok (.aload_n 0, 1) := by decide +kernel
theorem dX11_ray_63 : decode cX11_ray 63 = .ok (.getfield 33, 3) := by decide +kernel
theorem dX11_ray_66 : decode cX11_ray 66 = .ok (.iload_n 1, 1) := by decide +kernel
theorem dX11_ray_67 : decode cX11_ray 67 = .ok (.iload_n 2, 1) := by decide +kernel
theorem dX11_ray_68 : decode cX11_ray 68 = .ok (.iload_n 3, 1) := by decide +kernel
theorem dX11_ray_69 : decode cX11_ray 69 = .ok (.iload 4, 2) := by decide +kernel
theorem dX11_ray_71 : decode cX11_ray 71 = .ok (.iload 5, 2) := by decide +kernel
theorem dX11_ray_73 : decode cX11_ray 73 = .ok (.invokevirtual 207, 3) := by decide +kernel
theorem dX11_ray_76 : decode cX11_ray 76 = .ok (.iload 5, 2) := by decide +kernel
theorem dX11_ray_78 : decode cX11_ray 78 = .ok (.aload_n 0, 1) := by decide +kernel
theorem dX11_ray_79 : decode cX11_ray 79 = .ok (.getfield 33, 3) := by decide +kernel
theorem dX11_ray_82 : decode cX11_ray 82 = .ok (.getfield 211, 3) := by decide +kernel
theorem dX11_ray_85 : decode cX11_ray 85 = .ok (.if_icmp .lt 6, 3) := by decide +kernel
theorem dX11_ray_88 : decode cX11_ray 88 = .ok (.ldc 98, 2) := by decide +kernel
theorem dX11_ray_90 : decode cX11_ray 90 = .ok (.ireturn, 1) := by decide +kernel
theorem dX11_ray_91 : decode cX11_ray 91 = .ok (.iload 6, 2) := by decide +kernel
theorem dX11_ray_93 : decode cX11_ray 93 = .ok (.ifCond .ne 11, 3) := by decide +kernel
theorem dX11_ray_96 : decode cX11_ray 96 = .ok (.aload_n 0, 1) := by decide +kernel
theorem dX11_ray_97 : decode cX11_ray 97 = .ok (.getfield 33, 3) := by decide +kernel
theorem dX11_ray_100 : decode cX11_ray 100 = .ok (.getfield 212, 3) := by decide +kernel
theorem dX11_ray_103 : decode cX11_ray 103 = .ok (.ireturn, 1) := by decide +kernel
theorem dX11_ray_104 : decode cX11_ray 104 = .ok (.iload 6, 2) := by decide +kernel
theorem dX11_ray_106 : decode cX11_ray 106 = .ok (.iconst 1, 1) := by decide +kernel
theorem dX11_ray_107 : decode cX11_ray 107 = .ok (.if_icmp .ne 13, 3) := by decide +kernel
theorem dX11_ray_110 : decode cX11_ray 110 = .ok (.aload_n 0, 1) := by decide +kernel
theorem dX11_ray_111 : decode cX11_ray 111 = .ok (.getfield 33, 3) := by decide +kernel
theorem dX11_ray_114 : decode cX11_ray 114 = .ok (.getfield 214, 3) := by decide +kernel
theorem dX11_ray_117 : decode cX11_ray 117 = .ok (.goto 10, 3) := by decide +kernel
theorem dX11_ray_120 : decode cX11_ray 120 = .ok (.aload_n 0, 1) := by decide +kernel
theorem dX11_ray_121 : decode cX11_ray 121 = .ok (.getfield 33, 3) := by decide +kernel
theorem dX11_ray_124 : decode cX11_ray 124 = .ok (.getfield 216, 3) := by decide +kernel
theorem dX11_ray_127 : decode cX11_ray 127 = .ok (.ireturn, 1) := by decide +kernel
theorem dX11_cuts_0 : decode cX11_cuts 0 = .ok (.aload_n 0, 1) := by decide +kernel
theorem dX11_cuts_1 : decode cX11_cuts 1 = .ok (.iload_n 1, 1) := by decide +kernel
theorem dX11_cuts_2 : decode cX11_cuts 2 = .ok (.invokevirtual 58, 3) := by decide +kernel
theorem dX11_cuts_5 : decode cX11_cuts 5 = .ok (.astore_n 3, 1) := by decide +kernel
theorem dX11_cuts_6 : decode cX11_cuts 6 = .ok (.aload_n 3, 1) := by decide +kernel
theorem dX11_cuts_7 : decode cX11_cuts 7 = .ok (.ifnull 12, 3) := by decide +kernel
theorem dX11_cuts_10 : decode cX11_cuts 10 = .ok (.iload_n 2, 1) := by decide +kernel
theorem dX11_cuts_11 : decode cX11_cuts 11 = .ok (.ifCond .lt 8, 3) := by decide +kernel
theorem dX11_cuts_14 : decode cX11_cuts 14 = .ok (.iload_n 2, 1) := by decide +kernel
theorem dX11_cuts_15 : decode cX11_cuts 15 = .ok (.iconst 3, 1) := by decide +kernel
theorem dX11_cuts_16 : decode cX11_cuts 16 = .ok (.if_icmp .le 5, 3) := by decide +kernel
theorem dX11_cuts_19 : decode cX11_cuts 19 = .ok (.iconst (-1), 1) := by decide +kernel
theorem dX11_cuts_20 : decode cX11_cuts 20 = .ok (.ireturn, 1) := by decide +kernel
theorem dX11_cuts_21 : decode cX11_cuts 21 = .ok (.aload_n 3, 1) := by decide +kernel
theorem dX11_cuts_22 : decode cX11_cuts 22 = .ok (.getfield 62, 3) := by decide +kernel
theorem dX11_cuts_25 : decode cX11_cuts 25 = .ok (.bipush 12, 2) := by decide +kernel
theorem dX11_cuts_27 : decode cX11_cuts 27 = .ok (.invokestatic 219, 3) := by decide +kernel
theorem dX11_cuts_30 : decode cX11_cuts 30 = .ok (.ifCond .ne 6, 3) := by decide +kernel
theorem dX11_cuts_33 : decode cX11_cuts 33 = .ok (.bipush (-2), 2) := by decide +kernel
theorem dX11_cuts_35 : decode cX11_cuts 35 = .ok (.ireturn, 1) := by decide +kernel
theorem dX11_cuts_36 : decode cX11_cuts 36 = .ok (.iload_n 2, 1) := by decide +kernel
theorem dX11_cuts_37 : decode cX11_cuts 37 = .ok (.iconst 2, 1) := by decide +kernel
theorem dX11_cuts_38 : decode cX11_cuts 38 = .ok (.if_icmp .ne 11, 3) := by decide +kernel
theorem dX11_cuts_41 : decode cX11_cuts 41 = .ok (.aload_n 3, 1) := by decide +kernel
theorem dX11_cuts_42 : decode cX11_cuts 42 = .ok (.getfield 62, 3) := by decide +kernel
theorem dX11_cuts_45 : decode cX11_cuts 45 = .ok (.invokestatic 223, 3) := by decide +kernel
theorem dX11_cuts_48 : decode cX11_cuts 48 = .ok (.ireturn, 1) := by decide +kernel
theorem dX11_cuts_49 : decode cX11_cuts 49 = .ok (.iload_n 2, 1) := by decide +kernel
theorem dX11_cuts_50 : decode cX11_cuts 50 = .ok (.iconst 3, 1) := by decide +kernel
theorem dX11_cuts_51 : decode cX11_cuts 51 = .ok (.if_icmp .ne 11, 3) := by decide +kernel
theorem dX11_cuts_54 : decode cX11_cuts 54 = .ok (.aload_n 3, 1) := by decide +kernel
theorem dX11_cuts_55 : decode cX11_cuts 55 = .ok (.getfield 62, 3) := by decide +kernel
theorem dX11_cuts_58 : decode cX11_cuts 58 = .ok (.invokevirtual 106, 3) := by decide +kernel
