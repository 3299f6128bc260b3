theorem dX12_isAlike_25 : decode cX12_isAlike 25 = .ok (.iconst 1, 1) := by decide +kernel
theorem dX12_isAlike_26 : decode cX12_isAlike 26 = .ok (.goto 4, 3) := by decide +kernel
theorem dX12_isAlike_29 : decode cX12_isAlike 29 = .ok (.iconst 0, 1) := by decide +kernel
theorem dX12_isAlike_30 : decode cX12_isAlike 30 = .ok (.ireturn, 1) := by decide +kernel
theorem dX12_isAlike_31 : decode cX12_isAlike 31 = .ok (.aload_n 0, 1) := by decide +kernel
theorem dX12_isAlike_32 : decode cX12_isAlike 32 = .ok (.getfield 7, 3) := by decide +kernel
theorem dX12_isAlike_35 : decode cX12_isAlike 35 = .ok (.iload_n 1, 1) := by decide +kernel
theorem dX12_isAlike_36 : decode cX12_isAlike 36 = .ok (.iaload, 1) := by decide +kernel
theorem dX12_isAlike_37 : decode cX12_isAlike 37 = .ok (.aload_n 0, 1) := by decide +kernel
theorem dX12_isAlike_38 : decode cX12_isAlike 38 = .ok (.getfield 7, 3) := by decide +kernel
theorem dX12_isAlike_41 : decode cX12_isAlike 41 = .ok (.iload_n 2, 1) := by decide +kernel
theorem dX12_isAlike_42 : decode cX12_isAlike 42 = .ok (.iaload, 1) := by decide +kernel
theorem dX12_isAlike_43 : decode cX12_isAlike 43 = .ok (.if_icmp .ne 30, 3) := by decide +kernel
theorem dX12_isAlike_46 : decode cX12_isAlike 46 = .ok (.aload_n 0, 1) := by decide +kernel
theorem dX12_isAlike_47 : decode cX12_isAlike 47 = .ok (.getfield 7, 3) := by decide +kernel
theorem dX12_isAlike_50 : decode cX12_isAlike 50 = .ok (.iload_n 1, 1) := by decide +kernel
theorem dX12_isAlike_51 : decode cX12_isAlike 51 = .ok (.iaload, 1) := by decide +kernel
theorem dX12_isAlike_52 : decode cX12_isAlike 52 = .ok (.iconst 2, 1) := by decide +kernel
theorem dX12_isAlike_53 : decode cX12_isAlike 53 = .ok (.if_icmp .ne 16, 3) := by decide +kernel
theorem dX12_isAlike_56 : decode cX12_isAlike 56 = .ok (.aload_n 0, 1) := by decide +kernel
theorem dX12_isAlike_57 : decode cX12_isAlike 57 = .ok (.iload_n 1, 1) := by decide +kernel
theorem dX12_isAlike_58 : decode cX12_isAlike 58 = .ok (.invokevirtual 148, 3) := by decide +kernel
theorem dX12_isAlike_61 : decode cX12_isAlike 61 = .ok (.aload_n 0, 1) := by decide +kernel
theorem dX12_isAlike_62 : decode cX12_isAlike 62 = .ok (.iload_n 2, 1) := by decide +kernel
theorem dX12_isAlike_63 : decode cX12_isAlike 63 = .ok (.invokevirtual 148, 3) := by decide +kernel
theorem dX12_isAlike_66 : decode cX12_isAlike 66 = .ok (.if_icmp .ne 7, 3) := by decide +kernel
theorem dX12_isAlike_69 : decode cX12_isAlike 69 = .ok (.iconst 1, 1) := by decide +kernel
theorem dX12_isAlike_70 : decode cX12_isAlike 70 = .ok (.goto 4, 3) := by decide +kernel
theorem dX12_isAlike_73 : decode cX12_isAlike 73 = .ok (.iconst 0, 1) := by decide +kernel
theorem dX12_isAlike_74 : decode cX12_isAlike 74 = .ok (.ireturn, 1) := by decide +kernel
theorem dX12_alike_0 : decode cX12_alike 0 = .ok (.iload_n 1, 1) := by decide +kernel
theorem dX12_alike_1 : decode cX12_alike 1 = .ok (.invokestatic 120, 3) := by decide +kernel
theorem dX12_alike_4 : decode cX12_alike 4 = .ok (.ifCond .eq 10, 3) := by decide +kernel
theorem dX12_alike_7 : decode cX12_alike 7 = .ok (.iload_n 2, 1) := by decide +kernel
theorem dX12_alike_8 : decode cX12_alike 8 = .ok (.invokestatic 120, 3) := by decide +kernel
theorem dX12_alike_11 : decode cX12_alike 11 = .ok (.ifCond .ne 7, 3) := by decide +kernel
theorem dX12_alike_14 : decode cX12_alike 14 = .ok (.iconst (-1), 1) := by decide +kernel
theorem dX12_alike_15 : decode cX12_alike 15 = .ok (.goto 17, 3) := by decide +kernel
theorem dX12_alike_18 : decode cX12_alike 18 = .ok (.aload_n 0, 1) := by decide +kernel
theorem dX12_alike_19 : decode cX12_alike 19 = .ok (.iload_n 1, 1) := by decide +kernel
theorem dX12_alike_20 : decode cX12_alike 20 = .ok (.iload_n 2, 1) := by decide +kernel
theorem dX12_alike_21 : decode cX12_alike 21 = .ok (.invokevirtual 187, 3) := by decide +kernel
theorem dX12_alike_24 : decode cX12_alike 24 = .ok (.ifCond .eq 7, 3) := by decide +kernel
theorem dX12_alike_27 : decode cX12_alike 27 = .ok (.iconst 1, 1) := by decide +kernel
theorem dX12_alike_28 : decode cX12_alike 28 = .ok (.goto 4, 3) := by decide +kernel
theorem dX12_alike_31 : decode cX12_alike 31 = .ok (.iconst 0, 1) := by decide +kernel
theorem dX12_alike_32 : decode cX12_alike 32 = .ok (.ireturn, 1) := by decide +kernel
theorem dX12_heaps_0 : decode cX12_heaps 0 = .ok (.iconst 0, 1) := by decide +kernel
theorem dX12_heaps_1 : decode cX12_heaps 1 = .ok (.istore_n 1, 1) := by decide +kernel
theorem dX12_heaps_2 : decode cX12_heaps 2 = .ok (.iconst 0, 1) := by decide +kernel
theorem dX12_heaps_3 : decode cX12_heaps 3 = .ok (.istore_n 2, 1) := by decide +kernel
theorem dX12_heaps_4 : decode cX12_heaps 4 = .ok (.iload_n 2, 1) := by decide +kernel
theorem dX12_heaps_5 : decode cX12_heaps 5 = .ok (.bipush 8, 2) := by decide +kernel
theorem dX12_heaps_7 : decode cX12_heaps 7 = .ok (.if_icmp .ge 62, 3) := by decide +kernel
theorem dX12_heaps_10 : decode cX12_heaps 10 = .ok (.aload_n 0, 1) := by decide +kernel
theorem dX12_heaps_11 : decode cX12_heaps 11 = .ok (.iload_n 2, 1) := by decide +kernel
theorem dX12_heaps_12 : decode cX12_heaps 12 = .ok (.invokevirtual 142, 3) := by decide +kernel
theorem dX12_heaps_15 : decode cX12_heaps 15 = .ok (.istore_n 3, 1) := by decide +kernel
theorem dX12_heaps_16 : decode cX12_heaps 16 = .ok (.iconst 0, 1) := by decide +kernel
theorem dX12_heaps_17 : decode cX12_heaps 17 = .ok (.istore 4, 2) := by decide +kernel
theorem dX12_heaps_19 : decode cX12_heaps 19 = .ok (.iload 4, 2) := by decide +kernel
theorem dX12_heaps_21 : decode cX12_heaps 21 = .ok (.iload_n 2, 1) := by decide +kernel
theorem dX12_heaps_22 : decode cX12_heaps 22 = .ok (.if_icmp .ge 29, 3) := by decide +kernel
theorem dX12_heaps_25 : decode cX12_heaps 25 = .ok (.iload_n 3, 1) := by decide +kernel
theorem dX12_heaps_26 : decode cX12_heaps 26 = .ok (.ifCond .eq 25, 3) := by decide +kernel
theorem dX12_heaps_29 : decode cX12_heaps 29 = .ok (.aload_n 0, 1) := by decide +kernel
theorem dX12_heaps_30 : decode cX12_heaps 30 = .ok (.iload_n 2, 1) := by decide +kernel
theorem dX12_heaps_31 : decode cX12_heaps 31 = .ok (.iload 4, 2) := by decide +kernel
theorem dX12_heaps_33 : decode cX12_heaps 33 = .ok (.invokevirtual 187, 3) := by decide +kernel
theorem dX12_heaps_36 : decode cX12_heaps 36 = .ok (.ifCond .ne 7, 3) := by decide +kernel
theorem dX12_heaps_39 : decode cX12_heaps 39 = .ok (.iconst 1, 1) := by decide +kernel
theorem dX12_heaps_40 : decode cX12_heaps 40 = .ok (.goto 4, 3) := by decide +kernel
theorem dX12_heaps_43 : decode cX12_heaps 43 = .ok (.iconst 0, 1) := by decide +kernel
theorem dX12_heaps_44 : decode cX12_heaps 44 = .ok (.istore_n 3, 1) := by decide +kernel
theorem dX12_heaps_45 : decode cX12_heaps 45 = .ok (.iinc 4 1, 3) := by decide +kernel
theorem dX12_heaps_48 : decode cX12_heaps 48 = .ok (.goto (-29), 3) := by decide +kernel
theorem dX12_heaps_51 : decode cX12_heaps 51 = .ok (.iload_n 1, 1) := by decide +kernel
theorem dX12_heaps_52 : decode cX12_heaps 52 = .ok (.iload_n 3, 1) := by decide +kernel
theorem dX12_heaps_53 : decode cX12_heaps 53 = .ok (.ifCond .eq 7, 3) := by decide +kernel
theorem dX12_heaps_56 : decode cX12_heaps 56 = .ok (.iconst 1, 1) := by decide +kernel
theorem dX12_heaps_57 : decode cX12_heaps 57 = .ok (.goto 4, 3) := by decide +kernel
theorem dX12_heaps_60 : decode cX12_heaps 60 = .ok (.iconst 0, 1) := by decide +kernel
theorem dX12_heaps_61 : decode cX12_heaps 61 = .ok (.iadd, 1) := by decide +kernel
theorem dX12_heaps_62 : decode cX12_heaps 62 = .ok (.istore_n 1, 1) := by decide +kernel
theorem dX12_heaps_63 : decode cX12_heaps 63 = .ok (.iinc 2 1, 3) := by decide +kernel
theorem dX12_heaps_66 : decode cX12_heaps 66 = .ok (.goto (-62), 3) := by decide +kernel
theorem dX12_heaps_69 : decode cX12_heaps 69 = .ok (.iload_n 1, 1) := by decide +kernel
theorem dX12_heaps_70 : decode cX12_heaps 70 = .ok (.ireturn, 1) := by decide +kernel
theorem dX12_findSum_0 : decode cX12_findSum 0 = .ok (.aload_n 0, 1) := by decide +kernel
theorem dX12_findSum_1 : decode cX12_findSum 1 = .ok (.iconst 0, 1) := by decide +kernel
theorem dX12_findSum_2 : decode cX12_findSum 2 = .ok (.putfield 89, 3) := by decide +kernel
theorem dX12_findSum_5 : decode cX12_findSum 5 = .ok (.iconst 0, 1) := by decide +kernel
theorem dX12_findSum_6 : decode cX12_findSum 6 = .ok (.istore_n 3, 1) := by decide +kernel
theorem dX12_findSum_7 : decode cX12_findSum 7 = .ok (.iload_n 3, 1) := by decide +kernel
theorem dX12_findSum_8 : decode cX12_findSum 8 = .ok (.aload_n 0, 1) := by decide +kernel
theorem dX12_findSum_9 : decode cX12_findSum 9 = .ok (.getfield 7, 3) := by decide +kernel
theorem dX12_findSum_12 : decode cX12_findSum 12 = .ok (.iload_n 1, 1) := by decide +kernel
theorem dX12_findSum_13 : decode cX12_findSum 13 = .ok (.iaload, 1) := by decide +kernel
theorem dX12_findSum_14 : decode cX12_findSum 14 = .ok (.if_icmp .ge 61, 3) := by decide +kernel
theorem dX12_findSum_17 : decode cX12_findSum 17 = .ok (.iconst 0, 1) := by decide +kernel
theorem dX12_findSum_18 : decode cX12_findSum 18 = .ok (.istore 4, 2) := by decide +kernel
theorem dX12_findSum_20 : decode cX12_findSum 20 = .ok (.iload 4, 2) := by decide +kernel
theorem dX12_findSum_22 : decode cX12_findSum 22 = .ok (.aload_n 0, 1) := by decide +kernel
theorem dX12_findSum_23 : decode cX12_findSum 23 = .ok (.getfield 7, 3) := by decide +kernel
theorem dX12_findSum_26 : decode cX12_findSum 26 = .ok (.iload_n 2, 1) := by decide +kernel
theorem dX12_findSum_27 : decode cX12_findSum 27 = .ok (.iaload, 1) := by decide +kernel
theorem dX12_findSum_28 : decode cX12_findSum 28 = .ok (.if_icmp .ge 41, 3) := by decide +kernel
theorem dX12_findSum_31 : decode cX12_findSum 31 = .ok (.aload_n 0, 1) := by decide +kernel
theorem dX12_findSum_32 : decode cX12_findSum 32 = .ok (.aload_n 0, 1) := by decide +kernel
theorem dX12_findSum_33 : decode cX12_findSum 33 = .ok (.iload_n 1, 1) := by decide +kernel
theorem dX12_findSum_34 : decode cX12_findSum 34 = .ok (.iload_n 3, 1) := by decide +kernel
theorem dX12_findSum_35 : decode cX12_findSum 35 = .ok (.invokevirtual 107, 3) := by decide +kernel
theorem dX12_findSum_38 : decode cX12_findSum 38 = .ok (.aload_n 0, 1) := by decide +kernel
theorem dX12_findSum_39 : decode cX12_findSum 39 = .ok (.iload_n 2, 1) := by decide +kernel
theorem dX12_findSum_40 : decode cX12_findSum 40 = .ok (.iload 4, 2) := by decide +kernel
theorem dX12_findSum_42 : decode cX12_findSum 42 = .ok (.invokevirtual 107, 3) := by decide +kernel
theorem dX12_findSum_45 : decode cX12_findSum 45 = .ok (.iadd, 1) := by decide +kernel
theorem dX12_findSum_46 : decode cX12_findSum 46 = .ok (.aload_n 0, 1) := by decide +kernel
theorem dX12_findSum_47 : decode cX12_findSum 47 = .ok (.iload_n 1, 1) := by decide +kernel
theorem dX12_findSum_48 : decode cX12_findSum 48 = .ok (.iload_n 3, 1) := by decide +kernel
theorem dX12_findSum_49 : decode cX12_findSum 49 = .ok (.invokevirtual 111, 3) := by decide +kernel
theorem dX12_findSum_52 : decode cX12_findSum 52 = .ok (.aload_n 0, 1) := by decide +kernel
theorem dX12_findSum_53 : decode cX12_findSum 53 = .ok (.iload_n 2, 1) := by decide +kernel
theorem dX12_findSum_54 : decode cX12_findSum 54 = .ok (.iload 4, 2) := by decide +kernel
theorem dX12_findSum_56 : decode cX12_findSum 56 = .ok (.invokevirtual 111, 3) := by decide +kernel
theorem dX12_findSum_59 : decode cX12_findSum 59 = .ok (.iadd, 1) := by decide +kernel
theorem dX12_findSum_60 : decode cX12_findSum 60 = .ok (.invokevirtual 114, 3) := by decide +kernel
theorem dX12_findSum_63 : decode cX12_findSum 63 = .ok (.iinc 4 1, 3) := by decide +kernel
theorem dX12_findSum_66 : decode cX12_findSum 66 = .ok (.goto (-46), 3) := by decide +kernel
theorem dX12_findSum_69 : decode cX12_findSum 69 = .ok (.iinc 3 1, 3) := by decide +kernel
theorem dX12_findSum_72 : decode cX12_findSum 72 = .ok (.goto (-65), 3) := by decide +kernel
theorem dX12_findSum_75 : decode cX12_findSum 75 = .ok (.aload_n 0, 1) := by decide +kernel
theorem dX12_findSum_76 : decode cX12_findSum 76 = .ok (.invokevirtual 132, 3) := by decide +kernel
theorem dX12_findSum_79 : decode cX12_findSum 79 = .ok (.return_, 1) := by decide +kernel
theorem dX12_sum_0 : decode cX12_sum 0 = .ok (.iload_n 1, 1) := by decide +kernel
theorem dX12_sum_1 : decode cX12_sum 1 = .ok (.invokestatic 120, 3) := by decide +kernel
theorem dX12_sum_4 : decode cX12_sum 4 = .ok (.ifCond .eq 17, 3) := by decide +kernel
theorem dX12_sum_7 : decode cX12_sum 7 = .ok (.iload_n 2, 1) := by decide +kernel
theorem dX12_sum_8 : decode cX12_sum 8 = .ok (.invokestatic 120, 3) := by decide +kernel
theorem dX12_sum_11 : decode cX12_sum 11 = .ok (.ifCond .eq 10, 3) := by decide +kernel
theorem dX12_sum_14 : decode cX12_sum 14 = .ok (.iload_n 3, 1) := by decide +kernel
theorem dX12_sum_15 : decode cX12_sum 15 = .ok (.invokestatic 120, 3) := by decide +kernel
theorem dX12_sum_18 : decode cX12_sum 18 = .ok (.ifCond .ne 5, 3) := by decide +kernel
theorem dX12_sum_21 : decode cX12_sum 21 = .ok (.iconst (-1), 1) := by decide +kernel
theorem dX12_sum_22 : decode cX12_sum 22 = .ok (.ireturn, 1) := by decide +kernel
theorem dX12_sum_23 : decode cX12_sum 23 = .ok (.aload_n 0, 1) := by decide +kernel
theorem dX12_sum_24 : decode cX12_sum 24 = .ok (.iload_n 1, 1) := by decide +kernel
theorem dX12_sum_25 : decode cX12_sum 25 = .ok (.iload_n 2, 1) := by decide +kernel
theorem dX12_sum_26 : decode cX12_sum 26 = .ok (.invokevirtual 190, 3) := by decide +kernel
theorem dX12_sum_29 : decode cX12_sum 29 = .ok (.aload_n 0, 1) := by decide +kernel
theorem dX12_sum_30 : decode cX12_sum 30 = .ok (.iload_n 3, 1) := by decide +kernel
theorem dX12_sum_31 : decode cX12_sum 31 = .ok (.iconst 1, 1) := by decide +kernel
theorem dX12_sum_32 : decode cX12_sum 32 = .ok (.invokevirtual 124, 3) := by decide +kernel
theorem dX12_sum_35 : decode cX12_sum 35 = .ok (.ireturn, 1) := by decide +kernel
theorem dX12_mixed_0 : decode cX12_mixed 0 = .ok (.iload_n 1, 1) := by decide +kernel
theorem dX12_mixed_1 : decode cX12_mixed 1 = .ok (.invokestatic 120, 3) := by decide +kernel
theorem dX12_mixed_4 : decode cX12_mixed 4 = .ok (.ifCond .eq 10, 3) := by decide +kernel
theorem dX12_mixed_7 : decode cX12_mixed 7 = .ok (.iload_n 2, 1) := by decide +kernel
theorem dX12_mixed_8 : decode cX12_mixed 8 = .ok (.invokestatic 120, 3) := by decide +kernel
theorem dX12_mixed_11 : decode cX12_mixed 11 = .ok (.ifCond .ne 5, 3) := by decide +kernel
theorem dX12_mixed_14 : decode cX12_mixed 14 = .ok (.iconst (-1), 1) := by decide +kernel
theorem dX12_mixed_15 : decode cX12_mixed 15 = .ok (.ireturn, 1) := by decide +kernel
theorem dX12_mixed_16 : decode cX12_mixed 16 = .ok (.aload_n 0, 1) := by decide +kernel
theorem dX12_mixed_17 : decode cX12_mixed 17 = .ok (.getfield 7, 3) := by decide +kernel
theorem dX12_mixed_20 : decode cX12_mixed 20 = .ok (.iload_n 1, 1) := by decide +kernel
theorem dX12_mixed_21 : decode cX12_mixed 21 = .ok (.iaload, 1) := by decide +kernel
theorem dX12_mixed_22 : decode cX12_mixed 22 = .ok (.ifCond .eq 12, 3) := by decide +kernel
theorem dX12_mixed_25 : decode cX12_mixed 25 = .ok (.aload_n 0, 1) := by decide +kernel
theorem dX12_mixed_26 : decode cX12_mixed 26 = .ok (.getfield 7, 3) := by decide +kernel
theorem dX12_mixed_29 : decode cX12_mixed 29 = .ok (.iload_n 2, 1) := by decide +kernel
theorem dX12_mixed_30 : decode cX12_mixed 30 = .ok (.iaload, 1) := by decide +kernel
theorem dX12_mixed_31 : decode cX12_mixed 31 = .ok (.ifCond .ne 5, 3) := by decide +kernel
theorem dX12_mixed_34 : decode cX12_mixed 34 = .ok (.iconst 0, 1) := by decide +kernel
theorem dX12_mixed_35 : decode cX12_mixed 35 = .ok (.ireturn, 1) := by decide +kernel
theorem dX12_mixed_36 : decode cX12_mixed 36 = .ok (.aload_n 0, 1) := by decide +kernel
theorem dX12_mixed_37 : decode cX12_mixed 37 = .ok (.iload_n 1, 1) := by decide +kernel
theorem dX12_mixed_38 : decode cX12_mixed 38 = .ok (.iload_n 2, 1) := by decide +kernel
theorem dX12_mixed_39 : decode cX12_mixed 39 = .ok (.invokevirtual 190, 3) := by decide +kernel
theorem dX12_mixed_42 : decode cX12_mixed 42 = .ok (.iconst 0, 1) := by decide +kernel
theorem dX12_mixed_43 : decode cX12_mixed 43 = .ok (.istore_n 3, 1) := by decide +kernel
theorem dX12_mixed_44 : decode cX12_mixed 44 = .ok (.iconst 0, 1) := by decide +kernel
theorem dX12_mixed_45 : decode cX12_mixed 45 = .ok (.istore 4, 2) := by decide +kernel
theorem dX12_mixed_47 : decode cX12_mixed 47 = .ok (.iload 4, 2) := by decide +kernel
theorem dX12_mixed_49 : decode cX12_mixed 49 = .ok (.aload_n 0, 1) := by decide +kernel
theorem dX12_mixed_50 : decode cX12_mixed 50 = .ok (.getfield 97, 3) := by decide +kernel
theorem dX12_mixed_53 : decode cX12_mixed 53 = .ok (.if_icmp .ge 54, 3) := by decide +kernel
theorem dX12_mixed_56 : decode cX12_mixed 56 = .ok (.iload 4, 2) := by decide +kernel
theorem dX12_mixed_58 : decode cX12_mixed 58 = .ok (.iconst 1, 1) := by decide +kernel
theorem dX12_mixed_59 : decode cX12_mixed 59 = .ok (.iadd, 1) := by decide +kernel
theorem dX12_mixed_60 : decode cX12_mixed 60 = .ok (.aload_n 0, 1) := by decide +kernel
theorem dX12_mixed_61 : decode cX12_mixed 61 = .ok (.getfield 97, 3) := by decide +kernel
theorem dX12_mixed_64 : decode cX12_mixed 64 = .ok (.irem, 1) := by decide +kernel
theorem dX12_mixed_65 : decode cX12_mixed 65 = .ok (.istore 5, 2) := by decide +kernel
theorem dX12_mixed_67 : decode cX12_mixed 67 = .ok (.iload_n 3, 1) := by decide +kernel
theorem dX12_mixed_68 : decode cX12_mixed 68 = .ok (.aload_n 0, 1) := by decide +kernel
theorem dX12_mixed_69 : decode cX12_mixed 69 = .ok (.getfield 28, 3) := by decide +kernel
theorem dX12_mixed_72 : decode cX12_mixed 72 = .ok (.iload 4, 2) := by decide +kernel
theorem dX12_mixed_74 : decode cX12_mixed 74 = .ok (.iaload, 1) := by decide +kernel
theorem dX12_mixed_75 : decode cX12_mixed 75 = .ok (.aload_n 0, 1) := by decide +kernel
theorem dX12_mixed_76 : decode cX12_mixed 76 = .ok (.getfield 31, 3) := by decide +kernel
theorem dX12_mixed_79 : decode cX12_mixed 79 = .ok (.iload 5, 2) := by decide +kernel
theorem dX12_mixed_81 : decode cX12_mixed 81 = .ok (.iaload, 1) := by decide +kernel
theorem dX12_mixed_82 : decode cX12_mixed 82 = .ok (.imul, 1) := by decide +kernel
theorem dX12_mixed_83 : decode cX12_mixed 83 = .ok (.aload_n 0, 1) := by decide +kernel
theorem dX12_mixed_84 : decode cX12_mixed 84 = .ok (.getfield 28, 3) := by decide +kernel
theorem dX12_mixed_87 : decode cX12_mixed 87 = .ok (.iload 5, 2) := by decide +kernel
theorem dX12_mixed_89 : decode cX12_mixed 89 = .ok (.iaload, 1) := by decide +kernel
theorem dX12_mixed_90 : decode cX12_mixed 90 = .ok (.aload_n 0, 1) := by decide +kernel
theorem dX12_mixed_91 : decode cX12_mixed 91 = .ok (.getfield 31, 3) := by decide +kernel
theorem dX12_mixed_94 : decode cX12_mixed 94 = .ok (.iload 4, 2) := by decide +kernel
theorem dX12_mixed_96 : decode cX12_mixed 96 = .ok (.iaload, 1) := by decide +kernel
theorem dX12_mixed_97 : decode cX12_mixed 97 = .ok (.imul, 1) := by decide +kernel
theorem dX12_mixed_98 : decode cX12_mixed 98 = .ok (.isub, 1) := by decide +kernel
theorem dX12_mixed_99 : decode cX12_mixed 99 = .ok (.iadd, 1) := by decide +kernel
theorem dX12_mixed_100 : decode cX12_mixed 100 = .ok (.istore_n 3, 1) := by decide +kernel
theorem dX12_mixed_101 : decode cX12_mixed 101 = .ok (.iinc 4 1, 3) := by decide +kernel
theorem dX12_mixed_104 : decode cX12_mixed 104 = .ok (.goto (-57), 3) := by decide +kernel
theorem dX12_mixed_107 : decode cX12_mixed 107 = .ok (.iload_n 3, 1) := by decide +kernel
theorem dX12_mixed_108 : decode cX12_mixed 108 = .ok (.aload_n 0, 1) := by decide +kernel
theorem dX12_mixed_109 : decode cX12_mixed 109 = .ok (.iload_n 1, 1) := by decide +kernel
theorem dX12_mixed_110 : decode cX12_mixed 110 = .ok (.invokevirtual 145, 3) := by decide +kernel
theorem dX12_mixed_113 : decode cX12_mixed 113 = .ok (.isub, 1) := by decide +kernel
theorem dX12_mixed_114 : decode cX12_mixed 114 = .ok (.aload_n 0, 1) := by decide +kernel
theorem dX12_mixed_115 : decode cX12_mixed 115 = .ok (.iload_n 2, 1) := by decide +kernel
theorem dX12_mixed_116 : decode cX12_mixed 116 = .ok (.invokevirtual 145, 3) := by decide +kernel
theorem dX12_mixed_119 : decode cX12_mixed 119 = .ok (.isub, 1) := by decide +kernel
theorem dX12_mixed_120 : decode cX12_mixed 120 = .ok (.ireturn, 1) := by decide +kernel
theorem dX12_spot_0 : decode cX12_spot 0 = .ok (.iload_n 0, 1) := by decide +kernel
theorem dX12_spot_1 : decode cX12_spot 1 = .ok (.bipush (-80), 2) := by decide +kernel
theorem dX12_spot_3 : decode cX12_spot 3 = .ok (.bipush 80, 2) := by decide +kernel
theorem dX12_spot_5 : decode cX12_spot 5 = .ok (.invokestatic 81, 3) := by decide +kernel
theorem dX12_spot_8 : decode cX12_spot 8 = .ok (.ifCond .eq 30, 3) := by decide +kernel
theorem dX12_spot_11 : decode cX12_spot 11 = .ok (.iload_n 1, 1) := by decide +kernel
theorem dX12_spot_12 : decode cX12_spot 12 = .ok (.bipush (-80), 2) := by decide +kernel
theorem dX12_spot_14 : decode cX12_spot 14 = .ok (.bipush 80, 2) := by decide +kernel
theorem dX12_spot_16 : decode cX12_spot 16 = .ok (.invokestatic 81, 3) := by decide +kernel
theorem dX12_spot_19 : decode cX12_spot 19 = .ok (.ifCond .eq 19, 3) := by decide +kernel
theorem dX12_spot_22 : decode cX12_spot 22 = .ok (.sipush 161, 3) := by decide +kernel
theorem dX12_spot_25 : decode cX12_spot 25 = .ok (.iload_n 1, 1) := by decide +kernel
theorem dX12_spot_26 : decode cX12_spot 26 = .ok (.bipush 80, 2) := by decide +kernel
theorem dX12_spot_28 : decode cX12_spot 28 = .ok (.iadd, 1) := by decide +kernel
theorem dX12_spot_29 : decode cX12_spot 29 = .ok (.imul, 1) := by decide +kernel
theorem dX12_spot_30 : decode cX12_spot 30 = .ok (.iload_n 0, 1) := by decide +kernel
theorem dX12_spot_31 : decode cX12_spot 31 = .ok (.iadd, 1) := by decide +kernel
theorem dX12_spot_32 : decode cX12_spot 32 = .ok (.bipush 80, 2) := by decide +kernel
theorem dX12_spot_34 : decode cX12_spot 34 = .ok (.iadd, 1) := by decide +kernel
theorem dX12_spot_35 : decode cX12_spot 35 = .ok (.goto 5, 3) := by decide +kernel
theorem dX12_spot_38 : decode cX12_spot 38 = .ok (.bipush (-9), 2) := by decide +kernel
theorem dX12_spot_40 : decode cX12_spot 40 = .ok (.ireturn, 1) := by decide +kernel
theorem dX12_stepX_0 : decode cX12_stepX 0 = .ok (.aload_n 0, 1) := by decide +kernel
theorem dX12_stepX_1 : decode cX12_stepX 1 = .ok (.iload_n 1, 1) := by decide +kernel
theorem dX12_stepX_2 : decode cX12_stepX 2 = .ok (.iload_n 2, 1) := by decide +kernel
theorem dX12_stepX_3 : decode cX12_stepX 3 = .ok (.iconst 1, 1) := by decide +kernel
theorem dX12_stepX_4 : decode cX12_stepX 4 = .ok (.iadd, 1) := by decide +kernel
theorem dX12_stepX_5 : decode cX12_stepX 5 = .ok (.invokevirtual 107, 3) := by decide +kernel
theorem dX12_stepX_8 : decode cX12_stepX 8 = .ok (.aload_n 0, 1) := by decide +kernel
theorem dX12_stepX_9 : decode cX12_stepX 9 = .ok (.iload_n 1, 1) := by decide +kernel
theorem dX12_stepX_10 : decode cX12_stepX 10 = .ok (.iload_n 2, 1) := by decide +kernel
theorem dX12_stepX_11 : decode cX12_stepX 11 = .ok (.invokevirtual 107, 3) := by decide +kernel
theorem dX12_stepX_14 : decode cX12_stepX 14 = .ok (.isub, 1) := by decide +kernel
theorem dX12_stepX_15 : decode cX12_stepX 15 = .ok (.aload_n 0, 1) := by decide +kernel
theorem dX12_stepX_16 : decode cX12_stepX 16 = .ok (.iload_n 1, 1) := by decide +kernel
theorem dX12_stepX_17 : decode cX12_stepX 17 = .ok (.iload_n 2, 1) := by decide +kernel
theorem dX12_stepX_18 : decode cX12_stepX 18 = .ok (.invokevirtual 139, 3) := by decide +kernel
theorem dX12_stepX_21 : decode cX12_stepX 21 = .ok (.idiv, 1) := by decide +kernel
theorem dX12_stepX_22 : decode cX12_stepX 22 = .ok (.ireturn, 1) := by decide +kernel
theorem dX12_stepY_0 : decode cX12_stepY 0 = .ok (.aload_n 0, 1) := by decide +kernel
theorem dX12_stepY_1 : decode cX12_stepY 1 = .ok (.iload_n 1, 1) := by decide +kernel
theorem dX12_stepY_2 : decode cX12_stepY 2 = .ok (.iload_n 2, 1) := by decide +kernel
theorem dX12_stepY_3 : decode cX12_stepY 3 = .ok (.iconst 1, 1) := by decide +kernel
theorem dX12_stepY_4 : decode cX12_stepY 4 = .ok (.iadd, 1) := by decide +kernel
theorem dX12_stepY_5 : decode cX12_stepY 5 = .ok (.invokevirtual 111, 3) := by decide +kernel
theorem dX12_stepY_8 : decode cX12_stepY 8 = .ok (.aload_n 0, 1) := by decide +kernel
theorem dX12_stepY_9 : decode cX12_stepY 9 = .ok (.iload_n 1, 1) := by decide +kernel
theorem dX12_stepY_10 : decode cX12_stepY 10 = .ok (.iload_n 2, 1) := by decide +kernel
theorem dX12_stepY_11 : decode cX12_stepY 11 = .ok (.invokevirtual 111, 3) := by decide +kernel
theorem dX12_stepY_14 : decode cX12_stepY 14 = .ok (.isub, 1) := by decide +kernel
theorem dX12_stepY_15 : decode cX12_stepY 15 = .ok (.aload_n 0, 1) := by decide +kernel
theorem dX12_stepY_16 : decode cX12_stepY 16 = .ok (.iload_n 1, 1) := by decide +kernel
theorem dX12_stepY_17 : decode cX12_stepY 17 = .ok (.iload_n 2, 1) := by decide +kernel
theorem dX12_stepY_18 : decode cX12_stepY 18 = .ok (.invokevirtual 139, 3) := by decide +kernel
theorem dX12_stepY_21 : decode cX12_stepY 21 = .ok (.idiv, 1) := by decide +kernel
theorem dX12_stepY_22 : decode cX12_stepY 22 = .ok (.ireturn, 1) := by decide +kernel
theorem dX12_parts_0 : decode cX12_parts 0 = .ok (.iload_n 1, 1) := by decide +kernel
theorem dX12_parts_1 : decode cX12_parts 1 = .ok (.invokestatic 120, 3) := by decide +kernel
theorem dX12_parts_4 : decode cX12_parts 4 = .ok (.ifCond .ne 7, 3) := by decide +kernel
theorem dX12_parts_7 : decode cX12_parts 7 = .ok (.ldc2_w 154, 3) := by decide +kernel
theorem dX12_parts_10 : decode cX12_parts 10 = .ok (.lreturn, 1) := by decide +kernel
theorem dX12_parts_11 : decode cX12_parts 11 = .ok (.aload_n 0, 1) := by decide +kernel
theorem dX12_parts_12 : decode cX12_parts 12 = .ok (.iload_n 1, 1) := by decide +kernel
theorem dX12_parts_13 : decode cX12_parts 13 = .ok (.invokevirtual 142, 3) := by decide +kernel
theorem dX12_parts_16 : decode cX12_parts 16 = .ok (.ifCond .ne 7, 3) := by decide +kernel
theorem dX12_parts_19 : decode cX12_parts 19 = .ok (.ldc2_w 156, 3) := by decide +kernel
theorem dX12_parts_22 : decode cX12_parts 22 = .ok (.lreturn, 1) := by decide +kernel
theorem dX12_parts_23 : decode cX12_parts 23 = .ok (.iconst 0, 1) := by decide +kernel
theorem dX12_parts_24 : decode cX12_parts 24 = .ok (.istore_n 2, 1) := by decide +kernel
theorem dX12_parts_25 : decode cX12_parts 25 = .ok (.iload_n 2, 1) := by decide +kernel
theorem dX12_parts_26 : decode cX12_parts 26 = .ok (.sipush 25921, 3) := by decide +kernel
theorem dX12_parts_29 : decode cX12_parts 29 = .ok (.if_icmp .ge 29, 3) := by decide +kernel
theorem dX12_parts_32 : decode cX12_parts 32 = .ok (.aload_n 0, 1) := by decide +kernel
theorem dX12_parts_33 : decode cX12_parts 33 = .ok (.getfield 40, 3) := by decide +kernel
theorem dX12_parts_36 : decode cX12_parts 36 = .ok (.iload_n 2, 1) := by decide +kernel
theorem dX12_parts_37 : decode cX12_parts 37 = .ok (.iload_n 2, 1) := by decide +kernel
theorem dX12_parts_38 : decode cX12_parts 38 = .ok (.iconst 0, 1) := by decide +kernel
theorem dX12_parts_39 : decode cX12_parts 39 = .ok (.iconst 0, 1) := by decide +kernel
theorem dX12_parts_40 : decode cX12_parts 40 = .ok (.invokestatic 193, 3) := by decide +kernel
theorem dX12_parts_43 : decode cX12_parts 43 = .ok (.if_icmp .ne 7, 3) := by decide +kernel
theorem dX12_parts_46 : decode cX12_parts 46 = .ok (.lconst 1, 1) := by decide +kernel
theorem dX12_parts_47 : decode cX12_parts 47 = .ok (.goto 4, 3) := by decide +kernel
theorem dX12_parts_50 : decode cX12_parts 50 = .ok (.lconst 0, 1) := by decide +kernel
theorem dX12_parts_51 : decode cX12_parts 51 = .ok (.lastore, 1) := by decide +kernel
theorem dX12_parts_52 : decode cX12_parts 52 = .ok (.iinc 2 1, 3) := by decide +kernel
theorem dX12_parts_55 : decode cX12_parts 55 = .ok (.goto (-30), 3) := by decide +kernel
theorem dX12_parts_58 : decode cX12_parts 58 = .ok (.iconst 0, 1) := by decide +kernel
theorem dX12_parts_59 : decode cX12_parts 59 = .ok (.istore_n 2, 1) := by decide +kernel
theorem dX12_parts_60 : decode cX12_parts 60 = .ok (.iload_n 2, 1) := by decide +kernel
theorem dX12_parts_61 : decode cX12_parts 61 = .ok (.aload_n 0, 1) := by decide +kernel
theorem dX12_parts_62 : decode cX12_parts 62 = .ok (.getfield 7, 3) := by decide +kernel
theorem dX12_parts_65 : decode cX12_parts 65 = .ok (.iload_n 1, 1) := by decide +kernel
theorem dX12_parts_66 : decode cX12_parts 66 = .ok (.iaload, 1) := by decide +kernel
theorem dX12_parts_67 : decode cX12_parts 67 = .ok (.if_icmp .ge 191, 3) := by decide +kernel
theorem dX12_parts_70 : decode cX12_parts 70 = .ok (.aload_n 0, 1) := by decide +kernel
theorem dX12_parts_71 : decode cX12_parts 71 = .ok (.iload_n 1, 1) := by decide +kernel
theorem dX12_parts_72 : decode cX12_parts 72 = .ok (.iload_n 2, 1) := by decide +kernel
theorem dX12_parts_73 : decode cX12_parts 73 = .ok (.invokevirtual 196, 3) := by decide +kernel
theorem dX12_parts_76 : decode cX12_parts 76 = .ok (.istore_n 3, 1) := by decide +kernel
theorem dX12_parts_77 : decode cX12_parts 77 = .ok (.aload_n 0, 1) := by decide +kernel
theorem dX12_parts_78 : decode cX12_parts 78 = .ok (.iload_n 1, 1) := by decide +kernel
theorem dX12_parts_79 : decode cX12_parts 79 = .ok (.iload_n 2, 1) := by decide +kernel
theorem dX12_parts_80 : decode cX12_parts 80 = .ok (.invokevirtual 199, 3) := by decide +kernel
theorem dX12_parts_83 : decode cX12_parts 83 = .ok (.istore 4, 2) := by decide +kernel
theorem dX12_parts_85 : decode cX12_parts 85 = .ok (.aload_n 0, 1) := by decide +kernel
theorem dX12_parts_86 : decode cX12_parts 86 = .ok (.iload_n 1, 1) := by decide +kernel
theorem dX12_parts_87 : decode cX12_parts 87 = .ok (.iload_n 2, 1) := by decide +kernel
theorem dX12_parts_88 : decode cX12_parts 88 = .ok (.invokevirtual 139, 3) := by decide +kernel
theorem dX12_parts_91 : decode cX12_parts 91 = .ok (.istore 5, 2) := by decide +kernel
theorem dX12_parts_93 : decode cX12_parts 93 = .ok (.iconst 0, 1) := by decide +kernel
theorem dX12_parts_94 : decode cX12_parts 94 = .ok (.istore 6, 2) := by decide +kernel
theorem dX12_parts_96 : decode cX12_parts 96 = .ok (.iload 6, 2) := by decide +kernel
theorem dX12_parts_98 : decode cX12_parts 98 = .ok (.sipush 25921, 3) := by decide +kernel
theorem dX12_parts_101 : decode cX12_parts 101 = .ok (.if_icmp .ge 17, 3) := by decide +kernel
theorem dX12_parts_104 : decode cX12_parts 104 = .ok (.aload_n 0, 1) := by decide +kernel
theorem dX12_parts_105 : decode cX12_parts 105 = .ok (.getfield 44, 3) := by decide +kernel
theorem dX12_parts_108 : decode cX12_parts 108 = .ok (.iload 6, 2) := by decide +kernel
theorem dX12_parts_110 : decode cX12_parts 110 = .ok (.lconst 0, 1) := by decide +kernel
theorem dX12_parts_111 : decode cX12_parts 111 = .ok (.lastore, 1) := by decide +kernel
theorem dX12_parts_112 : decode cX12_parts 112 = .ok (.iinc 6 1, 3) := by decide +kernel
theorem dX12_parts_115 : decode cX12_parts 115 = .ok (.goto (-19), 3) := by decide +kernel
theorem dX12_parts_118 : decode cX12_parts 118 = .ok (.iconst 0, 1) := by decide +kernel
theorem dX12_parts_119 : decode cX12_parts 119 = .ok (.istore 6, 2) := by decide +kernel
theorem dX12_parts_121 : decode cX12_parts 121 = .ok (.iload 6, 2) := by decide +kernel
theorem dX12_parts_123 : decode cX12_parts 123 = .ok (.sipush 25921, 3) := by decide +kernel
theorem dX12_parts_126 : decode cX12_parts 126 = .ok (.if_icmp .ge 95, 3) := by decide +kernel
theorem dX12_parts_129 : decode cX12_parts 129 = .ok (.aload_n 0, 1) := by decide +kernel
theorem dX12_parts_130 : decode cX12_parts 130 = .ok (.getfield 40, 3) := by decide +kernel
theorem dX12_parts_133 : decode cX12_parts 133 = .ok (.iload 6, 2) := by decide +kernel
theorem dX12_parts_135 : decode cX12_parts 135 = .ok (.laload, 1) := by decide +kernel
theorem dX12_parts_136 : decode cX12_parts 136 = .ok (.lconst 0, 1) := by decide +kernel
theorem dX12_parts_137 : decode cX12_parts 137 = .ok (.lcmp, 1) := by decide +kernel
theorem dX12_parts_138 : decode cX12_parts 138 = .ok (.ifCond .eq 77, 3) := by decide +kernel
theorem dX12_parts_141 : decode cX12_parts 141 = .ok (.iconst 0, 1) := by decide +kernel
theorem dX12_parts_142 : decode cX12_parts 142 = .ok (.istore 7, 2) := by decide +kernel
theorem dX12_parts_144 : decode cX12_parts 144 = .ok (.iload 7, 2) := by decide +kernel
theorem dX12_parts_146 : decode cX12_parts 146 = .ok (.iload 5, 2) := by decide +kernel
theorem dX12_parts_148 : decode cX12_parts 148 = .ok (.if_icmp .gt 67, 3) := by decide +kernel
theorem dX12_parts_151 : decode cX12_parts 151 = .ok (.iload 6, 2) := by decide +kernel
theorem dX12_parts_153 : decode cX12_parts 153 = .ok (.sipush 161, 3) := by decide +kernel
theorem dX12_parts_156 : decode cX12_parts 156 = .ok (.irem, 1) := by decide +kernel
theorem dX12_parts_157 : decode cX12_parts 157 = .ok (.bipush 80, 2) := by decide +kernel
theorem dX12_parts_159 : decode cX12_parts 159 = .ok (.isub, 1) := by decide +kernel
theorem dX12_parts_160 : decode cX12_parts 160 = .ok (.iload 7, 2) := by decide +kernel
theorem dX12_parts_162 : decode cX12_parts 162 = .ok (.iload_n 3, 1) := by decide +kernel
theorem dX12_parts_163 : decode cX12_parts 163 = .ok (.imul, 1) := by decide +kernel
theorem dX12_parts_164 : decode cX12_parts 164 = .ok (.iadd, 1) := by decide +kernel
theorem dX12_parts_165 : decode cX12_parts 165 = .ok (.iload 6, 2) := by decide +kernel
theorem dX12_parts_167 : decode cX12_parts 167 = .ok (.sipush 161, 3) := by decide +kernel
theorem dX12_parts_170 : decode cX12_parts 170 = .ok (.idiv, 1) := by decide +kernel
theorem dX12_parts_171 : decode cX12_parts 171 = .ok (.bipush 80, 2) := by decide +kernel
theorem dX12_parts_173 : decode cX12_parts 173 = .ok (.isub, 1) := by decide +kernel
theorem dX12_parts_174 : decode cX12_parts 174 = .ok (.iload 7, 2) := by decide +kernel
theorem dX12_parts_176 : decode cX12_parts 176 = .ok (.iload 4, 2) := by decide +kernel
theorem dX12_parts_178 : decode cX12_parts 178 = .ok (.imul, 1) := by decide +kernel
theorem dX12_parts_179 : decode cX12_parts 179 = .ok (.iadd, 1) := by decide +kernel
theorem dX12_parts_180 : decode cX12_parts 180 = .ok (.invokestatic 193, 3) := by decide +kernel
theorem dX12_parts_183 : decode cX12_parts 183 = .ok (.istore 8, 2) := by decide +kernel
theorem dX12_parts_185 : decode cX12_parts 185 = .ok (.iload 8, 2) := by decide +kernel
theorem dX12_parts_187 : decode cX12_parts 187 = .ok (.bipush (-9), 2) := by decide +kernel
theorem dX12_parts_189 : decode cX12_parts 189 = .ok (.if_icmp .eq 20, 3) := by decide +kernel
theorem dX12_parts_192 : decode cX12_parts 192 = .ok (.aload_n 0, 1) := by decide +kernel
theorem dX12_parts_193 : decode cX12_parts 193 = .ok (.getfield 44, 3) := by decide +kernel
theorem dX12_parts_196 : decode cX12_parts 196 = .ok (.iload 8, 2) := by decide +kernel
theorem dX12_parts_198 : decode cX12_parts 198 = .ok (.dup2, 1) := by decide +kernel
theorem dX12_parts_199 : decode cX12_parts 199 = .ok (.laload, 1) := by decide +kernel
theorem dX12_parts_200 : decode cX12_parts 200 = .ok (.aload_n 0, 1) := by decide +kernel
theorem dX12_parts_201 : decode cX12_parts 201 = .ok (.getfield 40, 3) := by decide +kernel
theorem dX12_parts_204 : decode cX12_parts 204 = .ok (.iload 6, 2) := by decide +kernel
theorem dX12_parts_206 : decode cX12_parts 206 = .ok (.laload, 1) := by decide +kernel
theorem dX12_parts_207 : decode cX12_parts 207 = .ok (.ladd, 1) := by decide +kernel
theorem dX12_parts_208 : decode cX12_parts 208 = .ok (.lastore, 1) := by decide +kernel
theorem dX12_parts_209 : decode cX12_parts 209 = .ok (.iinc 7 1, 3) := by decide +kernel
theorem dX12_parts_212 : decode cX12_parts 212 = .ok (.goto (-68), 3) := by decide +kernel
theorem dX12_parts_215 : decode cX12_parts 215 = .ok (.iinc 6 1, 3) := by decide +kernel
theorem dX12_parts_218 : decode cX12_parts 218 = .ok (.goto (-97), 3) := by decide +kernel
theorem dX12_parts_221 : decode cX12_parts 221 = .ok (.iconst 0, 1) := by decide +kernel
theorem dX12_parts_222 : decode cX12_parts 222 = .ok (.istore 6, 2) := by decide +kernel
theorem dX12_parts_224 : decode cX12_parts 224 = .ok (.iload 6, 2) := by decide +kernel
theorem dX12_parts_226 : decode cX12_parts 226 = .ok (.sipush 25921, 3) := by decide +kernel
theorem dX12_parts_229 : decode cX12_parts 229 = .ok (.if_icmp .ge 23, 3) := by decide +kernel
theorem dX12_parts_232 : decode cX12_parts 232 = .ok (.aload_n 0, 1) := by decide +kernel
theorem dX12_parts_233 : decode cX12_parts 233 = .ok (.getfield 40, 3) := by decide +kernel
theorem dX12_parts_236 : decode cX12_parts 236 = .ok (.iload 6, 2) := by decide +kernel
theorem dX12_parts_238 : decode cX12_parts 238 = .ok (.aload_n 0, 1) := by decide +kernel
theorem dX12_parts_239 : decode cX12_parts 239 = .ok (.getfield 44, 3) := by decide +kernel
theorem dX12_parts_242 : decode cX12_parts 242 = .ok (.iload 6, 2) := by decide +kernel
theorem dX12_parts_244 : decode cX12_parts 244 = .ok (.laload, 1) := by decide +kernel
theorem dX12_parts_245 : decode cX12_parts 245 = .ok (.lastore, 1) := by decide +kernel
theorem dX12_parts_246 : decode cX12_parts 246 = .ok (.iinc 6 1, 3) := by decide +kernel
theorem dX12_parts_249 : decode cX12_parts 249 = .ok (.goto (-25), 3) := by decide +kernel
theorem dX12_parts_252 : decode cX12_parts 252 = .ok (.iinc 2 1, 3) := by decide +kernel
theorem dX12_parts_255 : decode cX12_parts 255 = .ok (.goto (-195), 3) := by decide +kernel
theorem dX12_parts_258 : decode cX12_parts 258 = .ok (.aload_n 0, 1) := by decide +kernel
theorem dX12_parts_259 : decode cX12_parts 259 = .ok (.getfield 40, 3) := by decide +kernel
theorem dX12_parts_262 : decode cX12_parts 262 = .ok (.iconst 0, 1) := by decide +kernel
theorem dX12_parts_263 : decode cX12_parts 263 = .ok (.iconst 0, 1) := by decide +kernel
theorem dX12_parts_264 : decode cX12_parts 264 = .ok (.invokestatic 193, 3) := by decide +kernel
theorem dX12_parts_267 : decode cX12_parts 267 = .ok (.laload, 1) := by decide +kernel
theorem dX12_parts_268 : decode cX12_parts 268 = .ok (.lreturn, 1) := by decide +kernel
theorem dX12_backAt_0 : decode cX12_backAt 0 = .ok (.iload_n 2, 1) := by decide +kernel
theorem dX12_backAt_1 : decode cX12_backAt 1 = .ok (.iload_n 3, 1) := by decide +kernel
theorem dX12_backAt_2 : decode cX12_backAt 2 = .ok (.invokestatic 193, 3) := by decide +kernel
theorem dX12_backAt_5 : decode cX12_backAt 5 = .ok (.istore 4, 2) := by decide +kernel
theorem dX12_backAt_7 : decode cX12_backAt 7 = .ok (.iload 4, 2) := by decide +kernel
theorem dX12_backAt_9 : decode cX12_backAt 9 = .ok (.bipush (-9), 2) := by decide +kernel
theorem dX12_backAt_11 : decode cX12_backAt 11 = .ok (.if_icmp .ne 8, 3) := by decide +kernel
theorem dX12_backAt_14 : decode cX12_backAt 14 = .ok (.bipush (-9), 2) := by decide +kernel
theorem dX12_backAt_16 : decode cX12_backAt 16 = .ok (.goto 16, 3) := by decide +kernel
theorem dX12_backAt_19 : decode cX12_backAt 19 = .ok (.aload_n 0, 1) := by decide +kernel
theorem dX12_backAt_20 : decode cX12_backAt 20 = .ok (.getfield 48, 3) := by decide +kernel
theorem dX12_backAt_23 : decode cX12_backAt 23 = .ok (.sipush 25921, 3) := by decide +kernel
theorem dX12_backAt_26 : decode cX12_backAt 26 = .ok (.iload_n 1, 1) := by decide +kernel
theorem dX12_backAt_27 : decode cX12_backAt 27 = .ok (.imul, 1) := by decide +kernel
theorem dX12_backAt_28 : decode cX12_backAt 28 = .ok (.iload 4, 2) := by decide +kernel
theorem dX12_backAt_30 : decode cX12_backAt 30 = .ok (.iadd, 1) := by decide +kernel
theorem dX12_backAt_31 : decode cX12_backAt 31 = .ok (.iaload, 1) := by decide +kernel
theorem dX12_backAt_32 : decode cX12_backAt 32 = .ok (.ireturn, 1) := by decide +kernel
theorem dX12_findBack_0 : decode cX12_findBack 0 = .ok (.aload_n 0, 1) := by decide +kernel
theorem dX12_findBack_1 : decode cX12_findBack 1 = .ok (.getfield 7, 3) := by decide +kernel
theorem dX12_findBack_4 : decode cX12_findBack 4 = .ok (.iload_n 1, 1) := by decide +kernel
theorem dX12_findBack_5 : decode cX12_findBack 5 = .ok (.iaload, 1) := by decide +kernel
theorem dX12_findBack_6 : decode cX12_findBack 6 = .ok (.istore_n 2, 1) := by decide +kernel
theorem dX12_findBack_7 : decode cX12_findBack 7 = .ok (.iconst 0, 1) := by decide +kernel
theorem dX12_findBack_8 : decode cX12_findBack 8 = .ok (.istore_n 3, 1) := by decide +kernel
theorem dX12_findBack_9 : decode cX12_findBack 9 = .ok (.iload_n 3, 1) := by decide +kernel
theorem dX12_findBack_10 : decode cX12_findBack 10 = .ok (.sipush 25921, 3) := by decide +kernel
theorem dX12_findBack_13 : decode cX12_findBack 13 = .ok (.if_icmp .ge 36, 3) := by decide +kernel
theorem dX12_findBack_16 : decode cX12_findBack 16 = .ok (.aload_n 0, 1) := by decide +kernel
theorem dX12_findBack_17 : decode cX12_findBack 17 = .ok (.getfield 48, 3) := by decide +kernel
theorem dX12_findBack_20 : decode cX12_findBack 20 = .ok (.sipush 25921, 3) := by decide +kernel
theorem dX12_findBack_23 : decode cX12_findBack 23 = .ok (.iload_n 2, 1) := by decide +kernel
theorem dX12_findBack_24 : decode cX12_findBack 24 = .ok (.imul, 1) := by decide +kernel
theorem dX12_findBack_25 : decode cX12_findBack 25 = .ok (.iload_n 3, 1) := by decide +kernel
theorem dX12_findBack_26 : decode cX12_findBack 26 = .ok (.iadd, 1) := by decide +kernel
theorem dX12_findBack_27 : decode cX12_findBack 27 = .ok (.iload_n 3, 1) := by decide +kernel
theorem dX12_findBack_28 : decode cX12_findBack 28 = .ok (.iconst 0, 1) := by decide +kernel
theorem dX12_findBack_29 : decode cX12_findBack 29 = .ok (.iconst 0, 1) := by decide +kernel
theorem dX12_findBack_30 : decode cX12_findBack 30 = .ok (.invokestatic 193, 3) := by decide +kernel
theorem dX12_findBack_33 : decode cX12_findBack 33 = .ok (.if_icmp .ne 7, 3) := by decide +kernel
theorem dX12_findBack_36 : decode cX12_findBack 36 = .ok (.iconst 0, 1) := by decide +kernel
theorem dX12_findBack_37 : decode cX12_findBack 37 = .ok (.goto 5, 3) := by decide +kernel
theorem dX12_findBack_40 : decode cX12_findBack 40 = .ok (.bipush (-9), 2) := by decide +kernel
theorem dX12_findBack_42 : decode cX12_findBack 42 = .ok (.iastore, 1) := by decide +kernel
theorem dX12_findBack_43 : decode cX12_findBack 43 = .ok (.iinc 3 1, 3) := by decide +kernel
theorem dX12_findBack_46 : decode cX12_findBack 46 = .ok (.goto (-37), 3) := by decide +kernel
theorem dX12_findBack_49 : decode cX12_findBack 49 = .ok (.iload_n 2, 1) := by decide +kernel
theorem dX12_findBack_50 : decode cX12_findBack 50 = .ok (.iconst 1, 1) := by decide +kernel
theorem dX12_findBack_51 : decode cX12_findBack 51 = .ok (.isub, 1) := by decide +kernel
theorem dX12_findBack_52 : decode cX12_findBack 52 = .ok (.istore_n 3, 1) := by decide +kernel
theorem dX12_findBack_53 : decode cX12_findBack 53 = .ok (.iload_n 3, 1) := by decide +kernel
theorem dX12_findBack_54 : decode cX12_findBack 54 = .ok (.ifCond .lt 160, 3) := by decide +kernel
theorem dX12_findBack_57 : decode cX12_findBack 57 = .ok (.aload_n 0, 1) := by decide +kernel
theorem dX12_findBack_58 : decode cX12_findBack 58 = .ok (.iload_n 1, 1) := by decide +kernel
theorem dX12_findBack_59 : decode cX12_findBack 59 = .ok (.iload_n 3, 1) := by decide +kernel
theorem dX12_findBack_60 : decode cX12_findBack 60 = .ok (.invokevirtual 196, 3) := by decide +kernel
theorem dX12_findBack_63 : decode cX12_findBack 63 = .ok (.istore 4, 2) := by decide +kernel
theorem dX12_findBack_65 : decode cX12_findBack 65 = .ok (.aload_n 0, 1) := by decide +kernel
theorem dX12_findBack_66 : decode cX12_findBack 66 = .ok (.iload_n 1, 1) := by decide +kernel
theorem dX12_findBack_67 : decode cX12_findBack 67 = .ok (.iload_n 3, 1) := by decide +kernel
theorem dX12_findBack_68 : decode cX12_findBack 68 = .ok (.invokevirtual 199, 3) := by decide +kernel
theorem dX12_findBack_71 : decode cX12_findBack 71 = .ok (.istore 5, 2) := by decide +kernel
theorem dX12_findBack_73 : decode cX12_findBack 73 = .ok (.aload_n 0, 1) := by decide +kernel
theorem dX12_findBack_74 : decode cX12_findBack 74 = .ok (.iload_n 1, 1) := by decide +kernel
theorem dX12_findBack_75 : decode cX12_findBack 75 = .ok (.iload_n 3, 1) := by decide +kernel
theorem dX12_findBack_76 : decode cX12_findBack 76 = .ok (.invokevirtual 139, 3) := by decide +kernel
theorem dX12_findBack_79 : decode cX12_findBack 79 = .ok (.istore 6, 2) := by decide +kernel
theorem dX12_findBack_81 : decode cX12_findBack 81 = .ok (.iconst 0, 1) := by decide +kernel
theorem dX12_findBack_82 : decode cX12_findBack 82 = .ok (.istore 7, 2) := by decide +kernel
theorem dX12_findBack_84 : decode cX12_findBack 84 = .ok (.iload 7, 2) := by decide +kernel
theorem dX12_findBack_86 : decode cX12_findBack 86 = .ok (.sipush 25921, 3) := by decide +kernel
theorem dX12_findBack_89 : decode cX12_findBack 89 = .ok (.if_icmp .ge 119, 3) := by decide +kernel
theorem dX12_findBack_92 : decode cX12_findBack 92 = .ok (.bipush (-9), 2) := by decide +kernel
theorem dX12_findBack_94 : decode cX12_findBack 94 = .ok (.istore 8, 2) := by decide +kernel
theorem dX12_findBack_96 : decode cX12_findBack 96 = .ok (.iconst 0, 1) := by decide +kernel
theorem dX12_findBack_97 : decode cX12_findBack 97 = .ok (.istore 9, 2) := by decide +kernel
theorem dX12_findBack_99 : decode cX12_findBack 99 = .ok (.iload 9, 2) := by decide +kernel
theorem dX12_findBack_101 : decode cX12_findBack 101 = .ok (.iload 6, 2) := by decide +kernel
theorem dX12_findBack_103 : decode cX12_findBack 103 = .ok (.if_icmp .gt 84, 3) := by decide +kernel
theorem dX12_findBack_106 : decode cX12_findBack 106 = .ok (.aload_n 0, 1) := by decide +kernel
theorem dX12_findBack_107 : decode cX12_findBack 107 = .ok (.iload_n 3, 1) := by decide +kernel
theorem dX12_findBack_108 : decode cX12_findBack 108 = .ok (.iconst 1, 1) := by decide +kernel
theorem dX12_findBack_109 : decode cX12_findBack 109 = .ok (.iadd, 1) := by decide +kernel
theorem dX12_findBack_110 : decode cX12_findBack 110 = .ok (.iload 7, 2) := by decide +kernel
theorem dX12_findBack_112 : decode cX12_findBack 112 = .ok (.sipush 161, 3) := by decide +kernel
theorem dX12_findBack_115 : decode cX12_findBack 115 = .ok (.irem, 1) := by decide +kernel
theorem dX12_findBack_116 : decode cX12_findBack 116 = .ok (.bipush 80, 2) := by decide +kernel
theorem dX12_findBack_118 : decode cX12_findBack 118 = .ok (.isub, 1) := by decide +kernel
theorem dX12_findBack_119 : decode cX12_findBack 119 = .ok (.iload 9, 2) := by decide +kernel
theorem dX12_findBack_121 : decode cX12_findBack 121 = .ok (.iload 4, 2) := by decide +kernel
theorem dX12_findBack_123 : decode cX12_findBack 123 = .ok (.imul, 1) := by decide +kernel
theorem dX12_findBack_124 : decode cX12_findBack 124 = .ok (.iadd, 1) := by decide +kernel
theorem dX12_findBack_125 : decode cX12_findBack 125 = .ok (.iload 7, 2) := by decide +kernel
theorem dX12_findBack_127 : decode cX12_findBack 127 = .ok (.sipush 161, 3) := by decide +kernel
theorem dX12_findBack_130 : decode cX12_findBack 130 = .ok (.idiv, 1) := by decide +kernel
theorem dX12_findBack_131 : decode cX12_findBack 131 = .ok (.bipush 80, 2) := by decide +kernel
theorem dX12_findBack_133 : decode cX12_findBack 133 = .ok (.isub, 1) := by decide +kernel
theorem dX12_findBack_134 : decode cX12_findBack 134 = .ok (.iload 9, 2) := by decide +kernel
theorem dX12_findBack_136 : decode cX12_findBack 136 = .ok (.iload 5, 2) := by decide +kernel
theorem dX12_findBack_138 : decode cX12_findBack 138 = .ok (.imul, 1) := by decide +kernel
theorem dX12_findBack_139 : decode cX12_findBack 139 = .ok (.iadd, 1) := by decide +kernel
theorem dX12_findBack_140 : decode cX12_findBack 140 = .ok (.invokevirtual 202, 3) := by decide +kernel
theorem dX12_findBack_143 : decode cX12_findBack 143 = .ok (.istore 10, 2) := by decide +kernel
theorem dX12_findBack_145 : decode cX12_findBack 145 = .ok (.iload 10, 2) := by decide +kernel
theorem dX12_findBack_147 : decode cX12_findBack 147 = .ok (.bipush (-9), 2) := by decide +kernel
theorem dX12_findBack_149 : decode cX12_findBack 149 = .ok (.if_icmp .eq 28, 3) := by decide +kernel
theorem dX12_findBack_152 : decode cX12_findBack 152 = .ok (.iload 8, 2) := by decide +kernel
theorem dX12_findBack_154 : decode cX12_findBack 154 = .ok (.bipush (-9), 2) := by decide +kernel
theorem dX12_findBack_156 : decode cX12_findBack 156 = .ok (.if_icmp .eq 13, 3) := by decide +kernel
theorem dX12_findBack_159 : decode cX12_findBack 159 = .ok (.iload 10, 2) := by decide +kernel
theorem dX12_findBack_161 : decode cX12_findBack 161 = .ok (.iload 9, 2) := by decide +kernel
theorem dX12_findBack_163 : decode cX12_findBack 163 = .ok (.iadd, 1) := by decide +kernel
theorem dX12_findBack_164 : decode cX12_findBack 164 = .ok (.iload 8, 2) := by decide +kernel
theorem dX12_findBack_166 : decode cX12_findBack 166 = .ok (.if_icmp .ge 11, 3) := by decide +kernel
theorem dX12_findBack_169 : decode cX12_findBack 169 = .ok (.iload 10, 2) := by decide +kernel
theorem dX12_findBack_171 : decode cX12_findBack 171 = .ok (.iload 9, 2) := by decide +kernel
theorem dX12_findBack_173 : decode cX12_findBack 173 = .ok (.iadd, 1) := by decide +kernel
theorem dX12_findBack_174 : decode cX12_findBack 174 = .ok (.goto 5, 3) := by decide +kernel
theorem dX12_findBack_177 : decode cX12_findBack 177 = .ok (.iload 8, 2) := by decide +kernel
theorem dX12_findBack_179 : decode cX12_findBack 179 = .ok (.istore 8, 2) := by decide +kernel
theorem dX12_findBack_181 : decode cX12_findBack 181 = .ok (.iinc 9 1, 3) := by decide +kernel
theorem dX12_findBack_184 : decode cX12_findBack 184 = .ok (.goto (-85), 3) := by decide +kernel
theorem dX12_findBack_187 : decode cX12_findBack 187 = .ok (.aload_n 0, 1) := by decide +kernel
theorem dX12_findBack_188 : decode cX12_findBack 188 = .ok (.getfield 48, 3) := by decide +kernel
theorem dX12_findBack_191 : decode cX12_findBack 191 = .ok (.sipush 25921, 3) := by decide +kernel
theorem dX12_findBack_194 : decode cX12_findBack 194 = .ok (.iload_n 3, 1) := by decide +kernel
theorem dX12_findBack_195 : decode cX12_findBack 195 = .ok (.imul, 1) := by decide +kernel
theorem dX12_findBack_196 : decode cX12_findBack 196 = .ok (.iload 7, 2) := by decide +kernel
theorem dX12_findBack_198 : decode cX12_findBack 198 = .ok (.iadd, 1) := by decide +kernel
theorem dX12_findBack_199 : decode cX12_findBack 199 = .ok (.iload 8, 2) := by decide +kernel
theorem dX12_findBack_201 : decode cX12_findBack 201 = .ok (.iastore, 1) := by decide +kernel
theorem dX12_findBack_202 : decode cX12_findBack 202 = .ok (.iinc 7 1, 3) := by decide +kernel
theorem dX12_findBack_205 : decode cX12_findBack 205 = .ok (.goto (-121), 3) := by decide +kernel
theorem dX12_findBack_208 : decode cX12_findBack 208 = .ok (.iinc 3 (-1), 3) := by decide +kernel
theorem dX12_findBack_211 : decode cX12_findBack 211 = .ok (.goto (-158), 3) := by decide +kernel
theorem dX12_findBack_214 : decode cX12_findBack 214 = .ok (.return_, 1) := by decide +kernel
theorem dX12_leastPart_0 : decode cX12_leastPart 0 = .ok (.aload_n 0, 1) := by decide +kernel
theorem dX12_leastPart_1 : decode cX12_leastPart 1 = .ok (.iload_n 1, 1) := by decide +kernel
theorem dX12_leastPart_2 : decode cX12_leastPart 2 = .ok (.invokevirtual 205, 3) := by decide +kernel
theorem dX12_leastPart_5 : decode cX12_leastPart 5 = .ok (.aload_n 0, 1) := by decide +kernel
theorem dX12_leastPart_6 : decode cX12_leastPart 6 = .ok (.getfield 7, 3) := by decide +kernel
theorem dX12_leastPart_9 : decode cX12_leastPart 9 = .ok (.iload_n 1, 1) := by decide +kernel
theorem dX12_leastPart_10 : decode cX12_leastPart 10 = .ok (.iaload, 1) := by decide +kernel
theorem dX12_leastPart_11 : decode cX12_leastPart 11 = .ok (.istore_n 2, 1) := by decide +kernel
theorem dX12_leastPart_12 : decode cX12_leastPart 12 = .ok (.bipush (-9), 2) := by decide +kernel
theorem dX12_leastPart_14 : decode cX12_leastPart 14 = .ok (.istore_n 3, 1) := by decide +kernel
theorem dX12_leastPart_15 : decode cX12_leastPart 15 = .ok (.bipush (-9), 2) := by decide +kernel
theorem dX12_leastPart_17 : decode cX12_leastPart 17 = .ok (.istore 4, 2) := by decide +kernel
theorem dX12_leastPart_19 : decode cX12_leastPart 19 = .ok (.iconst 0, 1) := by decide +kernel
theorem dX12_leastPart_20 : decode cX12_leastPart 20 = .ok (.istore 5, 2) := by decide +kernel
theorem dX12_leastPart_22 : decode cX12_leastPart 22 = .ok (.iconst 0, 1) := by decide +kernel
theorem dX12_leastPart_23 : decode cX12_leastPart 23 = .ok (.istore 6, 2) := by decide +kernel
theorem dX12_leastPart_25 : decode cX12_leastPart 25 = .ok (.iload 6, 2) := by decide +kernel
theorem dX12_leastPart_27 : decode cX12_leastPart 27 = .ok (.iload_n 2, 1) := by decide +kernel
theorem dX12_leastPart_28 : decode cX12_leastPart 28 = .ok (.if_icmp .ge 112, 3) := by decide +kernel
theorem dX12_leastPart_31 : decode cX12_leastPart 31 = .ok (.iconst 1, 1) := by decide +kernel
theorem dX12_leastPart_32 : decode cX12_leastPart 32 = .ok (.istore 7, 2) := by decide +kernel
theorem dX12_leastPart_34 : decode cX12_leastPart 34 = .ok (.iload 7, 2) := by decide +kernel
theorem dX12_leastPart_36 : decode cX12_leastPart 36 = .ok (.aload_n 0, 1) := by decide +kernel
theorem dX12_leastPart_37 : decode cX12_leastPart 37 = .ok (.iload_n 1, 1) := by decide +kernel
theorem dX12_leastPart_38 : decode cX12_leastPart 38 = .ok (.iload 6, 2) := by decide +kernel
theorem dX12_leastPart_40 : decode cX12_leastPart 40 = .ok (.invokevirtual 139, 3) := by decide +kernel
theorem dX12_leastPart_43 : decode cX12_leastPart 43 = .ok (.if_icmp .gt 91, 3) := by decide +kernel
theorem dX12_leastPart_46 : decode cX12_leastPart 46 = .ok (.aload_n 0, 1) := by decide +kernel
theorem dX12_leastPart_47 : decode cX12_leastPart 47 = .ok (.iload 6, 2) := by decide +kernel
theorem dX12_leastPart_49 : decode cX12_leastPart 49 = .ok (.iconst 1, 1) := by decide +kernel
theorem dX12_leastPart_50 : decode cX12_leastPart 50 = .ok (.iadd, 1) := by decide +kernel
theorem dX12_leastPart_51 : decode cX12_leastPart 51 = .ok (.iload 7, 2) := by decide +kernel
theorem dX12_leastPart_53 : decode cX12_leastPart 53 = .ok (.aload_n 0, 1) := by decide +kernel
theorem dX12_leastPart_54 : decode cX12_leastPart 54 = .ok (.iload_n 1, 1) := by decide +kernel
theorem dX12_leastPart_55 : decode cX12_leastPart 55 = .ok (.iload 6, 2) := by decide +kernel
theorem dX12_leastPart_57 : decode cX12_leastPart 57 = .ok (.invokevirtual 196, 3) := by decide +kernel
theorem dX12_leastPart_60 : decode cX12_leastPart 60 = .ok (.imul, 1) := by decide +kernel
theorem dX12_leastPart_61 : decode cX12_leastPart 61 = .ok (.iload 7, 2) := by decide +kernel
theorem dX12_leastPart_63 : decode cX12_leastPart 63 = .ok (.aload_n 0, 1) := by decide +kernel
theorem dX12_leastPart_64 : decode cX12_leastPart 64 = .ok (.iload_n 1, 1) := by decide +kernel
theorem dX12_leastPart_65 : decode cX12_leastPart 65 = .ok (.iload 6, 2) := by decide +kernel
theorem dX12_leastPart_67 : decode cX12_leastPart 67 = .ok (.invokevirtual 199, 3) := by decide +kernel
theorem dX12_leastPart_70 : decode cX12_leastPart 70 = .ok (.imul, 1) := by decide +kernel
theorem dX12_leastPart_71 : decode cX12_leastPart 71 = .ok (.invokevirtual 202, 3) := by decide +kernel
theorem dX12_leastPart_74 : decode cX12_leastPart 74 = .ok (.istore 8, 2) := by decide +kernel
theorem dX12_leastPart_76 : decode cX12_leastPart 76 = .ok (.iload 8, 2) := by decide +kernel
theorem dX12_leastPart_78 : decode cX12_leastPart 78 = .ok (.bipush (-9), 2) := by decide +kernel
theorem dX12_leastPart_80 : decode cX12_leastPart 80 = .ok (.if_icmp .eq 48, 3) := by decide +kernel
theorem dX12_leastPart_83 : decode cX12_leastPart 83 = .ok (.iload_n 3, 1) := by decide +kernel
theorem dX12_leastPart_84 : decode cX12_leastPart 84 = .ok (.bipush (-9), 2) := by decide +kernel
theorem dX12_leastPart_86 : decode cX12_leastPart 86 = .ok (.if_icmp .eq 28, 3) := by decide +kernel
theorem dX12_leastPart_89 : decode cX12_leastPart 89 = .ok (.iload 8, 2) := by decide +kernel
theorem dX12_leastPart_91 : decode cX12_leastPart 91 = .ok (.iload 7, 2) := by decide +kernel
theorem dX12_leastPart_93 : decode cX12_leastPart 93 = .ok (.iadd, 1) := by decide +kernel
theorem dX12_leastPart_94 : decode cX12_leastPart 94 = .ok (.iload_n 3, 1) := by decide +kernel
theorem dX12_leastPart_95 : decode cX12_leastPart 95 = .ok (.if_icmp .lt 19, 3) := by decide +kernel
theorem dX12_leastPart_98 : decode cX12_leastPart 98 = .ok (.iload 8, 2) := by decide +kernel
theorem dX12_leastPart_100 : decode cX12_leastPart 100 = .ok (.iload 7, 2) := by decide +kernel
theorem dX12_leastPart_102 : decode cX12_leastPart 102 = .ok (.iadd, 1) := by decide +kernel
theorem dX12_leastPart_103 : decode cX12_leastPart 103 = .ok (.iload_n 3, 1) := by decide +kernel
theorem dX12_leastPart_104 : decode cX12_leastPart 104 = .ok (.if_icmp .ne 24, 3) := by decide +kernel
theorem dX12_leastPart_107 : decode cX12_leastPart 107 = .ok (.iload 6, 2) := by decide +kernel
theorem dX12_leastPart_109 : decode cX12_leastPart 109 = .ok (.iload 4, 2) := by decide +kernel
theorem dX12_leastPart_111 : decode cX12_leastPart 111 = .ok (.if_icmp .le 17, 3) := by decide +kernel
theorem dX12_leastPart_114 : decode cX12_leastPart 114 = .ok (.iload 8, 2) := by decide +kernel
theorem dX12_leastPart_116 : decode cX12_leastPart 116 = .ok (.iload 7, 2) := by decide +kernel
theorem dX12_leastPart_118 : decode cX12_leastPart 118 = .ok (.iadd, 1) := by decide +kernel
theorem dX12_leastPart_119 : decode cX12_leastPart 119 = .ok (.istore_n 3, 1) := by decide +kernel
theorem dX12_leastPart_120 : decode cX12_leastPart 120 = .ok (.iload 6, 2) := by decide +kernel
theorem dX12_leastPart_122 : decode cX12_leastPart 122 = .ok (.istore 4, 2) := by decide +kernel
theorem dX12_leastPart_124 : decode cX12_leastPart 124 = .ok (.iload 7, 2) := by decide +kernel
theorem dX12_leastPart_126 : decode cX12_leastPart 126 = .ok (.istore 5, 2) := by decide +kernel
theorem dX12_leastPart_128 : decode cX12_leastPart 128 = .ok (.iinc 7 1, 3) := by decide +kernel
theorem dX12_leastPart_131 : decode cX12_leastPart 131 = .ok (.goto (-97), 3) := by decide +kernel
theorem dX12_leastPart_134 : decode cX12_leastPart 134 = .ok (.iinc 6 1, 3) := by decide +kernel
theorem dX12_leastPart_137 : decode cX12_leastPart 137 = .ok (.goto (-112), 3) := by decide +kernel
theorem dX12_leastPart_140 : decode cX12_leastPart 140 = .ok (.iconst 0, 1) := by decide +kernel
theorem dX12_leastPart_141 : decode cX12_leastPart 141 = .ok (.istore 6, 2) := by decide +kernel
theorem dX12_leastPart_143 : decode cX12_leastPart 143 = .ok (.iconst 0, 1) := by decide +kernel
theorem dX12_leastPart_144 : decode cX12_leastPart 144 = .ok (.istore 7, 2) := by decide +kernel
theorem dX12_leastPart_146 : decode cX12_leastPart 146 = .ok (.iconst 0, 1) := by decide +kernel
theorem dX12_leastPart_147 : decode cX12_leastPart 147 = .ok (.istore 8, 2) := by decide +kernel
theorem dX12_leastPart_149 : decode cX12_leastPart 149 = .ok (.iload 8, 2) := by decide +kernel
theorem dX12_leastPart_151 : decode cX12_leastPart 151 = .ok (.iload_n 2, 1) := by decide +kernel
theorem dX12_leastPart_152 : decode cX12_leastPart 152 = .ok (.if_icmp .ge 183, 3) := by decide +kernel
theorem dX12_leastPart_155 : decode cX12_leastPart 155 = .ok (.aload_n 0, 1) := by decide +kernel
theorem dX12_leastPart_156 : decode cX12_leastPart 156 = .ok (.getfield 51, 3) := by decide +kernel
theorem dX12_leastPart_159 : decode cX12_leastPart 159 = .ok (.iload 8, 2) := by decide +kernel
theorem dX12_leastPart_161 : decode cX12_leastPart 161 = .ok (.iload 8, 2) := by decide +kernel
theorem dX12_leastPart_163 : decode cX12_leastPart 163 = .ok (.iload 4, 2) := by decide +kernel
theorem dX12_leastPart_165 : decode cX12_leastPart 165 = .ok (.if_icmp .ne 8, 3) := by decide +kernel
theorem dX12_leastPart_168 : decode cX12_leastPart 168 = .ok (.iload 5, 2) := by decide +kernel
theorem dX12_leastPart_170 : decode cX12_leastPart 170 = .ok (.goto 4, 3) := by decide +kernel
theorem dX12_leastPart_173 : decode cX12_leastPart 173 = .ok (.iconst 0, 1) := by decide +kernel
theorem dX12_leastPart_174 : decode cX12_leastPart 174 = .ok (.iastore, 1) := by decide +kernel
theorem dX12_leastPart_175 : decode cX12_leastPart 175 = .ok (.iload 8, 2) := by decide +kernel
theorem dX12_leastPart_177 : decode cX12_leastPart 177 = .ok (.iload 4, 2) := by decide +kernel
theorem dX12_leastPart_179 : decode cX12_leastPart 179 = .ok (.if_icmp .le 110, 3) := by decide +kernel
theorem dX12_leastPart_182 : decode cX12_leastPart 182 = .ok (.iconst 0, 1) := by decide +kernel
theorem dX12_leastPart_183 : decode cX12_leastPart 183 = .ok (.istore 9, 2) := by decide +kernel
theorem dX12_leastPart_185 : decode cX12_leastPart 185 = .ok (.aload_n 0, 1) := by decide +kernel
theorem dX12_leastPart_186 : decode cX12_leastPart 186 = .ok (.iload 8, 2) := by decide +kernel
theorem dX12_leastPart_188 : decode cX12_leastPart 188 = .ok (.iconst 1, 1) := by decide +kernel
theorem dX12_leastPart_189 : decode cX12_leastPart 189 = .ok (.iadd, 1) := by decide +kernel
theorem dX12_leastPart_190 : decode cX12_leastPart 190 = .ok (.iload 6, 2) := by decide +kernel
theorem dX12_leastPart_192 : decode cX12_leastPart 192 = .ok (.iload 9, 2) := by decide +kernel
theorem dX12_leastPart_194 : decode cX12_leastPart 194 = .ok (.aload_n 0, 1) := by decide +kernel
theorem dX12_leastPart_195 : decode cX12_leastPart 195 = .ok (.iload_n 1, 1) := by decide +kernel
theorem dX12_leastPart_196 : decode cX12_leastPart 196 = .ok (.iload 8, 2) := by decide +kernel
theorem dX12_leastPart_198 : decode cX12_leastPart 198 = .ok (.invokevirtual 196, 3) := by decide +kernel
theorem dX12_leastPart_201 : decode cX12_leastPart 201 = .ok (.imul, 1) := by decide +kernel
theorem dX12_leastPart_202 : decode cX12_leastPart 202 = .ok (.iadd, 1) := by decide +kernel
theorem dX12_leastPart_203 : decode cX12_leastPart 203 = .ok (.iload 7, 2) := by decide +kernel
theorem dX12_leastPart_205 : decode cX12_leastPart 205 = .ok (.iload 9, 2) := by decide +kernel
theorem dX12_leastPart_207 : decode cX12_leastPart 207 = .ok (.aload_n 0, 1) := by decide +kernel
theorem dX12_leastPart_208 : decode cX12_leastPart 208 = .ok (.iload_n 1, 1) := by decide +kernel
theorem dX12_leastPart_209 : decode cX12_leastPart 209 = .ok (.iload 8, 2) := by decide +kernel
theorem dX12_leastPart_211 : decode cX12_leastPart 211 = .ok (.invokevirtual 199, 3) := by decide +kernel
theorem dX12_leastPart_214 : decode cX12_leastPart 214 = .ok (.imul, 1) := by decide +kernel
theorem dX12_leastPart_215 : decode cX12_leastPart 215 = .ok (.iadd, 1) := by decide +kernel
theorem dX12_leastPart_216 : decode cX12_leastPart 216 = .ok (.invokevirtual 202, 3) := by decide +kernel
theorem dX12_leastPart_219 : decode cX12_leastPart 219 = .ok (.bipush (-9), 2) := by decide +kernel
theorem dX12_leastPart_221 : decode cX12_leastPart 221 = .ok (.if_icmp .eq 53, 3) := by decide +kernel
theorem dX12_leastPart_224 : decode cX12_leastPart 224 = .ok (.aload_n 0, 1) := by decide +kernel
theorem dX12_leastPart_225 : decode cX12_leastPart 225 = .ok (.iload 8, 2) := by decide +kernel
theorem dX12_leastPart_227 : decode cX12_leastPart 227 = .ok (.iconst 1, 1) := by decide +kernel
theorem dX12_leastPart_228 : decode cX12_leastPart 228 = .ok (.iadd, 1) := by decide +kernel
theorem dX12_leastPart_229 : decode cX12_leastPart 229 = .ok (.iload 6, 2) := by decide +kernel
theorem dX12_leastPart_231 : decode cX12_leastPart 231 = .ok (.iload 9, 2) := by decide +kernel
theorem dX12_leastPart_233 : decode cX12_leastPart 233 = .ok (.aload_n 0, 1) := by decide +kernel
theorem dX12_leastPart_234 : decode cX12_leastPart 234 = .ok (.iload_n 1, 1) := by decide +kernel
theorem dX12_leastPart_235 : decode cX12_leastPart 235 = .ok (.iload 8, 2) := by decide +kernel
theorem dX12_leastPart_237 : decode cX12_leastPart 237 = .ok (.invokevirtual 196, 3) := by decide +kernel
theorem dX12_leastPart_240 : decode cX12_leastPart 240 = .ok (.imul, 1) := by decide +kernel
theorem dX12_leastPart_241 : decode cX12_leastPart 241 = .ok (.iadd, 1) := by decide +kernel
theorem dX12_leastPart_242 : decode cX12_leastPart 242 = .ok (.iload 7, 2) := by decide +kernel
theorem dX12_leastPart_244 : decode cX12_leastPart 244 = .ok (.iload 9, 2) := by decide +kernel
theorem dX12_leastPart_246 : decode cX12_leastPart 246 = .ok (.aload_n 0, 1) := by decide +kernel
theorem dX12_leastPart_247 : decode cX12_leastPart 247 = .ok (.iload_n 1, 1) := by decide +kernel
theorem dX12_leastPart_248 : decode cX12_leastPart 248 = .ok (.iload 8, 2) := by decide +kernel
theorem dX12_leastPart_250 : decode cX12_leastPart 250 = .ok (.invokevirtual 199, 3) := by decide +kernel
theorem dX12_leastPart_253 : decode cX12_leastPart 253 = .ok (.imul, 1) := by decide +kernel
theorem dX12_leastPart_254 : decode cX12_leastPart 254 = .ok (.iadd, 1) := by decide +kernel
theorem dX12_leastPart_255 : decode cX12_leastPart 255 = .ok (.invokevirtual 202, 3) := by decide +kernel
theorem dX12_leastPart_258 : decode cX12_leastPart 258 = .ok (.iload 9, 2) := by decide +kernel
theorem dX12_leastPart_260 : decode cX12_leastPart 260 = .ok (.iadd, 1) := by decide +kernel
theorem dX12_leastPart_261 : decode cX12_leastPart 261 = .ok (.aload_n 0, 1) := by decide +kernel
theorem dX12_leastPart_262 : decode cX12_leastPart 262 = .ok (.iload 8, 2) := by decide +kernel
theorem dX12_leastPart_264 : decode cX12_leastPart 264 = .ok (.iload 6, 2) := by decide +kernel
theorem dX12_leastPart_266 : decode cX12_leastPart 266 = .ok (.iload 7, 2) := by decide +kernel
theorem dX12_leastPart_268 : decode cX12_leastPart 268 = .ok (.invokevirtual 202, 3) := by decide +kernel
theorem dX12_leastPart_271 : decode cX12_leastPart 271 = .ok (.if_icmp .eq 9, 3) := by decide +kernel
theorem dX12_leastPart_274 : decode cX12_leastPart 274 = .ok (.iinc 9 1, 3) := by decide +kernel
theorem dX12_leastPart_277 : decode cX12_leastPart 277 = .ok (.goto (-92), 3) := by decide +kernel
theorem dX12_leastPart_280 : decode cX12_leastPart 280 = .ok (.aload_n 0, 1) := by decide +kernel
theorem dX12_leastPart_281 : decode cX12_leastPart 281 = .ok (.getfield 51, 3) := by decide +kernel
theorem dX12_leastPart_284 : decode cX12_leastPart 284 = .ok (.iload 8, 2) := by decide +kernel
theorem dX12_leastPart_286 : decode cX12_leastPart 286 = .ok (.iload 9, 2) := by decide +kernel
theorem dX12_leastPart_288 : decode cX12_leastPart 288 = .ok (.iastore, 1) := by decide +kernel
theorem dX12_leastPart_289 : decode cX12_leastPart 289 = .ok (.iload 6, 2) := by decide +kernel
theorem dX12_leastPart_291 : decode cX12_leastPart 291 = .ok (.aload_n 0, 1) := by decide +kernel
theorem dX12_leastPart_292 : decode cX12_leastPart 292 = .ok (.getfield 51, 3) := by decide +kernel
theorem dX12_leastPart_295 : decode cX12_leastPart 295 = .ok (.iload 8, 2) := by decide +kernel
theorem dX12_leastPart_297 : decode cX12_leastPart 297 = .ok (.iaload, 1) := by decide +kernel
theorem dX12_leastPart_298 : decode cX12_leastPart 298 = .ok (.aload_n 0, 1) := by decide +kernel
theorem dX12_leastPart_299 : decode cX12_leastPart 299 = .ok (.iload_n 1, 1) := by decide +kernel
theorem dX12_leastPart_300 : decode cX12_leastPart 300 = .ok (.iload 8, 2) := by decide +kernel
theorem dX12_leastPart_302 : decode cX12_leastPart 302 = .ok (.invokevirtual 196, 3) := by decide +kernel
theorem dX12_leastPart_305 : decode cX12_leastPart 305 = .ok (.imul, 1) := by decide +kernel
theorem dX12_leastPart_306 : decode cX12_leastPart 306 = .ok (.iadd, 1) := by decide +kernel
theorem dX12_leastPart_307 : decode cX12_leastPart 307 = .ok (.istore 6, 2) := by decide +kernel
theorem dX12_leastPart_309 : decode cX12_leastPart 309 = .ok (.iload 7, 2) := by decide +kernel
theorem dX12_leastPart_311 : decode cX12_leastPart 311 = .ok (.aload_n 0, 1) := by decide +kernel
theorem dX12_leastPart_312 : decode cX12_leastPart 312 = .ok (.getfield 51, 3) := by decide +kernel
theorem dX12_leastPart_315 : decode cX12_leastPart 315 = .ok (.iload 8, 2) := by decide +kernel
theorem dX12_leastPart_317 : decode cX12_leastPart 317 = .ok (.iaload, 1) := by decide +kernel
theorem dX12_leastPart_318 : decode cX12_leastPart 318 = .ok (.aload_n 0, 1) := by decide +kernel
theorem dX12_leastPart_319 : decode cX12_leastPart 319 = .ok (.iload_n 1, 1) := by decide +kernel
theorem dX12_leastPart_320 : decode cX12_leastPart 320 = .ok (.iload 8, 2) := by decide +kernel
theorem dX12_leastPart_322 : decode cX12_leastPart 322 = .ok (.invokevirtual 199, 3) := by decide +kernel
theorem dX12_leastPart_325 : decode cX12_leastPart 325 = .ok (.imul, 1) := by decide +kernel
theorem dX12_leastPart_326 : decode cX12_leastPart 326 = .ok (.iadd, 1) := by decide +kernel
theorem dX12_leastPart_327 : decode cX12_leastPart 327 = .ok (.istore 7, 2) := by decide +kernel
theorem dX12_leastPart_329 : decode cX12_leastPart 329 = .ok (.iinc 8 1, 3) := by decide +kernel
theorem dX12_leastPart_332 : decode cX12_leastPart 332 = .ok (.goto (-183), 3) := by decide +kernel
theorem dX12_leastPart_335 : decode cX12_leastPart 335 = .ok (.iload_n 3, 1) := by decide +kernel
theorem dX12_leastPart_336 : decode cX12_leastPart 336 = .ok (.ireturn, 1) := by decide +kernel
theorem dX12_part_0 : decode cX12_part 0 = .ok (.iload_n 1, 1) := by decide +kernel
theorem dX12_part_1 : decode cX12_part 1 = .ok (.invokestatic 120, 3) := by decide +kernel
theorem dX12_part_4 : decode cX12_part 4 = .ok (.ifCond .eq 26, 3) := by decide +kernel
theorem dX12_part_7 : decode cX12_part 7 = .ok (.iload_n 2, 1) := by decide +kernel
theorem dX12_part_8 : decode cX12_part 8 = .ok (.iconst (-1), 1) := by decide +kernel
theorem dX12_part_9 : decode cX12_part 9 = .ok (.if_icmp .lt 21, 3) := by decide +kernel
theorem dX12_part_12 : decode cX12_part 12 = .ok (.aload_n 0, 1) := by decide +kernel
theorem dX12_part_13 : decode cX12_part 13 = .ok (.iload_n 1, 1) := by decide +kernel
theorem dX12_part_14 : decode cX12_part 14 = .ok (.invokevirtual 142, 3) := by decide +kernel
theorem dX12_part_17 : decode cX12_part 17 = .ok (.ifCond .eq 15, 3) := by decide +kernel
theorem dX12_part_20 : decode cX12_part 20 = .ok (.iload_n 2, 1) := by decide +kernel
theorem dX12_part_21 : decode cX12_part 21 = .ok (.aload_n 0, 1) := by decide +kernel
theorem dX12_part_22 : decode cX12_part 22 = .ok (.getfield 7, 3) := by decide +kernel
theorem dX12_part_25 : decode cX12_part 25 = .ok (.iload_n 1, 1) := by decide +kernel
theorem dX12_part_26 : decode cX12_part 26 = .ok (.iaload, 1) := by decide +kernel
theorem dX12_part_27 : decode cX12_part 27 = .ok (.if_icmp .lt 5, 3) := by decide +kernel
theorem dX12_part_30 : decode cX12_part 30 = .ok (.iconst (-1), 1) := by decide +kernel
theorem dX12_part_31 : decode cX12_part 31 = .ok (.ireturn, 1) := by decide +kernel
theorem dX12_part_32 : decode cX12_part 32 = .ok (.aload_n 0, 1) := by decide +kernel
theorem dX12_part_33 : decode cX12_part 33 = .ok (.iload_n 1, 1) := by decide +kernel
theorem dX12_part_34 : decode cX12_part 34 = .ok (.invokevirtual 142, 3) := by decide +kernel
theorem dX12_part_37 : decode cX12_part 37 = .ok (.ifCond .ne 6, 3) := by decide +kernel
theorem dX12_part_40 : decode cX12_part 40 = .ok (.bipush (-2), 2) := by decide +kernel
theorem dX12_part_42 : decode cX12_part 42 = .ok (.ireturn, 1) := by decide +kernel
theorem dX12_part_43 : decode cX12_part 43 = .ok (.aload_n 0, 1) := by decide +kernel
theorem dX12_part_44 : decode cX12_part 44 = .ok (.iload_n 1, 1) := by decide +kernel
theorem dX12_part_45 : decode cX12_part 45 = .ok (.invokevirtual 208, 3) := by decide +kernel
theorem dX12_part_48 : decode cX12_part 48 = .ok (.istore_n 3, 1) := by decide +kernel
theorem dX12_part_49 : decode cX12_part 49 = .ok (.iload_n 2, 1) := by decide +kernel
theorem dX12_part_50 : decode cX12_part 50 = .ok (.ifCond .ge 7, 3) := by decide +kernel
theorem dX12_part_53 : decode cX12_part 53 = .ok (.iload_n 3, 1) := by decide +kernel
theorem dX12_part_54 : decode cX12_part 54 = .ok (.goto 9, 3) := by decide +kernel
theorem dX12_part_57 : decode cX12_part 57 = .ok (.aload_n 0, 1) := by decide +kernel
theorem dX12_part_58 : decode cX12_part 58 = .ok (.getfield 51, 3) := by decide +kernel
theorem dX12_part_61 : decode cX12_part 61 = .ok (.iload_n 2, 1) := by decide +kernel
theorem dX12_part_62 : decode cX12_part 62 = .ok (.iaload, 1) := by decide +kernel
theorem dX12_part_63 : decode cX12_part 63 = .ok (.ireturn, 1) := by decide +kernel
theorem dX12_normalX_0 : decode cX12_normalX 0 = .ok (.aload_n 0, 1) := by decide +kernel
theorem dX12_normalX_1 : decode cX12_normalX 1 = .ok (.iload_n 1, 1) := by decide +kernel
theorem dX12_normalX_2 : decode cX12_normalX 2 = .ok (.iload_n 2, 1) := by decide +kernel
theorem dX12_normalX_3 : decode cX12_normalX 3 = .ok (.iconst 1, 1) := by decide +kernel
theorem dX12_normalX_4 : decode cX12_normalX 4 = .ok (.iadd, 1) := by decide +kernel
theorem dX12_normalX_5 : decode cX12_normalX 5 = .ok (.invokevirtual 111, 3) := by decide +kernel
theorem dX12_normalX_8 : decode cX12_normalX 8 = .ok (.aload_n 0, 1) := by decide +kernel
theorem dX12_normalX_9 : decode cX12_normalX 9 = .ok (.iload_n 1, 1) := by decide +kernel
theorem dX12_normalX_10 : decode cX12_normalX 10 = .ok (.iload_n 2, 1) := by decide +kernel
theorem dX12_normalX_11 : decode cX12_normalX 11 = .ok (.invokevirtual 111, 3) := by decide +kernel
theorem dX12_normalX_14 : decode cX12_normalX 14 = .ok (.isub, 1) := by decide +kernel
theorem dX12_normalX_15 : decode cX12_normalX 15 = .ok (.aload_n 0, 1) := by decide +kernel
theorem dX12_normalX_16 : decode cX12_normalX 16 = .ok (.iload_n 1, 1) := by decide +kernel
theorem dX12_normalX_17 : decode cX12_normalX 17 = .ok (.iload_n 2, 1) := by decide +kernel
theorem dX12_normalX_18 : decode cX12_normalX 18 = .ok (.invokevirtual 139, 3) := by decide +kernel
theorem dX12_normalX_21 : decode cX12_normalX 21 = .ok (.idiv, 1) := by decide +kernel
theorem dX12_normalX_22 : decode cX12_normalX 22 = .ok (.ireturn, 1) := by decide +kernel
theorem dX12_normalY_0 : decode cX12_normalY 0 = .ok (.aload_n 0, 1) := by decide +kernel
theorem dX12_normalY_1 : decode cX12_normalY 1 = .ok (.iload_n 1, 1) := by decide +kernel
theorem dX12_normalY_2 : decode cX12_normalY 2 = .ok (.iload_n 2, 1) := by decide +kernel
theorem dX12_normalY_3 : decode cX12_normalY 3 = .ok (.invokevirtual 107, 3) := by decide +kernel
theorem dX12_normalY_6 : decode cX12_normalY 6 = .ok (.aload_n 0, 1) := by decide +kernel
theorem dX12_normalY_7 : decode cX12_normalY 7 = .ok (.iload_n 1, 1) := by decide +kernel
theorem dX12_normalY_8 : decode cX12_normalY 8 = .ok (.iload_n 2, 1) := by decide +kernel
theorem dX12_normalY_9 : decode cX12_normalY 9 = .ok (.iconst 1, 1) := by decide +kernel
theorem dX12_normalY_10 : decode cX12_normalY 10 = .ok (.iadd, 1) := by decide +kernel
theorem dX12_normalY_11 : decode cX12_normalY 11 = .ok (.invokevirtual 107, 3) := by decide +kernel
theorem dX12_normalY_14 : decode cX12_normalY 14 = .ok (.isub, 1) := by decide +kernel
theorem dX12_normalY_15 : decode cX12_normalY 15 = .ok (.aload_n 0, 1) := by decide +kernel
theorem dX12_normalY_16 : decode cX12_normalY 16 = .ok (.iload_n 1, 1) := by decide +kernel
theorem dX12_normalY_17 : decode cX12_normalY 17 = .ok (.iload_n 2, 1) := by decide +kernel
theorem dX12_normalY_18 : decode cX12_normalY 18 = .ok (.invokevirtual 139, 3) := by decide +kernel
theorem dX12_normalY_21 : decode cX12_normalY 21 = .ok (.idiv, 1) := by decide +kernel
theorem dX12_normalY_22 : decode cX12_normalY 22 = .ok (.ireturn, 1) := by decide +kernel
theorem dX12_farOf_0 : decode cX12_farOf 0 = .ok (.aload_n 0, 1) := by decide +kernel
theorem dX12_farOf_1 : decode cX12_farOf 1 = .ok (.iload_n 1, 1) := by decide +kernel
theorem dX12_farOf_2 : decode cX12_farOf 2 = .ok (.iload_n 2, 1) := by decide +kernel
theorem dX12_farOf_3 : decode cX12_farOf 3 = .ok (.invokevirtual 211, 3) := by decide +kernel
theorem dX12_farOf_6 : decode cX12_farOf 6 = .ok (.aload_n 0, 1) := by decide +kernel
theorem dX12_farOf_7 : decode cX12_farOf 7 = .ok (.iload_n 1, 1) := by decide +kernel
theorem dX12_farOf_8 : decode cX12_farOf 8 = .ok (.iload_n 2, 1) := by decide +kernel
theorem dX12_farOf_9 : decode cX12_farOf 9 = .ok (.invokevirtual 107, 3) := by decide +kernel
theorem dX12_farOf_12 : decode cX12_farOf 12 = .ok (.imul, 1) := by decide +kernel
theorem dX12_farOf_13 : decode cX12_farOf 13 = .ok (.aload_n 0, 1) := by decide +kernel
theorem dX12_farOf_14 : decode cX12_farOf 14 = .ok (.iload_n 1, 1) := by decide +kernel
theorem dX12_farOf_15 : decode cX12_farOf 15 = .ok (.iload_n 2, 1) := by decide +kernel
theorem dX12_farOf_16 : decode cX12_farOf 16 = .ok (.invokevirtual 214, 3) := by decide +kernel
theorem dX12_farOf_19 : decode cX12_farOf 19 = .ok (.aload_n 0, 1) := by decide +kernel
theorem dX12_farOf_20 : decode cX12_farOf 20 = .ok (.iload_n 1, 1) := by decide +kernel
theorem dX12_farOf_21 : decode cX12_farOf 21 = .ok (.iload_n 2, 1) := by decide +kernel
theorem dX12_farOf_22 : decode cX12_farOf 22 = .ok (.invokevirtual 111, 3) := by decide +kernel
theorem dX12_farOf_25 : decode cX12_farOf 25 = .ok (.imul, 1) := by decide +kernel
theorem dX12_farOf_26 : decode cX12_farOf 26 = .ok (.iadd, 1) := by decide +kernel
theorem dX12_farOf_27 : decode cX12_farOf 27 = .ok (.ireturn, 1) := by decide +kernel
theorem dX12_isRound_0 : decode cX12_isRound 0 = .ok (.aload_n 0, 1) := by decide +kernel
theorem dX12_isRound_1 : decode cX12_isRound 1 = .ok (.iload_n 1, 1) := by decide +kernel
theorem dX12_isRound_2 : decode cX12_isRound 2 = .ok (.invokevirtual 142, 3) := by decide +kernel
theorem dX12_isRound_5 : decode cX12_isRound 5 = .ok (.ifCond .eq 18, 3) := by decide +kernel
theorem dX12_isRound_8 : decode cX12_isRound 8 = .ok (.aload_n 0, 1) := by decide +kernel
theorem dX12_isRound_9 : decode cX12_isRound 9 = .ok (.iload_n 1, 1) := by decide +kernel
theorem dX12_isRound_10 : decode cX12_isRound 10 = .ok (.iconst 0, 1) := by decide +kernel
theorem dX12_isRound_11 : decode cX12_isRound 11 = .ok (.iconst 0, 1) := by decide +kernel
theorem dX12_isRound_12 : decode cX12_isRound 12 = .ok (.invokevirtual 164, 3) := by decide +kernel
theorem dX12_isRound_15 : decode cX12_isRound 15 = .ok (.iconst 2, 1) := by decide +kernel
theorem dX12_isRound_16 : decode cX12_isRound 16 = .ok (.if_icmp .ne 7, 3) := by decide +kernel
theorem dX12_isRound_19 : decode cX12_isRound 19 = .ok (.iconst 1, 1) := by decide +kernel
theorem dX12_isRound_20 : decode cX12_isRound 20 = .ok (.goto 4, 3) := by decide +kernel
theorem dX12_isRound_23 : decode cX12_isRound 23 = .ok (.iconst 0, 1) := by decide +kernel
theorem dX12_isRound_24 : decode cX12_isRound 24 = .ok (.ireturn, 1) := by decide +kernel
theorem dX12_normal_0 : decode cX12_normal 0 = .ok (.iload_n 1, 1) := by decide +kernel
theorem dX12_normal_1 : decode cX12_normal 1 = .ok (.invokestatic 120, 3) := by decide +kernel
theorem dX12_normal_4 : decode cX12_normal 4 = .ok (.ifCond .eq 36, 3) := by decide +kernel
theorem dX12_normal_7 : decode cX12_normal 7 = .ok (.iload_n 2, 1) := by decide +kernel
theorem dX12_normal_8 : decode cX12_normal 8 = .ok (.iconst 0, 1) := by decide +kernel
theorem dX12_normal_9 : decode cX12_normal 9 = .ok (.aload_n 0, 1) := by decide +kernel
theorem dX12_normal_10 : decode cX12_normal 10 = .ok (.getfield 7, 3) := by decide +kernel
theorem dX12_normal_13 : decode cX12_normal 13 = .ok (.iload_n 1, 1) := by decide +kernel
theorem dX12_normal_14 : decode cX12_normal 14 = .ok (.iaload, 1) := by decide +kernel
theorem dX12_normal_15 : decode cX12_normal 15 = .ok (.iconst 1, 1) := by decide +kernel
theorem dX12_normal_16 : decode cX12_normal 16 = .ok (.isub, 1) := by decide +kernel
theorem dX12_normal_17 : decode cX12_normal 17 = .ok (.invokestatic 81, 3) := by decide +kernel
theorem dX12_normal_20 : decode cX12_normal 20 = .ok (.ifCond .eq 20, 3) := by decide +kernel
theorem dX12_normal_23 : decode cX12_normal 23 = .ok (.iload_n 3, 1) := by decide +kernel
theorem dX12_normal_24 : decode cX12_normal 24 = .ok (.iconst 0, 1) := by decide +kernel
theorem dX12_normal_25 : decode cX12_normal 25 = .ok (.iconst 2, 1) := by decide +kernel
theorem dX12_normal_26 : decode cX12_normal 26 = .ok (.invokestatic 81, 3) := by decide +kernel
theorem dX12_normal_29 : decode cX12_normal 29 = .ok (.ifCond .eq 11, 3) := by decide +kernel
theorem dX12_normal_32 : decode cX12_normal 32 = .ok (.aload_n 0, 1) := by decide +kernel
theorem dX12_normal_33 : decode cX12_normal 33 = .ok (.iload_n 1, 1) := by decide +kernel
theorem dX12_normal_34 : decode cX12_normal 34 = .ok (.invokevirtual 217, 3) := by decide +kernel
theorem dX12_normal_37 : decode cX12_normal 37 = .ok (.ifCond .ne 6, 3) := by decide +kernel
theorem dX12_normal_40 : decode cX12_normal 40 = .ok (.ldc 135, 2) := by decide +kernel
theorem dX12_normal_42 : decode cX12_normal 42 = .ok (.ireturn, 1) := by decide +kernel
theorem dX12_normal_43 : decode cX12_normal 43 = .ok (.iload_n 3, 1) := by decide +kernel
theorem dX12_normal_44 : decode cX12_normal 44 = .ok (.ifCond .ne 12, 3) := by decide +kernel
theorem dX12_normal_47 : decode cX12_normal 47 = .ok (.aload_n 0, 1) := by decide +kernel
theorem dX12_normal_48 : decode cX12_normal 48 = .ok (.iload_n 1, 1) := by decide +kernel
theorem dX12_normal_49 : decode cX12_normal 49 = .ok (.iload_n 2, 1) := by decide +kernel
theorem dX12_normal_50 : decode cX12_normal 50 = .ok (.invokevirtual 211, 3) := by decide +kernel
theorem dX12_normal_53 : decode cX12_normal 53 = .ok (.goto 23, 3) := by decide +kernel
theorem dX12_normal_56 : decode cX12_normal 56 = .ok (.iload_n 3, 1) := by decide +kernel
theorem dX12_normal_57 : decode cX12_normal 57 = .ok (.iconst 1, 1) := by decide +kernel
theorem dX12_normal_58 : decode cX12_normal 58 = .ok (.if_icmp .ne 12, 3) := by decide +kernel
theorem dX12_normal_61 : decode cX12_normal 61 = .ok (.aload_n 0, 1) := by decide +kernel
theorem dX12_normal_62 : decode cX12_normal 62 = .ok (.iload_n 1, 1) := by decide +kernel
theorem dX12_normal_63 : decode cX12_normal 63 = .ok (.iload_n 2, 1) := by decide +kernel
theorem dX12_normal_64 : decode cX12_normal 64 = .ok (.invokevirtual 214, 3) := by decide +kernel
theorem dX12_normal_67 : decode cX12_normal 67 = .ok (.goto 9, 3) := by decide +kernel
theorem dX12_normal_70 : decode cX12_normal 70 = .ok (.aload_n 0, 1) := by decide +kernel
theorem dX12_normal_71 : decode cX12_normal 71 = .ok (.iload_n 1, 1) := by decide +kernel
theorem dX12_normal_72 : decode cX12_normal 72 = .ok (.iload_n 2, 1) := by decide +kernel
theorem dX12_normal_73 : decode cX12_normal 73 = .ok (.invokevirtual 220, 3) := by decide +kernel
theorem dX12_normal_76 : decode cX12_normal 76 = .ok (.ireturn, 1) := by decide +kernel
theorem dX12_isReflexive_0 : decode cX12_isReflexive 0 = .ok (.aload_n 0, 1) := by decide +kernel
theorem dX12_isReflexive_1 : decode cX12_isReflexive 1 = .ok (.iload_n 1, 1) := by decide +kernel
theorem dX12_isReflexive_2 : decode cX12_isReflexive 2 = .ok (.invokevirtual 217, 3) := by decide +kernel
theorem dX12_isReflexive_5 : decode cX12_isReflexive 5 = .ok (.istore_n 2, 1) := by decide +kernel
theorem dX12_isReflexive_6 : decode cX12_isReflexive 6 = .ok (.iconst 0, 1) := by decide +kernel
theorem dX12_isReflexive_7 : decode cX12_isReflexive 7 = .ok (.istore_n 3, 1) := by decide +kernel
theorem dX12_isReflexive_8 : decode cX12_isReflexive 8 = .ok (.iload_n 2, 1) := by decide +kernel
theorem dX12_isReflexive_9 : decode cX12_isReflexive 9 = .ok (.ifCond .eq 35, 3) := by decide +kernel
theorem dX12_isReflexive_12 : decode cX12_isReflexive 12 = .ok (.iload_n 3, 1) := by decide +kernel
theorem dX12_isReflexive_13 : decode cX12_isReflexive 13 = .ok (.aload_n 0, 1) := by decide +kernel
theorem dX12_isReflexive_14 : decode cX12_isReflexive 14 = .ok (.getfield 7, 3) := by decide +kernel
theorem dX12_isReflexive_17 : decode cX12_isReflexive 17 = .ok (.iload_n 1, 1) := by decide +kernel
theorem dX12_isReflexive_18 : decode cX12_isReflexive 18 = .ok (.iaload, 1) := by decide +kernel
theorem dX12_isReflexive_19 : decode cX12_isReflexive 19 = .ok (.if_icmp .ge 25, 3) := by decide +kernel
theorem dX12_isReflexive_22 : decode cX12_isReflexive 22 = .ok (.aload_n 0, 1) := by decide +kernel
theorem dX12_isReflexive_23 : decode cX12_isReflexive 23 = .ok (.iload_n 1, 1) := by decide +kernel
theorem dX12_isReflexive_24 : decode cX12_isReflexive 24 = .ok (.iload_n 3, 1) := by decide +kernel
theorem dX12_isReflexive_25 : decode cX12_isReflexive 25 = .ok (.invokevirtual 220, 3) := by decide +kernel
theorem dX12_isReflexive_28 : decode cX12_isReflexive 28 = .ok (.iconst 1, 1) := by decide +kernel
theorem dX12_isReflexive_29 : decode cX12_isReflexive 29 = .ok (.if_icmp .ne 7, 3) := by decide +kernel
theorem dX12_isReflexive_32 : decode cX12_isReflexive 32 = .ok (.iconst 1, 1) := by decide +kernel
theorem dX12_isReflexive_33 : decode cX12_isReflexive 33 = .ok (.goto 4, 3) := by decide +kernel
theorem dX12_isReflexive_36 : decode cX12_isReflexive 36 = .ok (.iconst 0, 1) := by decide +kernel
theorem dX12_isReflexive_37 : decode cX12_isReflexive 37 = .ok (.istore_n 2, 1) := by decide +kernel
theorem dX12_isReflexive_38 : decode cX12_isReflexive 38 = .ok (.iinc 3 1, 3) := by decide +kernel
theorem dX12_isReflexive_41 : decode cX12_isReflexive 41 = .ok (.goto (-33), 3) := by decide +kernel
theorem dX12_isReflexive_44 : decode cX12_isReflexive 44 = .ok (.iload_n 2, 1) := by decide +kernel
theorem dX12_isReflexive_45 : decode cX12_isReflexive 45 = .ok (.ireturn, 1) := by decide +kernel
theorem dX12_reflexive_0 : decode cX12_reflexive 0 = .ok (.iload_n 1, 1) := by decide +kernel
theorem dX12_reflexive_1 : decode cX12_reflexive 1 = .ok (.invokestatic 120, 3) := by decide +kernel
theorem dX12_reflexive_4 : decode cX12_reflexive 4 = .ok (.ifCond .ne 7, 3) := by decide +kernel
theorem dX12_reflexive_7 : decode cX12_reflexive 7 = .ok (.iconst (-1), 1) := by decide +kernel
theorem dX12_reflexive_8 : decode cX12_reflexive 8 = .ok (.goto 16, 3) := by decide +kernel
theorem dX12_reflexive_11 : decode cX12_reflexive 11 = .ok (.aload_n 0, 1) := by decide +kernel
theorem dX12_reflexive_12 : decode cX12_reflexive 12 = .ok (.iload_n 1, 1) := by decide +kernel
theorem dX12_reflexive_13 : decode cX12_reflexive 13 = .ok (.invokevirtual 223, 3) := by decide +kernel
theorem dX12_reflexive_16 : decode cX12_reflexive 16 = .ok (.ifCond .eq 7, 3) := by decide +kernel
theorem dX12_reflexive_19 : decode cX12_reflexive 19 = .ok (.iconst 1, 1) := by decide +kernel
theorem dX12_reflexive_20 : decode cX12_reflexive 20 = .ok (.goto 4, 3) := by decide +kernel
theorem dX12_reflexive_23 : decode cX12_reflexive 23 = .ok (.iconst 0, 1) := by decide +kernel
theorem dX12_reflexive_24 : decode cX12_reflexive 24 = .ok (.ireturn, 1) := by decide +kernel
theorem dX12_dual_0 : decode cX12_dual 0 = .ok (.iload_n 1, 1) := by decide +kernel
theorem dX12_dual_1 : decode cX12_dual 1 = .ok (.invokestatic 120, 3) := by decide +kernel
theorem dX12_dual_4 : decode cX12_dual 4 = .ok (.ifCond .eq 10, 3) := by decide +kernel
theorem dX12_dual_7 : decode cX12_dual 7 = .ok (.iload_n 2, 1) := by decide +kernel
theorem dX12_dual_8 : decode cX12_dual 8 = .ok (.invokestatic 120, 3) := by decide +kernel
theorem dX12_dual_11 : decode cX12_dual 11 = .ok (.ifCond .ne 5, 3) := by decide +kernel
theorem dX12_dual_14 : decode cX12_dual 14 = .ok (.iconst (-1), 1) := by decide +kernel
theorem dX12_dual_15 : decode cX12_dual 15 = .ok (.ireturn, 1) := by decide +kernel
theorem dX12_dual_16 : decode cX12_dual 16 = .ok (.aload_n 0, 1) := by decide +kernel
theorem dX12_dual_17 : decode cX12_dual 17 = .ok (.iload_n 1, 1) := by decide +kernel
theorem dX12_dual_18 : decode cX12_dual 18 = .ok (.invokevirtual 223, 3) := by decide +kernel
theorem dX12_dual_21 : decode cX12_dual 21 = .ok (.ifCond .ne 6, 3) := by decide +kernel
theorem dX12_dual_24 : decode cX12_dual 24 = .ok (.bipush (-2), 2) := by decide +kernel
theorem dX12_dual_26 : decode cX12_dual 26 = .ok (.ireturn, 1) := by decide +kernel
theorem dX12_dual_27 : decode cX12_dual 27 = .ok (.aload_n 0, 1) := by decide +kernel
theorem dX12_dual_28 : decode cX12_dual 28 = .ok (.iconst 0, 1) := by decide +kernel
theorem dX12_dual_29 : decode cX12_dual 29 = .ok (.putfield 89, 3) := by decide +kernel
theorem dX12_dual_32 : decode cX12_dual 32 = .ok (.iconst 0, 1) := by decide +kernel
theorem dX12_dual_33 : decode cX12_dual 33 = .ok (.istore_n 3, 1) := by decide +kernel
theorem dX12_dual_34 : decode cX12_dual 34 = .ok (.iload_n 3, 1) := by decide +kernel
theorem dX12_dual_35 : decode cX12_dual 35 = .ok (.aload_n 0, 1) := by decide +kernel
theorem dX12_dual_36 : decode cX12_dual 36 = .ok (.getfield 7, 3) := by decide +kernel
theorem dX12_dual_39 : decode cX12_dual 39 = .ok (.iload_n 1, 1) := by decide +kernel
theorem dX12_dual_40 : decode cX12_dual 40 = .ok (.iaload, 1) := by decide +kernel
theorem dX12_dual_41 : decode cX12_dual 41 = .ok (.if_icmp .ge 25, 3) := by decide +kernel
theorem dX12_dual_44 : decode cX12_dual 44 = .ok (.aload_n 0, 1) := by decide +kernel
theorem dX12_dual_45 : decode cX12_dual 45 = .ok (.aload_n 0, 1) := by decide +kernel
theorem dX12_dual_46 : decode cX12_dual 46 = .ok (.iload_n 1, 1) := by decide +kernel
theorem dX12_dual_47 : decode cX12_dual 47 = .ok (.iload_n 3, 1) := by decide +kernel
theorem dX12_dual_48 : decode cX12_dual 48 = .ok (.invokevirtual 211, 3) := by decide +kernel
theorem dX12_dual_51 : decode cX12_dual 51 = .ok (.aload_n 0, 1) := by decide +kernel
theorem dX12_dual_52 : decode cX12_dual 52 = .ok (.iload_n 1, 1) := by decide +kernel
theorem dX12_dual_53 : decode cX12_dual 53 = .ok (.iload_n 3, 1) := by decide +kernel
theorem dX12_dual_54 : decode cX12_dual 54 = .ok (.invokevirtual 214, 3) := by decide +kernel
theorem dX12_dual_57 : decode cX12_dual 57 = .ok (.invokevirtual 114, 3) := by decide +kernel
theorem dX12_dual_60 : decode cX12_dual 60 = .ok (.iinc 3 1, 3) := by decide +kernel
theorem dX12_dual_63 : decode cX12_dual 63 = .ok (.goto (-29), 3) := by decide +kernel
theorem dX12_dual_66 : decode cX12_dual 66 = .ok (.aload_n 0, 1) := by decide +kernel
theorem dX12_dual_67 : decode cX12_dual 67 = .ok (.invokevirtual 132, 3) := by decide +kernel
theorem dX12_dual_70 : decode cX12_dual 70 = .ok (.aload_n 0, 1) := by decide +kernel
theorem dX12_dual_71 : decode cX12_dual 71 = .ok (.iload_n 2, 1) := by decide +kernel
theorem dX12_dual_72 : decode cX12_dual 72 = .ok (.iconst 1, 1) := by decide +kernel
theorem dX12_dual_73 : decode cX12_dual 73 = .ok (.invokevirtual 124, 3) := by decide +kernel
theorem dX12_dual_76 : decode cX12_dual 76 = .ok (.ireturn, 1) := by decide +kernel
theorem dX12_beside_0 : decode cX12_beside 0 = .ok (.iload_n 1, 1) := by decide +kernel
theorem dX12_beside_1 : decode cX12_beside 1 = .ok (.istore_n 3, 1) := by decide +kernel
theorem dX12_beside_2 : decode cX12_beside 2 = .ok (.iload_n 2, 1) := by decide +kernel
theorem dX12_beside_3 : decode cX12_beside 3 = .ok (.istore 4, 2) := by decide +kernel
theorem dX12_beside_5 : decode cX12_beside 5 = .ok (.iconst 1, 1) := by decide +kernel
theorem dX12_beside_6 : decode cX12_beside 6 = .ok (.istore 5, 2) := by decide +kernel
theorem dX12_beside_8 : decode cX12_beside 8 = .ok (.iconst 0, 1) := by decide +kernel
theorem dX12_beside_9 : decode cX12_beside 9 = .ok (.istore 6, 2) := by decide +kernel
theorem dX12_beside_11 : decode cX12_beside 11 = .ok (.iconst 0, 1) := by decide +kernel
theorem dX12_beside_12 : decode cX12_beside 12 = .ok (.istore 7, 2) := by decide +kernel
theorem dX12_beside_14 : decode cX12_beside 14 = .ok (.iconst 1, 1) := by decide +kernel
theorem dX12_beside_15 : decode cX12_beside 15 = .ok (.istore 8, 2) := by decide +kernel
theorem dX12_beside_17 : decode cX12_beside 17 = .ok (.iload 4, 2) := by decide +kernel
theorem dX12_beside_19 : decode cX12_beside 19 = .ok (.ifCond .eq 64, 3) := by decide +kernel
theorem dX12_beside_22 : decode cX12_beside 22 = .ok (.iload_n 3, 1) := by decide +kernel
theorem dX12_beside_23 : decode cX12_beside 23 = .ok (.iload 4, 2) := by decide +kernel
theorem dX12_beside_25 : decode cX12_beside 25 = .ok (.idiv, 1) := by decide +kernel
theorem dX12_beside_26 : decode cX12_beside 26 = .ok (.istore 9, 2) := by decide +kernel
theorem dX12_beside_28 : decode cX12_beside 28 = .ok (.iload_n 3, 1) := by decide +kernel
theorem dX12_beside_29 : decode cX12_beside 29 = .ok (.iload 9, 2) := by decide +kernel
theorem dX12_beside_31 : decode cX12_beside 31 = .ok (.iload 4, 2) := by decide +kernel
theorem dX12_beside_33 : decode cX12_beside 33 = .ok (.imul, 1) := by decide +kernel
theorem dX12_beside_34 : decode cX12_beside 34 = .ok (.isub, 1) := by decide +kernel
theorem dX12_beside_35 : decode cX12_beside 35 = .ok (.istore 10, 2) := by decide +kernel
theorem dX12_beside_37 : decode cX12_beside 37 = .ok (.iload 4, 2) := by decide +kernel
theorem dX12_beside_39 : decode cX12_beside 39 = .ok (.istore_n 3, 1) := by decide +kernel
theorem dX12_beside_40 : decode cX12_beside 40 = .ok (.iload 10, 2) := by decide +kernel
theorem dX12_beside_42 : decode cX12_beside 42 = .ok (.istore 4, 2) := by decide +kernel
theorem dX12_beside_44 : decode cX12_beside 44 = .ok (.iload 5, 2) := by decide +kernel
theorem dX12_beside_46 : decode cX12_beside 46 = .ok (.iload 9, 2) := by decide +kernel
theorem dX12_beside_48 : decode cX12_beside 48 = .ok (.iload 7, 2) := by decide +kernel
theorem dX12_beside_50 : decode cX12_beside 50 = .ok (.imul, 1) := by decide +kernel
theorem dX12_beside_51 : decode cX12_beside 51 = .ok (.isub, 1) := by decide +kernel
theorem dX12_beside_52 : decode cX12_beside 52 = .ok (.istore 10, 2) := by decide +kernel
theorem dX12_beside_54 : decode cX12_beside 54 = .ok (.iload 7, 2) := by decide +kernel
theorem dX12_beside_56 : decode cX12_beside 56 = .ok (.istore 5, 2) := by decide +kernel
theorem dX12_beside_58 : decode cX12_beside 58 = .ok (.iload 10, 2) := by decide +kernel
theorem dX12_beside_60 : decode cX12_beside 60 = .ok (.istore 7, 2) := by decide +kernel
theorem dX12_beside_62 : decode cX12_beside 62 = .ok (.iload 6, 2) := by decide +kernel
theorem dX12_beside_64 : decode cX12_beside 64 = .ok (.iload 9, 2) := by decide +kernel
theorem dX12_beside_66 : decode cX12_beside 66 = .ok (.iload 8, 2) := by decide +kernel
theorem dX12_beside_68 : decode cX12_beside 68 = .ok (.imul, 1) := by decide +kernel
theorem dX12_beside_69 : decode cX12_beside 69 = .ok (.isub, 1) := by decide +kernel
theorem dX12_beside_70 : decode cX12_beside 70 = .ok (.istore 10, 2) := by decide +kernel
theorem dX12_beside_72 : decode cX12_beside 72 = .ok (.iload 8, 2) := by decide +kernel
theorem dX12_beside_74 : decode cX12_beside 74 = .ok (.istore 6, 2) := by decide +kernel
theorem dX12_beside_76 : decode cX12_beside 76 = .ok (.iload 10, 2) := by decide +kernel
theorem dX12_beside_78 : decode cX12_beside 78 = .ok (.istore 8, 2) := by decide +kernel
theorem dX12_beside_80 : decode cX12_beside 80 = .ok (.goto (-63), 3) := by decide +kernel
theorem dX12_beside_83 : decode cX12_beside 83 = .ok (.aload_n 0, 1) := by decide +kernel
theorem dX12_beside_84 : decode cX12_beside 84 = .ok (.getfield 54, 3) := by decide +kernel
theorem dX12_beside_87 : decode cX12_beside 87 = .ok (.aload_n 0, 1) := by decide +kernel
theorem dX12_beside_88 : decode cX12_beside 88 = .ok (.getfield 226, 3) := by decide +kernel
theorem dX12_beside_91 : decode cX12_beside 91 = .ok (.iload 6, 2) := by decide +kernel
theorem dX12_beside_93 : decode cX12_beside 93 = .ok (.ineg, 1) := by decide +kernel
theorem dX12_beside_94 : decode cX12_beside 94 = .ok (.iload_n 3, 1) := by decide +kernel
theorem dX12_beside_95 : decode cX12_beside 95 = .ok (.imul, 1) := by decide +kernel
theorem dX12_beside_96 : decode cX12_beside 96 = .ok (.iastore, 1) := by decide +kernel
theorem dX12_beside_97 : decode cX12_beside 97 = .ok (.aload_n 0, 1) := by decide +kernel
theorem dX12_beside_98 : decode cX12_beside 98 = .ok (.getfield 57, 3) := by decide +kernel
theorem dX12_beside_101 : decode cX12_beside 101 = .ok (.aload_n 0, 1) := by decide +kernel
theorem dX12_beside_102 : decode cX12_beside 102 = .ok (.getfield 226, 3) := by decide +kernel
theorem dX12_beside_105 : decode cX12_beside 105 = .ok (.iload 5, 2) := by decide +kernel
theorem dX12_beside_107 : decode cX12_beside 107 = .ok (.iload_n 3, 1) := by decide +kernel
theorem dX12_beside_108 : decode cX12_beside 108 = .ok (.imul, 1) := by decide +kernel
theorem dX12_beside_109 : decode cX12_beside 109 = .ok (.iastore, 1) := by decide +kernel
theorem dX12_beside_110 : decode cX12_beside 110 = .ok (.return_, 1) := by decide +kernel
theorem dX12_findRays_0 : decode cX12_findRays 0 = .ok (.iload_n 1, 1) := by decide +kernel
theorem dX12_findRays_1 : decode cX12_findRays 1 = .ok (.iload_n 2, 1) := by decide +kernel
theorem dX12_findRays_2 : decode cX12_findRays 2 = .ok (.iload_n 3, 1) := by decide +kernel
theorem dX12_findRays_3 : decode cX12_findRays 3 = .ok (.iload 4, 2) := by decide +kernel
theorem dX12_findRays_5 : decode cX12_findRays 5 = .ok (.invokestatic 160, 3) := by decide +kernel
theorem dX12_findRays_8 : decode cX12_findRays 8 = .ok (.ifCond .gt 5, 3) := by decide +kernel
theorem dX12_findRays_11 : decode cX12_findRays 11 = .ok (.iconst 0, 1) := by decide +kernel
theorem dX12_findRays_12 : decode cX12_findRays 12 = .ok (.ireturn, 1) := by decide +kernel
theorem dX12_findRays_13 : decode cX12_findRays 13 = .ok (.iload_n 1, 1) := by decide +kernel
theorem dX12_findRays_14 : decode cX12_findRays 14 = .ok (.iload_n 2, 1) := by decide +kernel
theorem dX12_findRays_15 : decode cX12_findRays 15 = .ok (.invokestatic 136, 3) := by decide +kernel
theorem dX12_findRays_18 : decode cX12_findRays 18 = .ok (.istore 5, 2) := by decide +kernel
theorem dX12_findRays_20 : decode cX12_findRays 20 = .ok (.iload_n 3, 1) := by decide +kernel
theorem dX12_findRays_21 : decode cX12_findRays 21 = .ok (.iload 4, 2) := by decide +kernel
theorem dX12_findRays_23 : decode cX12_findRays 23 = .ok (.invokestatic 136, 3) := by decide +kernel
theorem dX12_findRays_26 : decode cX12_findRays 26 = .ok (.istore 6, 2) := by decide +kernel
theorem dX12_findRays_28 : decode cX12_findRays 28 = .ok (.iload_n 3, 1) := by decide +kernel
theorem dX12_findRays_29 : decode cX12_findRays 29 = .ok (.iload 6, 2) := by decide +kernel
theorem dX12_findRays_31 : decode cX12_findRays 31 = .ok (.idiv, 1) := by decide +kernel
theorem dX12_findRays_32 : decode cX12_findRays 32 = .ok (.istore 7, 2) := by decide +kernel
theorem dX12_findRays_34 : decode cX12_findRays 34 = .ok (.iload 4, 2) := by decide +kernel
theorem dX12_findRays_36 : decode cX12_findRays 36 = .ok (.iload 6, 2) := by decide +kernel
theorem dX12_findRays_38 : decode cX12_findRays 38 = .ok (.idiv, 1) := by decide +kernel
theorem dX12_findRays_39 : decode cX12_findRays 39 = .ok (.istore 8, 2) := by decide +kernel
theorem dX12_findRays_41 : decode cX12_findRays 41 = .ok (.aload_n 0, 1) := by decide +kernel
theorem dX12_findRays_42 : decode cX12_findRays 42 = .ok (.getfield 54, 3) := by decide +kernel
theorem dX12_findRays_45 : decode cX12_findRays 45 = .ok (.iconst 0, 1) := by decide +kernel
theorem dX12_findRays_46 : decode cX12_findRays 46 = .ok (.iload_n 1, 1) := by decide +kernel
theorem dX12_findRays_47 : decode cX12_findRays 47 = .ok (.iload 5, 2) := by decide +kernel
theorem dX12_findRays_49 : decode cX12_findRays 49 = .ok (.idiv, 1) := by decide +kernel
theorem dX12_findRays_50 : decode cX12_findRays 50 = .ok (.iastore, 1) := by decide +kernel
theorem dX12_findRays_51 : decode cX12_findRays 51 = .ok (.aload_n 0, 1) := by decide +kernel
theorem dX12_findRays_52 : decode cX12_findRays 52 = .ok (.getfield 57, 3) := by decide +kernel
theorem dX12_findRays_55 : decode cX12_findRays 55 = .ok (.iconst 0, 1) := by decide +kernel
theorem dX12_findRays_56 : decode cX12_findRays 56 = .ok (.iload_n 2, 1) := by decide +kernel
theorem dX12_findRays_57 : decode cX12_findRays 57 = .ok (.iload 5, 2) := by decide +kernel
theorem dX12_findRays_59 : decode cX12_findRays 59 = .ok (.idiv, 1) := by decide +kernel
theorem dX12_findRays_60 : decode cX12_findRays 60 = .ok (.iastore, 1) := by decide +kernel
theorem dX12_findRays_61 : decode cX12_findRays 61 = .ok (.aload_n 0, 1) := by decide +kernel
theorem dX12_findRays_62 : decode cX12_findRays 62 = .ok (.iconst 1, 1) := by decide +kernel
theorem dX12_findRays_63 : decode cX12_findRays 63 = .ok (.putfield 226, 3) := by decide +kernel
theorem dX12_findRays_66 : decode cX12_findRays 66 = .ok (.aload_n 0, 1) := by decide +kernel
theorem dX12_findRays_67 : decode cX12_findRays 67 = .ok (.getfield 54, 3) := by decide +kernel
theorem dX12_findRays_70 : decode cX12_findRays 70 = .ok (.aload_n 0, 1) := by decide +kernel
theorem dX12_findRays_71 : decode cX12_findRays 71 = .ok (.getfield 226, 3) := by decide +kernel
theorem dX12_findRays_74 : decode cX12_findRays 74 = .ok (.iconst 1, 1) := by decide +kernel
theorem dX12_findRays_75 : decode cX12_findRays 75 = .ok (.isub, 1) := by decide +kernel
theorem dX12_findRays_76 : decode cX12_findRays 76 = .ok (.iaload, 1) := by decide +kernel
theorem dX12_findRays_77 : decode cX12_findRays 77 = .ok (.aload_n 0, 1) := by decide +kernel
theorem dX12_findRays_78 : decode cX12_findRays 78 = .ok (.getfield 57, 3) := by decide +kernel
theorem dX12_findRays_81 : decode cX12_findRays 81 = .ok (.aload_n 0, 1) := by decide +kernel
theorem dX12_findRays_82 : decode cX12_findRays 82 = .ok (.getfield 226, 3) := by decide +kernel
theorem dX12_findRays_85 : decode cX12_findRays 85 = .ok (.iconst 1, 1) := by decide +kernel
theorem dX12_findRays_86 : decode cX12_findRays 86 = .ok (.isub, 1) := by decide +kernel
theorem dX12_findRays_87 : decode cX12_findRays 87 = .ok (.iaload, 1) := by decide +kernel
theorem dX12_findRays_88 : decode cX12_findRays 88 = .ok (.iload 7, 2) := by decide +kernel
theorem dX12_findRays_90 : decode cX12_findRays 90 = .ok (.iload 8, 2) := by decide +kernel
theorem dX12_findRays_92 : decode cX12_findRays 92 = .ok (.invokestatic 160, 3) := by decide +kernel
theorem dX12_findRays_95 : decode cX12_findRays 95 = .ok (.ifCond .le 150, 3) := by decide +kernel
theorem dX12_findRays_98 : decode cX12_findRays 98 = .ok (.aload_n 0, 1) := by decide +kernel
theorem dX12_findRays_99 : decode cX12_findRays 99 = .ok (.getfield 54, 3) := by decide +kernel
theorem dX12_findRays_102 : decode cX12_findRays 102 = .ok (.aload_n 0, 1) := by decide +kernel
theorem dX12_findRays_103 : decode cX12_findRays 103 = .ok (.getfield 226, 3) := by decide +kernel
theorem dX12_findRays_106 : decode cX12_findRays 106 = .ok (.iconst 1, 1) := by decide +kernel
theorem dX12_findRays_107 : decode cX12_findRays 107 = .ok (.isub, 1) := by decide +kernel
theorem dX12_findRays_108 : decode cX12_findRays 108 = .ok (.iaload, 1) := by decide +kernel
theorem dX12_findRays_109 : decode cX12_findRays 109 = .ok (.istore 9, 2) := by decide +kernel
theorem dX12_findRays_111 : decode cX12_findRays 111 = .ok (.aload_n 0, 1) := by decide +kernel
theorem dX12_findRays_112 : decode cX12_findRays 112 = .ok (.getfield 57, 3) := by decide +kernel
theorem dX12_findRays_115 : decode cX12_findRays 115 = .ok (.aload_n 0, 1) := by decide +kernel
theorem dX12_findRays_116 : decode cX12_findRays 116 = .ok (.getfield 226, 3) := by decide +kernel
theorem dX12_findRays_119 : decode cX12_findRays 119 = .ok (.iconst 1, 1) := by decide +kernel
theorem dX12_findRays_120 : decode cX12_findRays 120 = .ok (.isub, 1) := by decide +kernel
theorem dX12_findRays_121 : decode cX12_findRays 121 = .ok (.iaload, 1) := by decide +kernel
theorem dX12_findRays_122 : decode cX12_findRays 122 = .ok (.istore 10, 2) := by decide +kernel
theorem dX12_findRays_124 : decode cX12_findRays 124 = .ok (.aload_n 0, 1) := by decide +kernel
theorem dX12_findRays_125 : decode cX12_findRays 125 = .ok (.iload 9, 2) := by decide +kernel
theorem dX12_findRays_127 : decode cX12_findRays 127 = .ok (.iload 10, 2) := by decide +kernel
theorem dX12_findRays_129 : decode cX12_findRays 129 = .ok (.invokevirtual 229, 3) := by decide +kernel
theorem dX12_findRays_132 : decode cX12_findRays 132 = .ok (.iload 9, 2) := by decide +kernel
theorem dX12_findRays_134 : decode cX12_findRays 134 = .ok (.iload 10, 2) := by decide +kernel
theorem dX12_findRays_136 : decode cX12_findRays 136 = .ok (.iload 7, 2) := by decide +kernel
theorem dX12_findRays_138 : decode cX12_findRays 138 = .ok (.iload 8, 2) := by decide +kernel
theorem dX12_findRays_140 : decode cX12_findRays 140 = .ok (.invokestatic 160, 3) := by decide +kernel
theorem dX12_findRays_143 : decode cX12_findRays 143 = .ok (.istore 11, 2) := by decide +kernel
theorem dX12_findRays_145 : decode cX12_findRays 145 = .ok (.aload_n 0, 1) := by decide +kernel
theorem dX12_findRays_146 : decode cX12_findRays 146 = .ok (.getfield 54, 3) := by decide +kernel
theorem dX12_findRays_149 : decode cX12_findRays 149 = .ok (.aload_n 0, 1) := by decide +kernel
theorem dX12_findRays_150 : decode cX12_findRays 150 = .ok (.getfield 226, 3) := by decide +kernel
theorem dX12_findRays_153 : decode cX12_findRays 153 = .ok (.iaload, 1) := by decide +kernel
theorem dX12_findRays_154 : decode cX12_findRays 154 = .ok (.aload_n 0, 1) := by decide +kernel
theorem dX12_findRays_155 : decode cX12_findRays 155 = .ok (.getfield 57, 3) := by decide +kernel
theorem dX12_findRays_158 : decode cX12_findRays 158 = .ok (.aload_n 0, 1) := by decide +kernel
theorem dX12_findRays_159 : decode cX12_findRays 159 = .ok (.getfield 226, 3) := by decide +kernel
theorem dX12_findRays_162 : decode cX12_findRays 162 = .ok (.iaload, 1) := by decide +kernel
theorem dX12_findRays_163 : decode cX12_findRays 163 = .ok (.iload 7, 2) := by decide +kernel
theorem dX12_findRays_165 : decode cX12_findRays 165 = .ok (.iload 8, 2) := by decide +kernel
theorem dX12_findRays_167 : decode cX12_findRays 167 = .ok (.invokestatic 160, 3) := by decide +kernel
theorem dX12_findRays_170 : decode cX12_findRays 170 = .ok (.istore 12, 2) := by decide +kernel
theorem dX12_findRays_172 : decode cX12_findRays 172 = .ok (.iload 12, 2) := by decide +kernel
theorem dX12_findRays_174 : decode cX12_findRays 174 = .ok (.ifCond .lt 12, 3) := by decide +kernel
theorem dX12_findRays_177 : decode cX12_findRays 177 = .ok (.iload 12, 2) := by decide +kernel
theorem dX12_findRays_179 : decode cX12_findRays 179 = .ok (.iload 11, 2) := by decide +kernel
theorem dX12_findRays_181 : decode cX12_findRays 181 = .ok (.idiv, 1) := by decide +kernel
theorem dX12_findRays_182 : decode cX12_findRays 182 = .ok (.ineg, 1) := by decide +kernel
theorem dX12_findRays_183 : decode cX12_findRays 183 = .ok (.goto 13, 3) := by decide +kernel
theorem dX12_findRays_186 : decode cX12_findRays 186 = .ok (.iload 11, 2) := by decide +kernel
theorem dX12_findRays_188 : decode cX12_findRays 188 = .ok (.iconst 1, 1) := by decide +kernel
theorem dX12_findRays_189 : decode cX12_findRays 189 = .ok (.isub, 1) := by decide +kernel
theorem dX12_findRays_190 : decode cX12_findRays 190 = .ok (.iload 12, 2) := by decide +kernel
theorem dX12_findRays_192 : decode cX12_findRays 192 = .ok (.isub, 1) := by decide +kernel
theorem dX12_findRays_193 : decode cX12_findRays 193 = .ok (.iload 11, 2) := by decide +kernel
theorem dX12_findRays_195 : decode cX12_findRays 195 = .ok (.idiv, 1) := by decide +kernel
theorem dX12_findRays_196 : decode cX12_findRays 196 = .ok (.istore 13, 2) := by decide +kernel
theorem dX12_findRays_198 : decode cX12_findRays 198 = .ok (.aload_n 0, 1) := by decide +kernel
theorem dX12_findRays_199 : decode cX12_findRays 199 = .ok (.getfield 54, 3) := by decide +kernel
theorem dX12_findRays_202 : decode cX12_findRays 202 = .ok (.aload_n 0, 1) := by decide +kernel
theorem dX12_findRays_203 : decode cX12_findRays 203 = .ok (.getfield 226, 3) := by decide +kernel
theorem dX12_findRays_206 : decode cX12_findRays 206 = .ok (.dup2, 1) := by decide +kernel
theorem dX12_findRays_207 : decode cX12_findRays 207 = .ok (.iaload, 1) := by decide +kernel
theorem dX12_findRays_208 : decode cX12_findRays 208 = .ok (.iload 13, 2) := by decide +kernel
theorem dX12_findRays_210 : decode cX12_findRays 210 = .ok (.iload 9, 2) := by decide +kernel
theorem dX12_findRays_212 : decode cX12_findRays 212 = .ok (.imul, 1) := by decide +kernel
theorem dX12_findRays_213 : decode cX12_findRays 213 = .ok (.iadd, 1) := by decide +kernel
theorem dX12_findRays_214 : decode cX12_findRays 214 = .ok (.iastore, 1) := by decide +kernel
theorem dX12_findRays_215 : decode cX12_findRays 215 = .ok (.aload_n 0, 1) := by decide +kernel
theorem dX12_findRays_216 : decode cX12_findRays 216 = .ok (.getfield 57, 3) := by decide +kernel
theorem dX12_findRays_219 : decode cX12_findRays 219 = .ok (.aload_n 0, 1) := by decide +kernel
theorem dX12_findRays_220 : decode cX12_findRays 220 = .ok (.getfield 226, 3) := by decide +kernel
theorem dX12_findRays_223 : decode cX12_findRays 223 = .ok (.dup2, 1) := by decide +kernel
theorem dX12_findRays_224 : decode cX12_findRays 224 = .ok (.iaload, 1) := by decide +kernel
theorem dX12_findRays_225 : decode cX12_findRays 225 = .ok (.iload 13, 2) := by decide +kernel
theorem dX12_findRays_227 : decode cX12_findRays 227 = .ok (.iload 10, 2) := by decide +kernel
theorem dX12_findRays_229 : decode cX12_findRays 229 = .ok (.imul, 1) := by decide +kernel
theorem dX12_findRays_230 : decode cX12_findRays 230 = .ok (.iadd, 1) := by decide +kernel
theorem dX12_findRays_231 : decode cX12_findRays 231 = .ok (.iastore, 1) := by decide +kernel
theorem dX12_findRays_232 : decode cX12_findRays 232 = .ok (.aload_n 0, 1) := by decide +kernel
theorem dX12_findRays_233 : decode cX12_findRays 233 = .ok (.dup, 1) := by decide +kernel
theorem dX12_findRays_234 : decode cX12_findRays 234 = .ok (.getfield 226, 3) := by decide +kernel
theorem dX12_findRays_237 : decode cX12_findRays 237 = .ok (.iconst 1, 1) := by decide +kernel
theorem dX12_findRays_238 : decode cX12_findRays 238 = .ok (.iadd, 1) := by decide +kernel
theorem dX12_findRays_239 : decode cX12_findRays 239 = .ok (.putfield 226, 3) := by decide +kernel
theorem dX12_findRays_242 : decode cX12_findRays 242 = .ok (.goto (-176), 3) := by decide +kernel
theorem dX12_findRays_245 : decode cX12_findRays 245 = .ok (.iconst 1, 1) := by decide +kernel
theorem dX12_findRays_246 : decode cX12_findRays 246 = .ok (.ireturn, 1) := by decide +kernel
theorem dX12_between_0 : decode cX12_between 0 = .ok (.iload_n 1, 1) := by decide +kernel
theorem dX12_between_1 : decode cX12_between 1 = .ok (.iload_n 2, 1) := by decide +kernel
theorem dX12_between_2 : decode cX12_between 2 = .ok (.invokestatic 117, 3) := by decide +kernel
theorem dX12_between_5 : decode cX12_between 5 = .ok (.ifCond .eq 12, 3) := by decide +kernel
theorem dX12_between_8 : decode cX12_between 8 = .ok (.iload_n 3, 1) := by decide +kernel
theorem dX12_between_9 : decode cX12_between 9 = .ok (.iload 4, 2) := by decide +kernel
theorem dX12_between_11 : decode cX12_between 11 = .ok (.invokestatic 117, 3) := by decide +kernel
theorem dX12_between_14 : decode cX12_between 14 = .ok (.ifCond .ne 5, 3) := by decide +kernel
theorem dX12_between_17 : decode cX12_between 17 = .ok (.iconst (-1), 1) := by decide +kernel
theorem dX12_between_18 : decode cX12_between 18 = .ok (.ireturn, 1) := by decide +kernel
theorem dX12_between_19 : decode cX12_between 19 = .ok (.aload_n 0, 1) := by decide +kernel
theorem dX12_between_20 : decode cX12_between 20 = .ok (.iload_n 1, 1) := by decide +kernel
theorem dX12_between_21 : decode cX12_between 21 = .ok (.iload_n 2, 1) := by decide +kernel
theorem dX12_between_22 : decode cX12_between 22 = .ok (.iload_n 3, 1) := by decide +kernel
theorem dX12_between_23 : decode cX12_between 23 = .ok (.iload 4, 2) := by decide +kernel
theorem dX12_between_25 : decode cX12_between 25 = .ok (.invokevirtual 232, 3) := by decide +kernel
theorem dX12_between_28 : decode cX12_between 28 = .ok (.ifCond .eq 10, 3) := by decide +kernel
theorem dX12_between_31 : decode cX12_between 31 = .ok (.aload_n 0, 1) := by decide +kernel
theorem dX12_between_32 : decode cX12_between 32 = .ok (.getfield 226, 3) := by decide +kernel
theorem dX12_between_35 : decode cX12_between 35 = .ok (.goto 5, 3) := by decide +kernel
theorem dX12_between_38 : decode cX12_between 38 = .ok (.bipush (-2), 2) := by decide +kernel
theorem dX12_between_40 : decode cX12_between 40 = .ok (.ireturn, 1) := by decide +kernel
theorem dX12_ray_0 : decode cX12_ray 0 = .ok (.iload_n 1, 1) := by decide +kernel
theorem dX12_ray_1 : decode cX12_ray 1 = .ok (.iload_n 2, 1) := by decide +kernel
theorem dX12_ray_2 : decode cX12_ray 2 = .ok (.invokestatic 117, 3) := by decide +kernel
theorem dX12_ray_5 : decode cX12_ray 5 = .ok (.ifCond .eq 49, 3) := by decide +kernel
theorem dX12_ray_8 : decode cX12_ray 8 = .ok (.iload_n 3, 1) := by decide +kernel
theorem dX12_ray_9 : decode cX12_ray 9 = .ok (.iload 4, 2) := by decide +kernel
theorem dX12_ray_11 : decode cX12_ray 11 = .ok (.invokestatic 117, 3) := by decide +kernel
theorem dX12_ray_14 : decode cX12_ray 14 = .ok (.ifCond .eq 40, 3) := by decide +kernel
theorem dX12_ray_17 : decode cX12_ray 17 = .ok (.iload 6, 2) := by decide +kernel
theorem dX12_ray_19 : decode cX12_ray 19 = .ok (.iconst 0, 1) := by decide +kernel
theorem dX12_ray_20 : decode cX12_ray 20 = .ok (.iconst 2, 1) := by decide +kernel
theorem dX12_ray_21 : decode cX12_ray 21 = .ok (.invokestatic 81, 3) := by decide +kernel
theorem dX12_ray_24 : decode cX12_ray 24 = .ok (.ifCond .eq 30, 3) := by decide +kernel
theorem dX12_ray_27 : decode cX12_ray 27 = .ok (.aload_n 0, 1) := by decide +kernel
theorem dX12_ray_28 : decode cX12_ray 28 = .ok (.iload_n 1, 1) := by decide +kernel
theorem dX12_ray_29 : decode cX12_ray 29 = .ok (.iload_n 2, 1) := by decide +kernel
theorem dX12_ray_30 : decode cX12_ray 30 = .ok (.iload_n 3, 1) := by decide +kernel
theorem dX12_ray_31 : decode cX12_ray 31 = .ok (.iload 4, 2) := by decide +kernel
theorem dX12_ray_33 : decode cX12_ray 33 = .ok (.invokevirtual 232, 3) := by decide +kernel
theorem dX12_ray_36 : decode cX12_ray 36 = .ok (.ifCond .eq 18, 3) := by decide +kernel
theorem dX12_ray_39 : decode cX12_ray 39 = .ok (.iload 5, 2) := by decide +kernel
theorem dX12_ray_41 : decode cX12_ray 41 = .ok (.iconst 0, 1) := by decide +kernel
theorem dX12_ray_42 : decode cX12_ray 42 = .ok (.aload_n 0, 1) := by decide +kernel
theorem dX12_ray_43 : decode cX12_ray 43 = .ok (.getfield 226, 3) := by decide +kernel
theorem dX12_ray_46 : decode cX12_ray 46 = .ok (.iconst 1, 1) := by decide +kernel
theorem dX12_ray_47 : decode cX12_ray 47 = .ok (.isub, 1) := by decide +kernel
theorem dX12_ray_48 : decode cX12_ray 48 = .ok (.invokestatic 81, 3) := by decide +kernel
theorem dX12_ray_51 : decode cX12_ray 51 = .ok (.ifCond .ne 6, 3) := by decide +kernel
theorem dX12_ray_54 : decode cX12_ray 54 = .ok (.ldc 135, 2) := by decide +kernel
theorem dX12_ray_56 : decode cX12_ray 56 = .ok (.ireturn, 1) := by decide +kernel
theorem dX12_ray_57 : decode cX12_ray 57 = .ok (.iload 6, 2) := by decide +kernel
theorem dX12_ray_59 : decode cX12_ray 59 = .ok (.iconst 2, 1) := by decide +kernel
theorem dX12_ray_60 : decode cX12_ray 60 = .ok (.if_icmp .ge 26, 3) := by decide +kernel
theorem dX12_ray_63 : decode cX12_ray 63 = .ok (.iload 6, 2) := by decide +kernel
theorem dX12_ray_65 : decode cX12_ray 65 = .ok (.ifCond .ne 13, 3) := by decide +kernel
theorem dX12_ray_68 : decode cX12_ray 68 = .ok (.aload_n 0, 1) := by decide +kernel
theorem dX12_ray_69 : decode cX12_ray 69 = .ok (.getfield 54, 3) := by decide +kernel
theorem dX12_ray_72 : decode cX12_ray 72 = .ok (.iload 5, 2) := by decide +kernel
theorem dX12_ray_74 : decode cX12_ray 74 = .ok (.iaload, 1) := by decide +kernel
theorem dX12_ray_75 : decode cX12_ray 75 = .ok (.goto 10, 3) := by decide +kernel
theorem dX12_ray_78 : decode cX12_ray 78 = .ok (.aload_n 0, 1) := by decide +kernel
theorem dX12_ray_79 : decode cX12_ray 79 = .ok (.getfield 57, 3) := by decide +kernel
theorem dX12_ray_82 : decode cX12_ray 82 = .ok (.iload 5, 2) := by decide +kernel
theorem dX12_ray_84 : decode cX12_ray 84 = .ok (.iaload, 1) := by decide +kernel
theorem dX12_ray_85 : decode cX12_ray 85 = .ok (.ireturn, 1) := by decide +kernel
theorem dX12_ray_86 : decode cX12_ray 86 = .ok (.iload 5, 2) := by decide +kernel
theorem dX12_ray_88 : decode cX12_ray 88 = .ok (.ifCond .eq 14, 3) := by decide +kernel
theorem dX12_ray_91 : decode cX12_ray 91 = .ok (.iload 5, 2) := by decide +kernel
theorem dX12_ray_93 : decode cX12_ray 93 = .ok (.aload_n 0, 1) := by decide +kernel
theorem dX12_ray_94 : decode cX12_ray 94 = .ok (.getfield 226, 3) := by decide +kernel
theorem dX12_ray_97 : decode cX12_ray 97 = .ok (.iconst 1, 1) := by decide +kernel
theorem dX12_ray_98 : decode cX12_ray 98 = .ok (.isub, 1) := by decide +kernel
theorem dX12_ray_99 : decode cX12_ray 99 = .ok (.if_icmp .ne 6, 3) := by decide +kernel
theorem dX12_ray_102 : decode cX12_ray 102 = .ok (.ldc 135, 2) := by decide +kernel
theorem dX12_ray_104 : decode cX12_ray 104 = .ok (.ireturn, 1) := by decide +kernel
theorem dX12_ray_105 : decode cX12_ray 105 = .ok (.aload_n 0, 1) := by decide +kernel
theorem dX12_ray_106 : decode cX12_ray 106 = .ok (.getfield 54, 3) := by decide +kernel
theorem dX12_ray_109 : decode cX12_ray 109 = .ok (.iload 5, 2) := by decide +kernel
theorem dX12_ray_111 : decode cX12_ray 111 = .ok (.iaload, 1) := by decide +kernel
theorem dX12_ray_112 : decode cX12_ray 112 = .ok (.ifCond .eq 33, 3) := by decide +kernel
theorem dX12_ray_115 : decode cX12_ray 115 = .ok (.aload_n 0, 1) := by decide +kernel
theorem dX12_ray_116 : decode cX12_ray 116 = .ok (.getfield 54, 3) := by decide +kernel
theorem dX12_ray_119 : decode cX12_ray 119 = .ok (.iload 5, 2) := by decide +kernel
theorem dX12_ray_121 : decode cX12_ray 121 = .ok (.iconst 1, 1) := by decide +kernel
theorem dX12_ray_122 : decode cX12_ray 122 = .ok (.isub, 1) := by decide +kernel
theorem dX12_ray_123 : decode cX12_ray 123 = .ok (.iaload, 1) := by decide +kernel
theorem dX12_ray_124 : decode cX12_ray 124 = .ok (.aload_n 0, 1) := by decide +kernel
theorem dX12_ray_125 : decode cX12_ray 125 = .ok (.getfield 54, 3) := by decide +kernel
theorem dX12_ray_128 : decode cX12_ray 128 = .ok (.iload 5, 2) := by decide +kernel
theorem dX12_ray_130 : decode cX12_ray 130 = .ok (.iconst 1, 1) := by decide +kernel
theorem dX12_ray_131 : decode cX12_ray 131 = .ok (.iadd, 1) := by decide +kernel
theorem dX12_ray_132 : decode cX12_ray 132 = .ok (.iaload, 1) := by decide +kernel
theorem dX12_ray_133 : decode cX12_ray 133 = .ok (.iadd, 1) := by decide +kernel
theorem dX12_ray_134 : decode cX12_ray 134 = .ok (.aload_n 0, 1) := by decide +kernel
theorem dX12_ray_135 : decode cX12_ray 135 = .ok (.getfield 54, 3) := by decide +kernel
theorem dX12_ray_138 : decode cX12_ray 138 = .ok (.iload 5, 2) := by decide +kernel
theorem dX12_ray_140 : decode cX12_ray 140 = .ok (.iaload, 1) := by decide +kernel
theorem dX12_ray_141 : decode cX12_ray 141 = .ok (.idiv, 1) := by decide +kernel
theorem dX12_ray_142 : decode cX12_ray 142 = .ok (.goto 30, 3) := by decide +kernel
theorem dX12_ray_145 : decode cX12_ray 145 = .ok (.aload_n 0, 1) := by decide +kernel
theorem dX12_ray_146 : decode cX12_ray 146 = .ok (.getfield 57, 3) := by decide +kernel
theorem dX12_ray_149 : decode cX12_ray 149 = .ok (.iload 5, 2) := by decide +kernel
theorem dX12_ray_151 : decode cX12_ray 151 = .ok (.iconst 1, 1) := by decide +kernel
theorem dX12_ray_152 : decode cX12_ray 152 = .ok (.isub, 1) := by decide +kernel
theorem dX12_ray_153 : decode cX12_ray 153 = .ok (.iaload, 1) := by decide +kernel
theorem dX12_ray_154 : decode cX12_ray 154 = .ok (.aload_n 0, 1) := by decide +kernel
theorem dX12_ray_155 : decode cX12_ray 155 = .ok (.getfield 57, 3) := by decide +kernel
theorem dX12_ray_158 : decode cX12_ray 158 = .ok (.iload 5, 2) := by decide +kernel
theorem dX12_ray_160 : decode cX12_ray 160 = .ok (.iconst 1, 1) := by decide +kernel
theorem dX12_ray_161 : decode cX12_ray 161 = .ok (.iadd, 1) := by decide +kernel
theorem dX12_ray_162 : decode cX12_ray 162 = .ok (.iaload, 1) := by decide +kernel
theorem dX12_ray_163 : decode cX12_ray 163 = .ok (.iadd, 1) := by decide +kernel
theorem dX12_ray_164 : decode cX12_ray 164 = .ok (.aload_n 0, 1) := by decide +kernel
theorem dX12_ray_165 : decode cX12_ray 165 = .ok (.getfield 57, 3) := by decide +kernel
theorem dX12_ray_168 : decode cX12_ray 168 = .ok (.iload 5, 2) := by decide +kernel
theorem dX12_ray_170 : decode cX12_ray 170 = .ok (.iaload, 1) := by decide +kernel
theorem dX12_ray_171 : decode cX12_ray 171 = .ok (.idiv, 1) := by decide +kernel
theorem dX12_ray_172 : decode cX12_ray 172 = .ok (.ireturn, 1) := by decide +kernel
theorem dX12_turn_0 : decode cX12_turn 0 = .ok (.aload_n 0, 1) := by decide +kernel
theorem dX12_turn_1 : decode cX12_turn 1 = .ok (.getfield 34, 3) := by decide +kernel
theorem dX12_turn_4 : decode cX12_turn 4 = .ok (.iload_n 2, 1) := by decide +kernel
theorem dX12_turn_5 : decode cX12_turn 5 = .ok (.iaload, 1) := by decide +kernel
theorem dX12_turn_6 : decode cX12_turn 6 = .ok (.aload_n 0, 1) := by decide +kernel
theorem dX12_turn_7 : decode cX12_turn 7 = .ok (.getfield 34, 3) := by decide +kernel
theorem dX12_turn_10 : decode cX12_turn 10 = .ok (.iload_n 1, 1) := by decide +kernel
theorem dX12_turn_11 : decode cX12_turn 11 = .ok (.iaload, 1) := by decide +kernel
theorem dX12_turn_12 : decode cX12_turn 12 = .ok (.isub, 1) := by decide +kernel
theorem dX12_turn_13 : decode cX12_turn 13 = .ok (.aload_n 0, 1) := by decide +kernel
theorem dX12_turn_14 : decode cX12_turn 14 = .ok (.getfield 37, 3) := by decide +kernel
theorem dX12_turn_17 : decode cX12_turn 17 = .ok (.iload_n 2, 1) := by decide +kernel
theorem dX12_turn_18 : decode cX12_turn 18 = .ok (.iaload, 1) := by decide +kernel
theorem dX12_turn_19 : decode cX12_turn 19 = .ok (.aload_n 0, 1) := by decide +kernel
theorem dX12_turn_20 : decode cX12_turn 20 = .ok (.getfield 37, 3) := by decide +kernel
theorem dX12_turn_23 : decode cX12_turn 23 = .ok (.iload_n 1, 1) := by decide +kernel
theorem dX12_turn_24 : decode cX12_turn 24 = .ok (.iaload, 1) := by decide +kernel
theorem dX12_turn_25 : decode cX12_turn 25 = .ok (.isub, 1) := by decide +kernel
theorem dX12_turn_26 : decode cX12_turn 26 = .ok (.aload_n 0, 1) := by decide +kernel
theorem dX12_turn_27 : decode cX12_turn 27 = .ok (.getfield 34, 3) := by decide +kernel
theorem dX12_turn_30 : decode cX12_turn 30 = .ok (.iload_n 3, 1) := by decide +kernel
theorem dX12_turn_31 : decode cX12_turn 31 = .ok (.iaload, 1) := by decide +kernel
theorem dX12_turn_32 : decode cX12_turn 32 = .ok (.aload_n 0, 1) := by decide +kernel
theorem dX12_turn_33 : decode cX12_turn 33 = .ok (.getfield 34, 3) := by decide +kernel
theorem dX12_turn_36 : decode cX12_turn 36 = .ok (.iload_n 1, 1) := by decide +kernel
theorem dX12_turn_37 : decode cX12_turn 37 = .ok (.iaload, 1) := by decide +kernel
theorem dX12_turn_38 : decode cX12_turn 38 = .ok (.isub, 1) := by decide +kernel
theorem dX12_turn_39 : decode cX12_turn 39 = .ok (.aload_n 0, 1) := by decide +kernel
theorem dX12_turn_40 : decode cX12_turn 40 = .ok (.getfield 37, 3) := by decide +kernel
theorem dX12_turn_43 : decode cX12_turn 43 = .ok (.iload_n 3, 1) := by decide +kernel
theorem dX12_turn_44 : decode cX12_turn 44 = .ok (.iaload, 1) := by decide +kernel
theorem dX12_turn_45 : decode cX12_turn 45 = .ok (.aload_n 0, 1) := by decide +kernel
theorem dX12_turn_46 : decode cX12_turn 46 = .ok (.getfield 37, 3) := by decide +kernel
theorem dX12_turn_49 : decode cX12_turn 49 = .ok (.iload_n 1, 1) := by decide +kernel
theorem dX12_turn_50 : decode cX12_turn 50 = .ok (.iaload, 1) := by decide +kernel
theorem dX12_turn_51 : decode cX12_turn 51 = .ok (.isub, 1) := by decide +kernel
theorem dX12_turn_52 : decode cX12_turn 52 = .ok (.invokestatic 160, 3) := by decide +kernel
theorem dX12_turn_55 : decode cX12_turn 55 = .ok (.ireturn, 1) := by decide +kernel
theorem dX12_signOf_0 : decode cX12_signOf 0 = .ok (.iload_n 0, 1) := by decide +kernel
theorem dX12_signOf_1 : decode cX12_signOf 1 = .ok (.ifCond .le 7, 3) := by decide +kernel
theorem dX12_signOf_4 : decode cX12_signOf 4 = .ok (.iconst 1, 1) := by decide +kernel
theorem dX12_signOf_5 : decode cX12_signOf 5 = .ok (.goto 12, 3) := by decide +kernel
theorem dX12_signOf_8 : decode cX12_signOf 8 = .ok (.iload_n 0, 1) := by decide +kernel
theorem dX12_signOf_9 : decode cX12_signOf 9 = .ok (.ifCond .ge 7, 3) := by decide +kernel
theorem dX12_signOf_12 : decode cX12_signOf 12 = .ok (.iconst (-1), 1) := by decide +kernel
theorem dX12_signOf_13 : decode cX12_signOf 13 = .ok (.goto 4, 3) := by decide +kernel
theorem dX12_signOf_16 : decode cX12_signOf 16 = .ok (.iconst 0, 1) := by decide +kernel
theorem dX12_signOf_17 : decode cX12_signOf 17 = .ok (.ireturn, 1) := by decide +kernel
theorem dX12_doCross_0 : decode cX12_doCross 0 = .ok (.aload_n 0, 1) := by decide +kernel
theorem dX12_doCross_1 : decode cX12_doCross 1 = .ok (.getfield 60, 3) := by decide +kernel
theorem dX12_doCross_4 : decode cX12_doCross 4 = .ok (.iload_n 1, 1) := by decide +kernel
theorem dX12_doCross_5 : decode cX12_doCross 5 = .ok (.iaload, 1) := by decide +kernel
theorem dX12_doCross_6 : decode cX12_doCross 6 = .ok (.istore_n 3, 1) := by decide +kernel
theorem dX12_doCross_7 : decode cX12_doCross 7 = .ok (.aload_n 0, 1) := by decide +kernel
theorem dX12_doCross_8 : decode cX12_doCross 8 = .ok (.getfield 63, 3) := by decide +kernel
theorem dX12_doCross_11 : decode cX12_doCross 11 = .ok (.iload_n 1, 1) := by decide +kernel
theorem dX12_doCross_12 : decode cX12_doCross 12 = .ok (.iaload, 1) := by decide +kernel
theorem dX12_doCross_13 : decode cX12_doCross 13 = .ok (.istore 4, 2) := by decide +kernel
theorem dX12_doCross_15 : decode cX12_doCross 15 = .ok (.aload_n 0, 1) := by decide +kernel
theorem dX12_doCross_16 : decode cX12_doCross 16 = .ok (.getfield 60, 3) := by decide +kernel
theorem dX12_doCross_19 : decode cX12_doCross 19 = .ok (.iload_n 2, 1) := by decide +kernel
theorem dX12_doCross_20 : decode cX12_doCross 20 = .ok (.iaload, 1) := by decide +kernel
theorem dX12_doCross_21 : decode cX12_doCross 21 = .ok (.istore 5, 2) := by decide +kernel
theorem dX12_doCross_23 : decode cX12_doCross 23 = .ok (.aload_n 0, 1) := by decide +kernel
theorem dX12_doCross_24 : decode cX12_doCross 24 = .ok (.getfield 63, 3) := by decide +kernel
theorem dX12_doCross_27 : decode cX12_doCross 27 = .ok (.iload_n 2, 1) := by decide +kernel
theorem dX12_doCross_28 : decode cX12_doCross 28 = .ok (.iaload, 1) := by decide +kernel
theorem dX12_doCross_29 : decode cX12_doCross 29 = .ok (.istore 6, 2) := by decide +kernel
theorem dX12_doCross_31 : decode cX12_doCross 31 = .ok (.aload_n 0, 1) := by decide +kernel
theorem dX12_doCross_32 : decode cX12_doCross 32 = .ok (.iload_n 3, 1) := by decide +kernel
theorem dX12_doCross_33 : decode cX12_doCross 33 = .ok (.iload 4, 2) := by decide +kernel
theorem dX12_doCross_35 : decode cX12_doCross 35 = .ok (.iload 5, 2) := by decide +kernel
theorem dX12_doCross_37 : decode cX12_doCross 37 = .ok (.invokevirtual 235, 3) := by decide +kernel
theorem dX12_doCross_40 : decode cX12_doCross 40 = .ok (.invokestatic 238, 3) := by decide +kernel
theorem dX12_doCross_43 : decode cX12_doCross 43 = .ok (.aload_n 0, 1) := by decide +kernel
theorem dX12_doCross_44 : decode cX12_doCross 44 = .ok (.iload_n 3, 1) := by decide +kernel
theorem dX12_doCross_45 : decode cX12_doCross 45 = .ok (.iload 4, 2) := by decide +kernel
theorem dX12_doCross_47 : decode cX12_doCross 47 = .ok (.iload 6, 2) := by decide +kernel
theorem dX12_doCross_49 : decode cX12_doCross 49 = .ok (.invokevirtual 235, 3) := by decide +kernel
theorem dX12_doCross_52 : decode cX12_doCross 52 = .ok (.invokestatic 238, 3) := by decide +kernel
theorem dX12_doCross_55 : decode cX12_doCross 55 = .ok (.imul, 1) := by decide +kernel
theorem dX12_doCross_56 : decode cX12_doCross 56 = .ok (.ifCond .ge 36, 3) := by decide +kernel
theorem dX12_doCross_59 : decode cX12_doCross 59 = .ok (.aload_n 0, 1) := by decide +kernel
