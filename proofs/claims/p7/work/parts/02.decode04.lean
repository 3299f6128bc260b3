theorem dX12_clear_15 : decode cX12_clear 15 = .ok (.istore_n 2, 1) := by decide +kernel
theorem dX12_clear_16 : decode cX12_clear 16 = .ok (.aload_n 0, 1) := by decide +kernel
theorem dX12_clear_17 : decode cX12_clear 17 = .ok (.iconst 0, 1) := by decide +kernel
theorem dX12_clear_18 : decode cX12_clear 18 = .ok (.putfield 97, 3) := by decide +kernel
theorem dX12_clear_21 : decode cX12_clear 21 = .ok (.aload_n 0, 1) := by decide +kernel
theorem dX12_clear_22 : decode cX12_clear 22 = .ok (.iload_n 1, 1) := by decide +kernel
theorem dX12_clear_23 : decode cX12_clear 23 = .ok (.iconst 0, 1) := by decide +kernel
theorem dX12_clear_24 : decode cX12_clear 24 = .ok (.invokevirtual 124, 3) := by decide +kernel
theorem dX12_clear_27 : decode cX12_clear 27 = .ok (.istore_n 3, 1) := by decide +kernel
theorem dX12_clear_28 : decode cX12_clear 28 = .ok (.iload_n 2, 1) := by decide +kernel
theorem dX12_clear_29 : decode cX12_clear 29 = .ok (.iload_n 3, 1) := by decide +kernel
theorem dX12_clear_30 : decode cX12_clear 30 = .ok (.iadd, 1) := by decide +kernel
theorem dX12_clear_31 : decode cX12_clear 31 = .ok (.ireturn, 1) := by decide +kernel
theorem dX12_add_0 : decode cX12_add 0 = .ok (.iload_n 1, 1) := by decide +kernel
theorem dX12_add_1 : decode cX12_add 1 = .ok (.invokestatic 120, 3) := by decide +kernel
theorem dX12_add_4 : decode cX12_add 4 = .ok (.ifCond .eq 11, 3) := by decide +kernel
theorem dX12_add_7 : decode cX12_add 7 = .ok (.iload_n 2, 1) := by decide +kernel
theorem dX12_add_8 : decode cX12_add 8 = .ok (.iload_n 3, 1) := by decide +kernel
theorem dX12_add_9 : decode cX12_add 9 = .ok (.invokestatic 117, 3) := by decide +kernel
theorem dX12_add_12 : decode cX12_add 12 = .ok (.ifCond .ne 5, 3) := by decide +kernel
theorem dX12_add_15 : decode cX12_add 15 = .ok (.iconst (-1), 1) := by decide +kernel
theorem dX12_add_16 : decode cX12_add 16 = .ok (.ireturn, 1) := by decide +kernel
theorem dX12_add_17 : decode cX12_add 17 = .ok (.aload_n 0, 1) := by decide +kernel
theorem dX12_add_18 : decode cX12_add 18 = .ok (.iconst 0, 1) := by decide +kernel
theorem dX12_add_19 : decode cX12_add 19 = .ok (.putfield 89, 3) := by decide +kernel
theorem dX12_add_22 : decode cX12_add 22 = .ok (.aload_n 0, 1) := by decide +kernel
theorem dX12_add_23 : decode cX12_add 23 = .ok (.iload_n 1, 1) := by decide +kernel
theorem dX12_add_24 : decode cX12_add 24 = .ok (.invokevirtual 128, 3) := by decide +kernel
theorem dX12_add_27 : decode cX12_add 27 = .ok (.aload_n 0, 1) := by decide +kernel
theorem dX12_add_28 : decode cX12_add 28 = .ok (.iload_n 2, 1) := by decide +kernel
theorem dX12_add_29 : decode cX12_add 29 = .ok (.iload_n 3, 1) := by decide +kernel
theorem dX12_add_30 : decode cX12_add 30 = .ok (.invokevirtual 114, 3) := by decide +kernel
theorem dX12_add_33 : decode cX12_add 33 = .ok (.aload_n 0, 1) := by decide +kernel
theorem dX12_add_34 : decode cX12_add 34 = .ok (.invokevirtual 132, 3) := by decide +kernel
theorem dX12_add_37 : decode cX12_add 37 = .ok (.aload_n 0, 1) := by decide +kernel
theorem dX12_add_38 : decode cX12_add 38 = .ok (.iload_n 1, 1) := by decide +kernel
theorem dX12_add_39 : decode cX12_add 39 = .ok (.iconst 0, 1) := by decide +kernel
theorem dX12_add_40 : decode cX12_add 40 = .ok (.invokevirtual 124, 3) := by decide +kernel
theorem dX12_add_43 : decode cX12_add 43 = .ok (.ireturn, 1) := by decide +kernel
theorem dX12_corners_0 : decode cX12_corners 0 = .ok (.iload_n 1, 1) := by decide +kernel
theorem dX12_corners_1 : decode cX12_corners 1 = .ok (.invokestatic 120, 3) := by decide +kernel
theorem dX12_corners_4 : decode cX12_corners 4 = .ok (.ifCond .eq 12, 3) := by decide +kernel
theorem dX12_corners_7 : decode cX12_corners 7 = .ok (.aload_n 0, 1) := by decide +kernel
theorem dX12_corners_8 : decode cX12_corners 8 = .ok (.getfield 7, 3) := by decide +kernel
theorem dX12_corners_11 : decode cX12_corners 11 = .ok (.iload_n 1, 1) := by decide +kernel
theorem dX12_corners_12 : decode cX12_corners 12 = .ok (.iaload, 1) := by decide +kernel
theorem dX12_corners_13 : decode cX12_corners 13 = .ok (.goto 4, 3) := by decide +kernel
theorem dX12_corners_16 : decode cX12_corners 16 = .ok (.iconst (-1), 1) := by decide +kernel
theorem dX12_corners_17 : decode cX12_corners 17 = .ok (.ireturn, 1) := by decide +kernel
theorem dX12_corner_0 : decode cX12_corner 0 = .ok (.iload_n 1, 1) := by decide +kernel
theorem dX12_corner_1 : decode cX12_corner 1 = .ok (.invokestatic 120, 3) := by decide +kernel
theorem dX12_corner_4 : decode cX12_corner 4 = .ok (.ifCond .eq 28, 3) := by decide +kernel
theorem dX12_corner_7 : decode cX12_corner 7 = .ok (.iload_n 2, 1) := by decide +kernel
theorem dX12_corner_8 : decode cX12_corner 8 = .ok (.iconst 0, 1) := by decide +kernel
theorem dX12_corner_9 : decode cX12_corner 9 = .ok (.aload_n 0, 1) := by decide +kernel
theorem dX12_corner_10 : decode cX12_corner 10 = .ok (.getfield 7, 3) := by decide +kernel
theorem dX12_corner_13 : decode cX12_corner 13 = .ok (.iload_n 1, 1) := by decide +kernel
theorem dX12_corner_14 : decode cX12_corner 14 = .ok (.iaload, 1) := by decide +kernel
theorem dX12_corner_15 : decode cX12_corner 15 = .ok (.iconst 1, 1) := by decide +kernel
theorem dX12_corner_16 : decode cX12_corner 16 = .ok (.isub, 1) := by decide +kernel
theorem dX12_corner_17 : decode cX12_corner 17 = .ok (.invokestatic 81, 3) := by decide +kernel
theorem dX12_corner_20 : decode cX12_corner 20 = .ok (.ifCond .eq 12, 3) := by decide +kernel
theorem dX12_corner_23 : decode cX12_corner 23 = .ok (.iload_n 3, 1) := by decide +kernel
theorem dX12_corner_24 : decode cX12_corner 24 = .ok (.iconst 0, 1) := by decide +kernel
theorem dX12_corner_25 : decode cX12_corner 25 = .ok (.iconst 1, 1) := by decide +kernel
theorem dX12_corner_26 : decode cX12_corner 26 = .ok (.invokestatic 81, 3) := by decide +kernel
theorem dX12_corner_29 : decode cX12_corner 29 = .ok (.ifCond .ne 8, 3) := by decide +kernel
theorem dX12_corner_32 : decode cX12_corner 32 = .ok (.ldc 135, 2) := by decide +kernel
theorem dX12_corner_34 : decode cX12_corner 34 = .ok (.goto 22, 3) := by decide +kernel
theorem dX12_corner_37 : decode cX12_corner 37 = .ok (.iload_n 3, 1) := by decide +kernel
theorem dX12_corner_38 : decode cX12_corner 38 = .ok (.ifCond .ne 12, 3) := by decide +kernel
theorem dX12_corner_41 : decode cX12_corner 41 = .ok (.aload_n 0, 1) := by decide +kernel
theorem dX12_corner_42 : decode cX12_corner 42 = .ok (.iload_n 1, 1) := by decide +kernel
theorem dX12_corner_43 : decode cX12_corner 43 = .ok (.iload_n 2, 1) := by decide +kernel
theorem dX12_corner_44 : decode cX12_corner 44 = .ok (.invokevirtual 107, 3) := by decide +kernel
theorem dX12_corner_47 : decode cX12_corner 47 = .ok (.goto 9, 3) := by decide +kernel
theorem dX12_corner_50 : decode cX12_corner 50 = .ok (.aload_n 0, 1) := by decide +kernel
theorem dX12_corner_51 : decode cX12_corner 51 = .ok (.iload_n 1, 1) := by decide +kernel
theorem dX12_corner_52 : decode cX12_corner 52 = .ok (.iload_n 2, 1) := by decide +kernel
theorem dX12_corner_53 : decode cX12_corner 53 = .ok (.invokevirtual 111, 3) := by decide +kernel
theorem dX12_corner_56 : decode cX12_corner 56 = .ok (.ireturn, 1) := by decide +kernel
theorem dX12_isPolygon_0 : decode cX12_isPolygon 0 = .ok (.aload_n 0, 1) := by decide +kernel
theorem dX12_isPolygon_1 : decode cX12_isPolygon 1 = .ok (.getfield 7, 3) := by decide +kernel
theorem dX12_isPolygon_4 : decode cX12_isPolygon 4 = .ok (.iload_n 1, 1) := by decide +kernel
theorem dX12_isPolygon_5 : decode cX12_isPolygon 5 = .ok (.iaload, 1) := by decide +kernel
theorem dX12_isPolygon_6 : decode cX12_isPolygon 6 = .ok (.iconst 2, 1) := by decide +kernel
theorem dX12_isPolygon_7 : decode cX12_isPolygon 7 = .ok (.if_icmp .le 7, 3) := by decide +kernel
theorem dX12_isPolygon_10 : decode cX12_isPolygon 10 = .ok (.iconst 1, 1) := by decide +kernel
theorem dX12_isPolygon_11 : decode cX12_isPolygon 11 = .ok (.goto 4, 3) := by decide +kernel
theorem dX12_isPolygon_14 : decode cX12_isPolygon 14 = .ok (.iconst 0, 1) := by decide +kernel
theorem dX12_isPolygon_15 : decode cX12_isPolygon 15 = .ok (.ireturn, 1) := by decide +kernel
theorem dX12_areaOf_0 : decode cX12_areaOf 0 = .ok (.iconst 0, 1) := by decide +kernel
theorem dX12_areaOf_1 : decode cX12_areaOf 1 = .ok (.istore_n 2, 1) := by decide +kernel
theorem dX12_areaOf_2 : decode cX12_areaOf 2 = .ok (.iconst 0, 1) := by decide +kernel
theorem dX12_areaOf_3 : decode cX12_areaOf 3 = .ok (.istore_n 3, 1) := by decide +kernel
theorem dX12_areaOf_4 : decode cX12_areaOf 4 = .ok (.iload_n 3, 1) := by decide +kernel
theorem dX12_areaOf_5 : decode cX12_areaOf 5 = .ok (.aload_n 0, 1) := by decide +kernel
theorem dX12_areaOf_6 : decode cX12_areaOf 6 = .ok (.getfield 7, 3) := by decide +kernel
theorem dX12_areaOf_9 : decode cX12_areaOf 9 = .ok (.iload_n 1, 1) := by decide +kernel
theorem dX12_areaOf_10 : decode cX12_areaOf 10 = .ok (.iaload, 1) := by decide +kernel
theorem dX12_areaOf_11 : decode cX12_areaOf 11 = .ok (.if_icmp .ge 43, 3) := by decide +kernel
theorem dX12_areaOf_14 : decode cX12_areaOf 14 = .ok (.iload_n 2, 1) := by decide +kernel
theorem dX12_areaOf_15 : decode cX12_areaOf 15 = .ok (.aload_n 0, 1) := by decide +kernel
theorem dX12_areaOf_16 : decode cX12_areaOf 16 = .ok (.iload_n 1, 1) := by decide +kernel
theorem dX12_areaOf_17 : decode cX12_areaOf 17 = .ok (.iload_n 3, 1) := by decide +kernel
theorem dX12_areaOf_18 : decode cX12_areaOf 18 = .ok (.invokevirtual 107, 3) := by decide +kernel
theorem dX12_areaOf_21 : decode cX12_areaOf 21 = .ok (.aload_n 0, 1) := by decide +kernel
theorem dX12_areaOf_22 : decode cX12_areaOf 22 = .ok (.iload_n 1, 1) := by decide +kernel
theorem dX12_areaOf_23 : decode cX12_areaOf 23 = .ok (.iload_n 3, 1) := by decide +kernel
theorem dX12_areaOf_24 : decode cX12_areaOf 24 = .ok (.iconst 1, 1) := by decide +kernel
theorem dX12_areaOf_25 : decode cX12_areaOf 25 = .ok (.iadd, 1) := by decide +kernel
theorem dX12_areaOf_26 : decode cX12_areaOf 26 = .ok (.invokevirtual 111, 3) := by decide +kernel
theorem dX12_areaOf_29 : decode cX12_areaOf 29 = .ok (.imul, 1) := by decide +kernel
theorem dX12_areaOf_30 : decode cX12_areaOf 30 = .ok (.aload_n 0, 1) := by decide +kernel
theorem dX12_areaOf_31 : decode cX12_areaOf 31 = .ok (.iload_n 1, 1) := by decide +kernel
theorem dX12_areaOf_32 : decode cX12_areaOf 32 = .ok (.iload_n 3, 1) := by decide +kernel
theorem dX12_areaOf_33 : decode cX12_areaOf 33 = .ok (.iconst 1, 1) := by decide +kernel
theorem dX12_areaOf_34 : decode cX12_areaOf 34 = .ok (.iadd, 1) := by decide +kernel
theorem dX12_areaOf_35 : decode cX12_areaOf 35 = .ok (.invokevirtual 107, 3) := by decide +kernel
theorem dX12_areaOf_38 : decode cX12_areaOf 38 = .ok (.aload_n 0, 1) := by decide +kernel
theorem dX12_areaOf_39 : decode cX12_areaOf 39 = .ok (.iload_n 1, 1) := by decide +kernel
theorem dX12_areaOf_40 : decode cX12_areaOf 40 = .ok (.iload_n 3, 1) := by decide +kernel
theorem dX12_areaOf_41 : decode cX12_areaOf 41 = .ok (.invokevirtual 111, 3) := by decide +kernel
theorem dX12_areaOf_44 : decode cX12_areaOf 44 = .ok (.imul, 1) := by decide +kernel
theorem dX12_areaOf_45 : decode cX12_areaOf 45 = .ok (.isub, 1) := by decide +kernel
theorem dX12_areaOf_46 : decode cX12_areaOf 46 = .ok (.iadd, 1) := by decide +kernel
theorem dX12_areaOf_47 : decode cX12_areaOf 47 = .ok (.istore_n 2, 1) := by decide +kernel
theorem dX12_areaOf_48 : decode cX12_areaOf 48 = .ok (.iinc 3 1, 3) := by decide +kernel
theorem dX12_areaOf_51 : decode cX12_areaOf 51 = .ok (.goto (-47), 3) := by decide +kernel
theorem dX12_areaOf_54 : decode cX12_areaOf 54 = .ok (.iload_n 2, 1) := by decide +kernel
theorem dX12_areaOf_55 : decode cX12_areaOf 55 = .ok (.ireturn, 1) := by decide +kernel
theorem dX12_stepsOf_0 : decode cX12_stepsOf 0 = .ok (.aload_n 0, 1) := by decide +kernel
theorem dX12_stepsOf_1 : decode cX12_stepsOf 1 = .ok (.iload_n 1, 1) := by decide +kernel
theorem dX12_stepsOf_2 : decode cX12_stepsOf 2 = .ok (.iload_n 2, 1) := by decide +kernel
theorem dX12_stepsOf_3 : decode cX12_stepsOf 3 = .ok (.iconst 1, 1) := by decide +kernel
theorem dX12_stepsOf_4 : decode cX12_stepsOf 4 = .ok (.iadd, 1) := by decide +kernel
theorem dX12_stepsOf_5 : decode cX12_stepsOf 5 = .ok (.invokevirtual 107, 3) := by decide +kernel
theorem dX12_stepsOf_8 : decode cX12_stepsOf 8 = .ok (.aload_n 0, 1) := by decide +kernel
theorem dX12_stepsOf_9 : decode cX12_stepsOf 9 = .ok (.iload_n 1, 1) := by decide +kernel
theorem dX12_stepsOf_10 : decode cX12_stepsOf 10 = .ok (.iload_n 2, 1) := by decide +kernel
theorem dX12_stepsOf_11 : decode cX12_stepsOf 11 = .ok (.invokevirtual 107, 3) := by decide +kernel
theorem dX12_stepsOf_14 : decode cX12_stepsOf 14 = .ok (.isub, 1) := by decide +kernel
theorem dX12_stepsOf_15 : decode cX12_stepsOf 15 = .ok (.aload_n 0, 1) := by decide +kernel
theorem dX12_stepsOf_16 : decode cX12_stepsOf 16 = .ok (.iload_n 1, 1) := by decide +kernel
theorem dX12_stepsOf_17 : decode cX12_stepsOf 17 = .ok (.iload_n 2, 1) := by decide +kernel
theorem dX12_stepsOf_18 : decode cX12_stepsOf 18 = .ok (.iconst 1, 1) := by decide +kernel
theorem dX12_stepsOf_19 : decode cX12_stepsOf 19 = .ok (.iadd, 1) := by decide +kernel
theorem dX12_stepsOf_20 : decode cX12_stepsOf 20 = .ok (.invokevirtual 111, 3) := by decide +kernel
theorem dX12_stepsOf_23 : decode cX12_stepsOf 23 = .ok (.aload_n 0, 1) := by decide +kernel
theorem dX12_stepsOf_24 : decode cX12_stepsOf 24 = .ok (.iload_n 1, 1) := by decide +kernel
theorem dX12_stepsOf_25 : decode cX12_stepsOf 25 = .ok (.iload_n 2, 1) := by decide +kernel
theorem dX12_stepsOf_26 : decode cX12_stepsOf 26 = .ok (.invokevirtual 111, 3) := by decide +kernel
theorem dX12_stepsOf_29 : decode cX12_stepsOf 29 = .ok (.isub, 1) := by decide +kernel
theorem dX12_stepsOf_30 : decode cX12_stepsOf 30 = .ok (.invokestatic 136, 3) := by decide +kernel
theorem dX12_stepsOf_33 : decode cX12_stepsOf 33 = .ok (.ireturn, 1) := by decide +kernel
theorem dX12_edgeOf_0 : decode cX12_edgeOf 0 = .ok (.aload_n 0, 1) := by decide +kernel
theorem dX12_edgeOf_1 : decode cX12_edgeOf 1 = .ok (.getfield 7, 3) := by decide +kernel
theorem dX12_edgeOf_4 : decode cX12_edgeOf 4 = .ok (.iload_n 1, 1) := by decide +kernel
theorem dX12_edgeOf_5 : decode cX12_edgeOf 5 = .ok (.iaload, 1) := by decide +kernel
theorem dX12_edgeOf_6 : decode cX12_edgeOf 6 = .ok (.iconst 2, 1) := by decide +kernel
theorem dX12_edgeOf_7 : decode cX12_edgeOf 7 = .ok (.if_icmp .ge 10, 3) := by decide +kernel
theorem dX12_edgeOf_10 : decode cX12_edgeOf 10 = .ok (.aload_n 0, 1) := by decide +kernel
theorem dX12_edgeOf_11 : decode cX12_edgeOf 11 = .ok (.getfield 7, 3) := by decide +kernel
theorem dX12_edgeOf_14 : decode cX12_edgeOf 14 = .ok (.iload_n 1, 1) := by decide +kernel
theorem dX12_edgeOf_15 : decode cX12_edgeOf 15 = .ok (.iaload, 1) := by decide +kernel
theorem dX12_edgeOf_16 : decode cX12_edgeOf 16 = .ok (.ireturn, 1) := by decide +kernel
theorem dX12_edgeOf_17 : decode cX12_edgeOf 17 = .ok (.aload_n 0, 1) := by decide +kernel
theorem dX12_edgeOf_18 : decode cX12_edgeOf 18 = .ok (.getfield 7, 3) := by decide +kernel
theorem dX12_edgeOf_21 : decode cX12_edgeOf 21 = .ok (.iload_n 1, 1) := by decide +kernel
theorem dX12_edgeOf_22 : decode cX12_edgeOf 22 = .ok (.iaload, 1) := by decide +kernel
theorem dX12_edgeOf_23 : decode cX12_edgeOf 23 = .ok (.iconst 2, 1) := by decide +kernel
theorem dX12_edgeOf_24 : decode cX12_edgeOf 24 = .ok (.if_icmp .ne 12, 3) := by decide +kernel
theorem dX12_edgeOf_27 : decode cX12_edgeOf 27 = .ok (.aload_n 0, 1) := by decide +kernel
theorem dX12_edgeOf_28 : decode cX12_edgeOf 28 = .ok (.iload_n 1, 1) := by decide +kernel
theorem dX12_edgeOf_29 : decode cX12_edgeOf 29 = .ok (.iconst 0, 1) := by decide +kernel
theorem dX12_edgeOf_30 : decode cX12_edgeOf 30 = .ok (.invokevirtual 139, 3) := by decide +kernel
theorem dX12_edgeOf_33 : decode cX12_edgeOf 33 = .ok (.iconst 1, 1) := by decide +kernel
theorem dX12_edgeOf_34 : decode cX12_edgeOf 34 = .ok (.iadd, 1) := by decide +kernel
theorem dX12_edgeOf_35 : decode cX12_edgeOf 35 = .ok (.ireturn, 1) := by decide +kernel
theorem dX12_edgeOf_36 : decode cX12_edgeOf 36 = .ok (.iconst 0, 1) := by decide +kernel
theorem dX12_edgeOf_37 : decode cX12_edgeOf 37 = .ok (.istore_n 2, 1) := by decide +kernel
theorem dX12_edgeOf_38 : decode cX12_edgeOf 38 = .ok (.iconst 0, 1) := by decide +kernel
theorem dX12_edgeOf_39 : decode cX12_edgeOf 39 = .ok (.istore_n 3, 1) := by decide +kernel
theorem dX12_edgeOf_40 : decode cX12_edgeOf 40 = .ok (.iload_n 3, 1) := by decide +kernel
theorem dX12_edgeOf_41 : decode cX12_edgeOf 41 = .ok (.aload_n 0, 1) := by decide +kernel
theorem dX12_edgeOf_42 : decode cX12_edgeOf 42 = .ok (.getfield 7, 3) := by decide +kernel
theorem dX12_edgeOf_45 : decode cX12_edgeOf 45 = .ok (.iload_n 1, 1) := by decide +kernel
theorem dX12_edgeOf_46 : decode cX12_edgeOf 46 = .ok (.iaload, 1) := by decide +kernel
theorem dX12_edgeOf_47 : decode cX12_edgeOf 47 = .ok (.if_icmp .ge 18, 3) := by decide +kernel
theorem dX12_edgeOf_50 : decode cX12_edgeOf 50 = .ok (.iload_n 2, 1) := by decide +kernel
theorem dX12_edgeOf_51 : decode cX12_edgeOf 51 = .ok (.aload_n 0, 1) := by decide +kernel
theorem dX12_edgeOf_52 : decode cX12_edgeOf 52 = .ok (.iload_n 1, 1) := by decide +kernel
theorem dX12_edgeOf_53 : decode cX12_edgeOf 53 = .ok (.iload_n 3, 1) := by decide +kernel
theorem dX12_edgeOf_54 : decode cX12_edgeOf 54 = .ok (.invokevirtual 139, 3) := by decide +kernel
theorem dX12_edgeOf_57 : decode cX12_edgeOf 57 = .ok (.iadd, 1) := by decide +kernel
theorem dX12_edgeOf_58 : decode cX12_edgeOf 58 = .ok (.istore_n 2, 1) := by decide +kernel
theorem dX12_edgeOf_59 : decode cX12_edgeOf 59 = .ok (.iinc 3 1, 3) := by decide +kernel
theorem dX12_edgeOf_62 : decode cX12_edgeOf 62 = .ok (.goto (-22), 3) := by decide +kernel
theorem dX12_edgeOf_65 : decode cX12_edgeOf 65 = .ok (.iload_n 2, 1) := by decide +kernel
theorem dX12_edgeOf_66 : decode cX12_edgeOf 66 = .ok (.ireturn, 1) := by decide +kernel
theorem dX12_insideOf_0 : decode cX12_insideOf 0 = .ok (.aload_n 0, 1) := by decide +kernel
theorem dX12_insideOf_1 : decode cX12_insideOf 1 = .ok (.iload_n 1, 1) := by decide +kernel
theorem dX12_insideOf_2 : decode cX12_insideOf 2 = .ok (.invokevirtual 142, 3) := by decide +kernel
theorem dX12_insideOf_5 : decode cX12_insideOf 5 = .ok (.ifCond .eq 21, 3) := by decide +kernel
theorem dX12_insideOf_8 : decode cX12_insideOf 8 = .ok (.aload_n 0, 1) := by decide +kernel
theorem dX12_insideOf_9 : decode cX12_insideOf 9 = .ok (.iload_n 1, 1) := by decide +kernel
theorem dX12_insideOf_10 : decode cX12_insideOf 10 = .ok (.invokevirtual 145, 3) := by decide +kernel
theorem dX12_insideOf_13 : decode cX12_insideOf 13 = .ok (.aload_n 0, 1) := by decide +kernel
theorem dX12_insideOf_14 : decode cX12_insideOf 14 = .ok (.iload_n 1, 1) := by decide +kernel
theorem dX12_insideOf_15 : decode cX12_insideOf 15 = .ok (.invokevirtual 148, 3) := by decide +kernel
theorem dX12_insideOf_18 : decode cX12_insideOf 18 = .ok (.isub, 1) := by decide +kernel
theorem dX12_insideOf_19 : decode cX12_insideOf 19 = .ok (.iconst 2, 1) := by decide +kernel
theorem dX12_insideOf_20 : decode cX12_insideOf 20 = .ok (.iadd, 1) := by decide +kernel
theorem dX12_insideOf_21 : decode cX12_insideOf 21 = .ok (.iconst 2, 1) := by decide +kernel
theorem dX12_insideOf_22 : decode cX12_insideOf 22 = .ok (.idiv, 1) := by decide +kernel
theorem dX12_insideOf_23 : decode cX12_insideOf 23 = .ok (.goto 4, 3) := by decide +kernel
theorem dX12_insideOf_26 : decode cX12_insideOf 26 = .ok (.iconst 0, 1) := by decide +kernel
theorem dX12_insideOf_27 : decode cX12_insideOf 27 = .ok (.ireturn, 1) := by decide +kernel
theorem dX12_points_0 : decode cX12_points 0 = .ok (.iload_n 1, 1) := by decide +kernel
theorem dX12_points_1 : decode cX12_points 1 = .ok (.invokestatic 120, 3) := by decide +kernel
theorem dX12_points_4 : decode cX12_points 4 = .ok (.ifCond .eq 12, 3) := by decide +kernel
theorem dX12_points_7 : decode cX12_points 7 = .ok (.iload_n 2, 1) := by decide +kernel
theorem dX12_points_8 : decode cX12_points 8 = .ok (.iconst 0, 1) := by decide +kernel
theorem dX12_points_9 : decode cX12_points 9 = .ok (.iconst 3, 1) := by decide +kernel
theorem dX12_points_10 : decode cX12_points 10 = .ok (.invokestatic 81, 3) := by decide +kernel
theorem dX12_points_13 : decode cX12_points 13 = .ok (.ifCond .ne 5, 3) := by decide +kernel
theorem dX12_points_16 : decode cX12_points 16 = .ok (.iconst (-1), 1) := by decide +kernel
theorem dX12_points_17 : decode cX12_points 17 = .ok (.ireturn, 1) := by decide +kernel
theorem dX12_points_18 : decode cX12_points 18 = .ok (.iload_n 2, 1) := by decide +kernel
theorem dX12_points_19 : decode cX12_points 19 = .ok (.ifCond .ne 11, 3) := by decide +kernel
theorem dX12_points_22 : decode cX12_points 22 = .ok (.aload_n 0, 1) := by decide +kernel
theorem dX12_points_23 : decode cX12_points 23 = .ok (.iload_n 1, 1) := by decide +kernel
theorem dX12_points_24 : decode cX12_points 24 = .ok (.invokevirtual 145, 3) := by decide +kernel
theorem dX12_points_27 : decode cX12_points 27 = .ok (.goto 40, 3) := by decide +kernel
theorem dX12_points_30 : decode cX12_points 30 = .ok (.iload_n 2, 1) := by decide +kernel
theorem dX12_points_31 : decode cX12_points 31 = .ok (.iconst 1, 1) := by decide +kernel
theorem dX12_points_32 : decode cX12_points 32 = .ok (.if_icmp .ne 11, 3) := by decide +kernel
theorem dX12_points_35 : decode cX12_points 35 = .ok (.aload_n 0, 1) := by decide +kernel
theorem dX12_points_36 : decode cX12_points 36 = .ok (.iload_n 1, 1) := by decide +kernel
theorem dX12_points_37 : decode cX12_points 37 = .ok (.invokevirtual 148, 3) := by decide +kernel
theorem dX12_points_40 : decode cX12_points 40 = .ok (.goto 27, 3) := by decide +kernel
theorem dX12_points_43 : decode cX12_points 43 = .ok (.iload_n 2, 1) := by decide +kernel
theorem dX12_points_44 : decode cX12_points 44 = .ok (.iconst 2, 1) := by decide +kernel
theorem dX12_points_45 : decode cX12_points 45 = .ok (.if_icmp .ne 11, 3) := by decide +kernel
theorem dX12_points_48 : decode cX12_points 48 = .ok (.aload_n 0, 1) := by decide +kernel
theorem dX12_points_49 : decode cX12_points 49 = .ok (.iload_n 1, 1) := by decide +kernel
theorem dX12_points_50 : decode cX12_points 50 = .ok (.invokevirtual 151, 3) := by decide +kernel
theorem dX12_points_53 : decode cX12_points 53 = .ok (.goto 14, 3) := by decide +kernel
theorem dX12_points_56 : decode cX12_points 56 = .ok (.aload_n 0, 1) := by decide +kernel
theorem dX12_points_57 : decode cX12_points 57 = .ok (.iload_n 1, 1) := by decide +kernel
theorem dX12_points_58 : decode cX12_points 58 = .ok (.invokevirtual 148, 3) := by decide +kernel
theorem dX12_points_61 : decode cX12_points 61 = .ok (.aload_n 0, 1) := by decide +kernel
theorem dX12_points_62 : decode cX12_points 62 = .ok (.iload_n 1, 1) := by decide +kernel
theorem dX12_points_63 : decode cX12_points 63 = .ok (.invokevirtual 151, 3) := by decide +kernel
theorem dX12_points_66 : decode cX12_points 66 = .ok (.iadd, 1) := by decide +kernel
theorem dX12_points_67 : decode cX12_points 67 = .ok (.ireturn, 1) := by decide +kernel
theorem dX12_times_0 : decode cX12_times 0 = .ok (.iload_n 1, 1) := by decide +kernel
theorem dX12_times_1 : decode cX12_times 1 = .ok (.invokestatic 120, 3) := by decide +kernel
theorem dX12_times_4 : decode cX12_times 4 = .ok (.ifCond .eq 23, 3) := by decide +kernel
theorem dX12_times_7 : decode cX12_times 7 = .ok (.iload_n 2, 1) := by decide +kernel
theorem dX12_times_8 : decode cX12_times 8 = .ok (.iconst 0, 1) := by decide +kernel
theorem dX12_times_9 : decode cX12_times 9 = .ok (.sipush 1000, 3) := by decide +kernel
theorem dX12_times_12 : decode cX12_times 12 = .ok (.invokestatic 81, 3) := by decide +kernel
theorem dX12_times_15 : decode cX12_times 15 = .ok (.ifCond .eq 12, 3) := by decide +kernel
theorem dX12_times_18 : decode cX12_times 18 = .ok (.iload_n 3, 1) := by decide +kernel
theorem dX12_times_19 : decode cX12_times 19 = .ok (.iconst 0, 1) := by decide +kernel
theorem dX12_times_20 : decode cX12_times 20 = .ok (.iconst 1, 1) := by decide +kernel
theorem dX12_times_21 : decode cX12_times 21 = .ok (.invokestatic 81, 3) := by decide +kernel
theorem dX12_times_24 : decode cX12_times 24 = .ok (.ifCond .ne 7, 3) := by decide +kernel
theorem dX12_times_27 : decode cX12_times 27 = .ok (.ldc2_w 154, 3) := by decide +kernel
theorem dX12_times_30 : decode cX12_times 30 = .ok (.lreturn, 1) := by decide +kernel
theorem dX12_times_31 : decode cX12_times 31 = .ok (.iload_n 3, 1) := by decide +kernel
theorem dX12_times_32 : decode cX12_times 32 = .ok (.iconst 1, 1) := by decide +kernel
theorem dX12_times_33 : decode cX12_times 33 = .ok (.if_icmp .ne 15, 3) := by decide +kernel
theorem dX12_times_36 : decode cX12_times 36 = .ok (.aload_n 0, 1) := by decide +kernel
theorem dX12_times_37 : decode cX12_times 37 = .ok (.iload_n 1, 1) := by decide +kernel
theorem dX12_times_38 : decode cX12_times 38 = .ok (.invokevirtual 142, 3) := by decide +kernel
theorem dX12_times_41 : decode cX12_times 41 = .ok (.ifCond .ne 7, 3) := by decide +kernel
theorem dX12_times_44 : decode cX12_times 44 = .ok (.ldc2_w 156, 3) := by decide +kernel
theorem dX12_times_47 : decode cX12_times 47 = .ok (.lreturn, 1) := by decide +kernel
theorem dX12_times_48 : decode cX12_times 48 = .ok (.aload_n 0, 1) := by decide +kernel
theorem dX12_times_49 : decode cX12_times 49 = .ok (.getfield 7, 3) := by decide +kernel
theorem dX12_times_52 : decode cX12_times 52 = .ok (.iload_n 1, 1) := by decide +kernel
theorem dX12_times_53 : decode cX12_times 53 = .ok (.iaload, 1) := by decide +kernel
theorem dX12_times_54 : decode cX12_times 54 = .ok (.ifCond .ne 5, 3) := by decide +kernel
theorem dX12_times_57 : decode cX12_times 57 = .ok (.lconst 0, 1) := by decide +kernel
theorem dX12_times_58 : decode cX12_times 58 = .ok (.lreturn, 1) := by decide +kernel
theorem dX12_times_59 : decode cX12_times 59 = .ok (.iload_n 2, 1) := by decide +kernel
theorem dX12_times_60 : decode cX12_times 60 = .ok (.ifCond .ne 13, 3) := by decide +kernel
theorem dX12_times_63 : decode cX12_times 63 = .ok (.iload_n 3, 1) := by decide +kernel
theorem dX12_times_64 : decode cX12_times 64 = .ok (.ifCond .ne 7, 3) := by decide +kernel
theorem dX12_times_67 : decode cX12_times 67 = .ok (.lconst 1, 1) := by decide +kernel
theorem dX12_times_68 : decode cX12_times 68 = .ok (.goto 4, 3) := by decide +kernel
theorem dX12_times_71 : decode cX12_times 71 = .ok (.lconst 0, 1) := by decide +kernel
theorem dX12_times_72 : decode cX12_times 72 = .ok (.lreturn, 1) := by decide +kernel
theorem dX12_times_73 : decode cX12_times 73 = .ok (.aload_n 0, 1) := by decide +kernel
theorem dX12_times_74 : decode cX12_times 74 = .ok (.iload_n 1, 1) := by decide +kernel
theorem dX12_times_75 : decode cX12_times 75 = .ok (.invokevirtual 142, 3) := by decide +kernel
theorem dX12_times_78 : decode cX12_times 78 = .ok (.ifCond .ne 17, 3) := by decide +kernel
theorem dX12_times_81 : decode cX12_times 81 = .ok (.aload_n 0, 1) := by decide +kernel
theorem dX12_times_82 : decode cX12_times 82 = .ok (.iload_n 1, 1) := by decide +kernel
theorem dX12_times_83 : decode cX12_times 83 = .ok (.invokevirtual 148, 3) := by decide +kernel
theorem dX12_times_86 : decode cX12_times 86 = .ok (.iconst 1, 1) := by decide +kernel
theorem dX12_times_87 : decode cX12_times 87 = .ok (.isub, 1) := by decide +kernel
theorem dX12_times_88 : decode cX12_times 88 = .ok (.i2l, 1) := by decide +kernel
theorem dX12_times_89 : decode cX12_times 89 = .ok (.iload_n 2, 1) := by decide +kernel
theorem dX12_times_90 : decode cX12_times 90 = .ok (.i2l, 1) := by decide +kernel
theorem dX12_times_91 : decode cX12_times 91 = .ok (.lmul, 1) := by decide +kernel
theorem dX12_times_92 : decode cX12_times 92 = .ok (.lconst 1, 1) := by decide +kernel
theorem dX12_times_93 : decode cX12_times 93 = .ok (.ladd, 1) := by decide +kernel
theorem dX12_times_94 : decode cX12_times 94 = .ok (.lreturn, 1) := by decide +kernel
theorem dX12_times_95 : decode cX12_times 95 = .ok (.aload_n 0, 1) := by decide +kernel
theorem dX12_times_96 : decode cX12_times 96 = .ok (.iload_n 1, 1) := by decide +kernel
theorem dX12_times_97 : decode cX12_times 97 = .ok (.invokevirtual 148, 3) := by decide +kernel
theorem dX12_times_100 : decode cX12_times 100 = .ok (.i2l, 1) := by decide +kernel
theorem dX12_times_101 : decode cX12_times 101 = .ok (.iload_n 2, 1) := by decide +kernel
theorem dX12_times_102 : decode cX12_times 102 = .ok (.i2l, 1) := by decide +kernel
theorem dX12_times_103 : decode cX12_times 103 = .ok (.lmul, 1) := by decide +kernel
theorem dX12_times_104 : decode cX12_times 104 = .ok (.lstore 4, 2) := by decide +kernel
theorem dX12_times_106 : decode cX12_times 106 = .ok (.aload_n 0, 1) := by decide +kernel
theorem dX12_times_107 : decode cX12_times 107 = .ok (.iload_n 1, 1) := by decide +kernel
theorem dX12_times_108 : decode cX12_times 108 = .ok (.invokevirtual 145, 3) := by decide +kernel
theorem dX12_times_111 : decode cX12_times 111 = .ok (.i2l, 1) := by decide +kernel
theorem dX12_times_112 : decode cX12_times 112 = .ok (.iload_n 2, 1) := by decide +kernel
theorem dX12_times_113 : decode cX12_times 113 = .ok (.i2l, 1) := by decide +kernel
theorem dX12_times_114 : decode cX12_times 114 = .ok (.lmul, 1) := by decide +kernel
theorem dX12_times_115 : decode cX12_times 115 = .ok (.iload_n 2, 1) := by decide +kernel
theorem dX12_times_116 : decode cX12_times 116 = .ok (.i2l, 1) := by decide +kernel
theorem dX12_times_117 : decode cX12_times 117 = .ok (.lmul, 1) := by decide +kernel
theorem dX12_times_118 : decode cX12_times 118 = .ok (.lload 4, 2) := by decide +kernel
theorem dX12_times_120 : decode cX12_times 120 = .ok (.lsub, 1) := by decide +kernel
theorem dX12_times_121 : decode cX12_times 121 = .ok (.ldc2_w 158, 3) := by decide +kernel
theorem dX12_times_124 : decode cX12_times 124 = .ok (.ladd, 1) := by decide +kernel
theorem dX12_times_125 : decode cX12_times 125 = .ok (.ldc2_w 158, 3) := by decide +kernel
theorem dX12_times_128 : decode cX12_times 128 = .ok (.ldiv, 1) := by decide +kernel
theorem dX12_times_129 : decode cX12_times 129 = .ok (.lstore 6, 2) := by decide +kernel
theorem dX12_times_131 : decode cX12_times 131 = .ok (.iload_n 3, 1) := by decide +kernel
theorem dX12_times_132 : decode cX12_times 132 = .ok (.ifCond .ne 11, 3) := by decide +kernel
theorem dX12_times_135 : decode cX12_times 135 = .ok (.lload 6, 2) := by decide +kernel
theorem dX12_times_137 : decode cX12_times 137 = .ok (.lload 4, 2) := by decide +kernel
theorem dX12_times_139 : decode cX12_times 139 = .ok (.ladd, 1) := by decide +kernel
theorem dX12_times_140 : decode cX12_times 140 = .ok (.goto 5, 3) := by decide +kernel
theorem dX12_times_143 : decode cX12_times 143 = .ok (.lload 6, 2) := by decide +kernel
theorem dX12_times_145 : decode cX12_times 145 = .ok (.lreturn, 1) := by decide +kernel
theorem dX12_cross_0 : decode cX12_cross 0 = .ok (.iload_n 0, 1) := by decide +kernel
theorem dX12_cross_1 : decode cX12_cross 1 = .ok (.iload_n 3, 1) := by decide +kernel
theorem dX12_cross_2 : decode cX12_cross 2 = .ok (.imul, 1) := by decide +kernel
theorem dX12_cross_3 : decode cX12_cross 3 = .ok (.iload_n 1, 1) := by decide +kernel
theorem dX12_cross_4 : decode cX12_cross 4 = .ok (.iload_n 2, 1) := by decide +kernel
theorem dX12_cross_5 : decode cX12_cross 5 = .ok (.imul, 1) := by decide +kernel
theorem dX12_cross_6 : decode cX12_cross 6 = .ok (.isub, 1) := by decide +kernel
theorem dX12_cross_7 : decode cX12_cross 7 = .ok (.ireturn, 1) := by decide +kernel
theorem dX12_whereOf_0 : decode cX12_whereOf 0 = .ok (.aload_n 0, 1) := by decide +kernel
theorem dX12_whereOf_1 : decode cX12_whereOf 1 = .ok (.getfield 7, 3) := by decide +kernel
theorem dX12_whereOf_4 : decode cX12_whereOf 4 = .ok (.iload_n 1, 1) := by decide +kernel
theorem dX12_whereOf_5 : decode cX12_whereOf 5 = .ok (.iaload, 1) := by decide +kernel
theorem dX12_whereOf_6 : decode cX12_whereOf 6 = .ok (.iconst 2, 1) := by decide +kernel
theorem dX12_whereOf_7 : decode cX12_whereOf 7 = .ok (.if_icmp .ge 39, 3) := by decide +kernel
theorem dX12_whereOf_10 : decode cX12_whereOf 10 = .ok (.aload_n 0, 1) := by decide +kernel
theorem dX12_whereOf_11 : decode cX12_whereOf 11 = .ok (.getfield 7, 3) := by decide +kernel
theorem dX12_whereOf_14 : decode cX12_whereOf 14 = .ok (.iload_n 1, 1) := by decide +kernel
theorem dX12_whereOf_15 : decode cX12_whereOf 15 = .ok (.iaload, 1) := by decide +kernel
theorem dX12_whereOf_16 : decode cX12_whereOf 16 = .ok (.iconst 1, 1) := by decide +kernel
theorem dX12_whereOf_17 : decode cX12_whereOf 17 = .ok (.if_icmp .ne 27, 3) := by decide +kernel
theorem dX12_whereOf_20 : decode cX12_whereOf 20 = .ok (.aload_n 0, 1) := by decide +kernel
theorem dX12_whereOf_21 : decode cX12_whereOf 21 = .ok (.iload_n 1, 1) := by decide +kernel
theorem dX12_whereOf_22 : decode cX12_whereOf 22 = .ok (.iconst 0, 1) := by decide +kernel
theorem dX12_whereOf_23 : decode cX12_whereOf 23 = .ok (.invokevirtual 107, 3) := by decide +kernel
theorem dX12_whereOf_26 : decode cX12_whereOf 26 = .ok (.iload_n 2, 1) := by decide +kernel
theorem dX12_whereOf_27 : decode cX12_whereOf 27 = .ok (.if_icmp .ne 17, 3) := by decide +kernel
theorem dX12_whereOf_30 : decode cX12_whereOf 30 = .ok (.aload_n 0, 1) := by decide +kernel
theorem dX12_whereOf_31 : decode cX12_whereOf 31 = .ok (.iload_n 1, 1) := by decide +kernel
theorem dX12_whereOf_32 : decode cX12_whereOf 32 = .ok (.iconst 0, 1) := by decide +kernel
theorem dX12_whereOf_33 : decode cX12_whereOf 33 = .ok (.invokevirtual 111, 3) := by decide +kernel
theorem dX12_whereOf_36 : decode cX12_whereOf 36 = .ok (.iload_n 3, 1) := by decide +kernel
theorem dX12_whereOf_37 : decode cX12_whereOf 37 = .ok (.if_icmp .ne 7, 3) := by decide +kernel
theorem dX12_whereOf_40 : decode cX12_whereOf 40 = .ok (.iconst 1, 1) := by decide +kernel
theorem dX12_whereOf_41 : decode cX12_whereOf 41 = .ok (.goto 4, 3) := by decide +kernel
theorem dX12_whereOf_44 : decode cX12_whereOf 44 = .ok (.iconst 0, 1) := by decide +kernel
theorem dX12_whereOf_45 : decode cX12_whereOf 45 = .ok (.ireturn, 1) := by decide +kernel
theorem dX12_whereOf_46 : decode cX12_whereOf 46 = .ok (.iconst 1, 1) := by decide +kernel
theorem dX12_whereOf_47 : decode cX12_whereOf 47 = .ok (.istore 4, 2) := by decide +kernel
theorem dX12_whereOf_49 : decode cX12_whereOf 49 = .ok (.iconst 0, 1) := by decide +kernel
theorem dX12_whereOf_50 : decode cX12_whereOf 50 = .ok (.istore 5, 2) := by decide +kernel
theorem dX12_whereOf_52 : decode cX12_whereOf 52 = .ok (.iconst 0, 1) := by decide +kernel
theorem dX12_whereOf_53 : decode cX12_whereOf 53 = .ok (.istore 6, 2) := by decide +kernel
theorem dX12_whereOf_55 : decode cX12_whereOf 55 = .ok (.iload 6, 2) := by decide +kernel
theorem dX12_whereOf_57 : decode cX12_whereOf 57 = .ok (.aload_n 0, 1) := by decide +kernel
theorem dX12_whereOf_58 : decode cX12_whereOf 58 = .ok (.getfield 7, 3) := by decide +kernel
theorem dX12_whereOf_61 : decode cX12_whereOf 61 = .ok (.iload_n 1, 1) := by decide +kernel
theorem dX12_whereOf_62 : decode cX12_whereOf 62 = .ok (.iaload, 1) := by decide +kernel
theorem dX12_whereOf_63 : decode cX12_whereOf 63 = .ok (.if_icmp .ge 160, 3) := by decide +kernel
theorem dX12_whereOf_66 : decode cX12_whereOf 66 = .ok (.aload_n 0, 1) := by decide +kernel
theorem dX12_whereOf_67 : decode cX12_whereOf 67 = .ok (.iload_n 1, 1) := by decide +kernel
theorem dX12_whereOf_68 : decode cX12_whereOf 68 = .ok (.iload 6, 2) := by decide +kernel
theorem dX12_whereOf_70 : decode cX12_whereOf 70 = .ok (.iconst 1, 1) := by decide +kernel
theorem dX12_whereOf_71 : decode cX12_whereOf 71 = .ok (.iadd, 1) := by decide +kernel
theorem dX12_whereOf_72 : decode cX12_whereOf 72 = .ok (.invokevirtual 107, 3) := by decide +kernel
theorem dX12_whereOf_75 : decode cX12_whereOf 75 = .ok (.aload_n 0, 1) := by decide +kernel
theorem dX12_whereOf_76 : decode cX12_whereOf 76 = .ok (.iload_n 1, 1) := by decide +kernel
theorem dX12_whereOf_77 : decode cX12_whereOf 77 = .ok (.iload 6, 2) := by decide +kernel
theorem dX12_whereOf_79 : decode cX12_whereOf 79 = .ok (.invokevirtual 107, 3) := by decide +kernel
theorem dX12_whereOf_82 : decode cX12_whereOf 82 = .ok (.isub, 1) := by decide +kernel
theorem dX12_whereOf_83 : decode cX12_whereOf 83 = .ok (.aload_n 0, 1) := by decide +kernel
theorem dX12_whereOf_84 : decode cX12_whereOf 84 = .ok (.iload_n 1, 1) := by decide +kernel
theorem dX12_whereOf_85 : decode cX12_whereOf 85 = .ok (.iload 6, 2) := by decide +kernel
theorem dX12_whereOf_87 : decode cX12_whereOf 87 = .ok (.iconst 1, 1) := by decide +kernel
theorem dX12_whereOf_88 : decode cX12_whereOf 88 = .ok (.iadd, 1) := by decide +kernel
theorem dX12_whereOf_89 : decode cX12_whereOf 89 = .ok (.invokevirtual 111, 3) := by decide +kernel
theorem dX12_whereOf_92 : decode cX12_whereOf 92 = .ok (.aload_n 0, 1) := by decide +kernel
theorem dX12_whereOf_93 : decode cX12_whereOf 93 = .ok (.iload_n 1, 1) := by decide +kernel
theorem dX12_whereOf_94 : decode cX12_whereOf 94 = .ok (.iload 6, 2) := by decide +kernel
theorem dX12_whereOf_96 : decode cX12_whereOf 96 = .ok (.invokevirtual 111, 3) := by decide +kernel
theorem dX12_whereOf_99 : decode cX12_whereOf 99 = .ok (.isub, 1) := by decide +kernel
theorem dX12_whereOf_100 : decode cX12_whereOf 100 = .ok (.iload_n 2, 1) := by decide +kernel
theorem dX12_whereOf_101 : decode cX12_whereOf 101 = .ok (.aload_n 0, 1) := by decide +kernel
theorem dX12_whereOf_102 : decode cX12_whereOf 102 = .ok (.iload_n 1, 1) := by decide +kernel
theorem dX12_whereOf_103 : decode cX12_whereOf 103 = .ok (.iload 6, 2) := by decide +kernel
theorem dX12_whereOf_105 : decode cX12_whereOf 105 = .ok (.invokevirtual 107, 3) := by decide +kernel
theorem dX12_whereOf_108 : decode cX12_whereOf 108 = .ok (.isub, 1) := by decide +kernel
theorem dX12_whereOf_109 : decode cX12_whereOf 109 = .ok (.iload_n 3, 1) := by decide +kernel
theorem dX12_whereOf_110 : decode cX12_whereOf 110 = .ok (.aload_n 0, 1) := by decide +kernel
theorem dX12_whereOf_111 : decode cX12_whereOf 111 = .ok (.iload_n 1, 1) := by decide +kernel
theorem dX12_whereOf_112 : decode cX12_whereOf 112 = .ok (.iload 6, 2) := by decide +kernel
theorem dX12_whereOf_114 : decode cX12_whereOf 114 = .ok (.invokevirtual 111, 3) := by decide +kernel
theorem dX12_whereOf_117 : decode cX12_whereOf 117 = .ok (.isub, 1) := by decide +kernel
theorem dX12_whereOf_118 : decode cX12_whereOf 118 = .ok (.invokestatic 160, 3) := by decide +kernel
theorem dX12_whereOf_121 : decode cX12_whereOf 121 = .ok (.istore 7, 2) := by decide +kernel
theorem dX12_whereOf_123 : decode cX12_whereOf 123 = .ok (.iload 4, 2) := by decide +kernel
theorem dX12_whereOf_125 : decode cX12_whereOf 125 = .ok (.ifCond .eq 12, 3) := by decide +kernel
theorem dX12_whereOf_128 : decode cX12_whereOf 128 = .ok (.iload 7, 2) := by decide +kernel
theorem dX12_whereOf_130 : decode cX12_whereOf 130 = .ok (.ifCond .lt 7, 3) := by decide +kernel
theorem dX12_whereOf_133 : decode cX12_whereOf 133 = .ok (.iconst 1, 1) := by decide +kernel
theorem dX12_whereOf_134 : decode cX12_whereOf 134 = .ok (.goto 4, 3) := by decide +kernel
theorem dX12_whereOf_137 : decode cX12_whereOf 137 = .ok (.iconst 0, 1) := by decide +kernel
theorem dX12_whereOf_138 : decode cX12_whereOf 138 = .ok (.istore 4, 2) := by decide +kernel
theorem dX12_whereOf_140 : decode cX12_whereOf 140 = .ok (.iload_n 2, 1) := by decide +kernel
theorem dX12_whereOf_141 : decode cX12_whereOf 141 = .ok (.aload_n 0, 1) := by decide +kernel
theorem dX12_whereOf_142 : decode cX12_whereOf 142 = .ok (.iload_n 1, 1) := by decide +kernel
theorem dX12_whereOf_143 : decode cX12_whereOf 143 = .ok (.iload 6, 2) := by decide +kernel
theorem dX12_whereOf_145 : decode cX12_whereOf 145 = .ok (.invokevirtual 107, 3) := by decide +kernel
theorem dX12_whereOf_148 : decode cX12_whereOf 148 = .ok (.isub, 1) := by decide +kernel
theorem dX12_whereOf_149 : decode cX12_whereOf 149 = .ok (.iload_n 2, 1) := by decide +kernel
theorem dX12_whereOf_150 : decode cX12_whereOf 150 = .ok (.aload_n 0, 1) := by decide +kernel
theorem dX12_whereOf_151 : decode cX12_whereOf 151 = .ok (.iload_n 1, 1) := by decide +kernel
theorem dX12_whereOf_152 : decode cX12_whereOf 152 = .ok (.iload 6, 2) := by decide +kernel
theorem dX12_whereOf_154 : decode cX12_whereOf 154 = .ok (.iconst 1, 1) := by decide +kernel
theorem dX12_whereOf_155 : decode cX12_whereOf 155 = .ok (.iadd, 1) := by decide +kernel
theorem dX12_whereOf_156 : decode cX12_whereOf 156 = .ok (.invokevirtual 107, 3) := by decide +kernel
theorem dX12_whereOf_159 : decode cX12_whereOf 159 = .ok (.isub, 1) := by decide +kernel
theorem dX12_whereOf_160 : decode cX12_whereOf 160 = .ok (.imul, 1) := by decide +kernel
theorem dX12_whereOf_161 : decode cX12_whereOf 161 = .ok (.ifCond .gt 31, 3) := by decide +kernel
theorem dX12_whereOf_164 : decode cX12_whereOf 164 = .ok (.iload_n 3, 1) := by decide +kernel
theorem dX12_whereOf_165 : decode cX12_whereOf 165 = .ok (.aload_n 0, 1) := by decide +kernel
theorem dX12_whereOf_166 : decode cX12_whereOf 166 = .ok (.iload_n 1, 1) := by decide +kernel
theorem dX12_whereOf_167 : decode cX12_whereOf 167 = .ok (.iload 6, 2) := by decide +kernel
theorem dX12_whereOf_169 : decode cX12_whereOf 169 = .ok (.invokevirtual 111, 3) := by decide +kernel
theorem dX12_whereOf_172 : decode cX12_whereOf 172 = .ok (.isub, 1) := by decide +kernel
theorem dX12_whereOf_173 : decode cX12_whereOf 173 = .ok (.iload_n 3, 1) := by decide +kernel
theorem dX12_whereOf_174 : decode cX12_whereOf 174 = .ok (.aload_n 0, 1) := by decide +kernel
theorem dX12_whereOf_175 : decode cX12_whereOf 175 = .ok (.iload_n 1, 1) := by decide +kernel
theorem dX12_whereOf_176 : decode cX12_whereOf 176 = .ok (.iload 6, 2) := by decide +kernel
theorem dX12_whereOf_178 : decode cX12_whereOf 178 = .ok (.iconst 1, 1) := by decide +kernel
theorem dX12_whereOf_179 : decode cX12_whereOf 179 = .ok (.iadd, 1) := by decide +kernel
theorem dX12_whereOf_180 : decode cX12_whereOf 180 = .ok (.invokevirtual 111, 3) := by decide +kernel
theorem dX12_whereOf_183 : decode cX12_whereOf 183 = .ok (.isub, 1) := by decide +kernel
theorem dX12_whereOf_184 : decode cX12_whereOf 184 = .ok (.imul, 1) := by decide +kernel
theorem dX12_whereOf_185 : decode cX12_whereOf 185 = .ok (.ifCond .gt 7, 3) := by decide +kernel
theorem dX12_whereOf_188 : decode cX12_whereOf 188 = .ok (.iconst 1, 1) := by decide +kernel
theorem dX12_whereOf_189 : decode cX12_whereOf 189 = .ok (.goto 4, 3) := by decide +kernel
theorem dX12_whereOf_192 : decode cX12_whereOf 192 = .ok (.iconst 0, 1) := by decide +kernel
theorem dX12_whereOf_193 : decode cX12_whereOf 193 = .ok (.istore 8, 2) := by decide +kernel
theorem dX12_whereOf_195 : decode cX12_whereOf 195 = .ok (.iload 5, 2) := by decide +kernel
theorem dX12_whereOf_197 : decode cX12_whereOf 197 = .ok (.ifCond .ne 13, 3) := by decide +kernel
theorem dX12_whereOf_200 : decode cX12_whereOf 200 = .ok (.iload 7, 2) := by decide +kernel
theorem dX12_whereOf_202 : decode cX12_whereOf 202 = .ok (.ifCond .ne 12, 3) := by decide +kernel
theorem dX12_whereOf_205 : decode cX12_whereOf 205 = .ok (.iload 8, 2) := by decide +kernel
theorem dX12_whereOf_207 : decode cX12_whereOf 207 = .ok (.ifCond .eq 7, 3) := by decide +kernel
theorem dX12_whereOf_210 : decode cX12_whereOf 210 = .ok (.iconst 1, 1) := by decide +kernel
theorem dX12_whereOf_211 : decode cX12_whereOf 211 = .ok (.goto 4, 3) := by decide +kernel
theorem dX12_whereOf_214 : decode cX12_whereOf 214 = .ok (.iconst 0, 1) := by decide +kernel
theorem dX12_whereOf_215 : decode cX12_whereOf 215 = .ok (.istore 5, 2) := by decide +kernel
theorem dX12_whereOf_217 : decode cX12_whereOf 217 = .ok (.iinc 6 1, 3) := by decide +kernel
theorem dX12_whereOf_220 : decode cX12_whereOf 220 = .ok (.goto (-165), 3) := by decide +kernel
theorem dX12_whereOf_223 : decode cX12_whereOf 223 = .ok (.iload 5, 2) := by decide +kernel
theorem dX12_whereOf_225 : decode cX12_whereOf 225 = .ok (.ifCond .eq 7, 3) := by decide +kernel
theorem dX12_whereOf_228 : decode cX12_whereOf 228 = .ok (.iconst 1, 1) := by decide +kernel
theorem dX12_whereOf_229 : decode cX12_whereOf 229 = .ok (.goto 21, 3) := by decide +kernel
theorem dX12_whereOf_232 : decode cX12_whereOf 232 = .ok (.iload 4, 2) := by decide +kernel
theorem dX12_whereOf_234 : decode cX12_whereOf 234 = .ok (.ifCond .eq 15, 3) := by decide +kernel
theorem dX12_whereOf_237 : decode cX12_whereOf 237 = .ok (.aload_n 0, 1) := by decide +kernel
theorem dX12_whereOf_238 : decode cX12_whereOf 238 = .ok (.iload_n 1, 1) := by decide +kernel
theorem dX12_whereOf_239 : decode cX12_whereOf 239 = .ok (.invokevirtual 142, 3) := by decide +kernel
theorem dX12_whereOf_242 : decode cX12_whereOf 242 = .ok (.ifCond .eq 7, 3) := by decide +kernel
theorem dX12_whereOf_245 : decode cX12_whereOf 245 = .ok (.iconst 2, 1) := by decide +kernel
theorem dX12_whereOf_246 : decode cX12_whereOf 246 = .ok (.goto 4, 3) := by decide +kernel
theorem dX12_whereOf_249 : decode cX12_whereOf 249 = .ok (.iconst 0, 1) := by decide +kernel
theorem dX12_whereOf_250 : decode cX12_whereOf 250 = .ok (.ireturn, 1) := by decide +kernel
theorem dX12_where_0 : decode cX12_where 0 = .ok (.iload_n 1, 1) := by decide +kernel
theorem dX12_where_1 : decode cX12_where 1 = .ok (.invokestatic 120, 3) := by decide +kernel
theorem dX12_where_4 : decode cX12_where 4 = .ok (.ifCond .eq 21, 3) := by decide +kernel
theorem dX12_where_7 : decode cX12_where 7 = .ok (.iload_n 2, 1) := by decide +kernel
theorem dX12_where_8 : decode cX12_where 8 = .ok (.iload_n 3, 1) := by decide +kernel
theorem dX12_where_9 : decode cX12_where 9 = .ok (.invokestatic 117, 3) := by decide +kernel
theorem dX12_where_12 : decode cX12_where 12 = .ok (.ifCond .eq 13, 3) := by decide +kernel
theorem dX12_where_15 : decode cX12_where 15 = .ok (.aload_n 0, 1) := by decide +kernel
theorem dX12_where_16 : decode cX12_where 16 = .ok (.iload_n 1, 1) := by decide +kernel
theorem dX12_where_17 : decode cX12_where 17 = .ok (.iload_n 2, 1) := by decide +kernel
theorem dX12_where_18 : decode cX12_where 18 = .ok (.iload_n 3, 1) := by decide +kernel
theorem dX12_where_19 : decode cX12_where 19 = .ok (.invokevirtual 164, 3) := by decide +kernel
theorem dX12_where_22 : decode cX12_where 22 = .ok (.goto 4, 3) := by decide +kernel
theorem dX12_where_25 : decode cX12_where 25 = .ok (.iconst (-1), 1) := by decide +kernel
theorem dX12_where_26 : decode cX12_where 26 = .ok (.ireturn, 1) := by decide +kernel
theorem dX12_findAll_0 : decode cX12_findAll 0 = .ok (.aload_n 0, 1) := by decide +kernel
theorem dX12_findAll_1 : decode cX12_findAll 1 = .ok (.iconst 0, 1) := by decide +kernel
theorem dX12_findAll_2 : decode cX12_findAll 2 = .ok (.putfield 168, 3) := by decide +kernel
theorem dX12_findAll_5 : decode cX12_findAll 5 = .ok (.sipush 1000, 3) := by decide +kernel
theorem dX12_findAll_8 : decode cX12_findAll 8 = .ok (.istore_n 2, 1) := by decide +kernel
theorem dX12_findAll_9 : decode cX12_findAll 9 = .ok (.sipush (-1000), 3) := by decide +kernel
theorem dX12_findAll_12 : decode cX12_findAll 12 = .ok (.istore_n 3, 1) := by decide +kernel
theorem dX12_findAll_13 : decode cX12_findAll 13 = .ok (.sipush 1000, 3) := by decide +kernel
theorem dX12_findAll_16 : decode cX12_findAll 16 = .ok (.istore 4, 2) := by decide +kernel
theorem dX12_findAll_18 : decode cX12_findAll 18 = .ok (.sipush (-1000), 3) := by decide +kernel
theorem dX12_findAll_21 : decode cX12_findAll 21 = .ok (.istore 5, 2) := by decide +kernel
theorem dX12_findAll_23 : decode cX12_findAll 23 = .ok (.iconst 0, 1) := by decide +kernel
theorem dX12_findAll_24 : decode cX12_findAll 24 = .ok (.istore 6, 2) := by decide +kernel
theorem dX12_findAll_26 : decode cX12_findAll 26 = .ok (.iload 6, 2) := by decide +kernel
theorem dX12_findAll_28 : decode cX12_findAll 28 = .ok (.aload_n 0, 1) := by decide +kernel
theorem dX12_findAll_29 : decode cX12_findAll 29 = .ok (.getfield 7, 3) := by decide +kernel
theorem dX12_findAll_32 : decode cX12_findAll 32 = .ok (.iload_n 1, 1) := by decide +kernel
theorem dX12_findAll_33 : decode cX12_findAll 33 = .ok (.iaload, 1) := by decide +kernel
theorem dX12_findAll_34 : decode cX12_findAll 34 = .ok (.if_icmp .ge 107, 3) := by decide +kernel
theorem dX12_findAll_37 : decode cX12_findAll 37 = .ok (.aload_n 0, 1) := by decide +kernel
theorem dX12_findAll_38 : decode cX12_findAll 38 = .ok (.iload_n 1, 1) := by decide +kernel
theorem dX12_findAll_39 : decode cX12_findAll 39 = .ok (.iload 6, 2) := by decide +kernel
theorem dX12_findAll_41 : decode cX12_findAll 41 = .ok (.invokevirtual 107, 3) := by decide +kernel
theorem dX12_findAll_44 : decode cX12_findAll 44 = .ok (.iload_n 2, 1) := by decide +kernel
theorem dX12_findAll_45 : decode cX12_findAll 45 = .ok (.if_icmp .ge 13, 3) := by decide +kernel
theorem dX12_findAll_48 : decode cX12_findAll 48 = .ok (.aload_n 0, 1) := by decide +kernel
theorem dX12_findAll_49 : decode cX12_findAll 49 = .ok (.iload_n 1, 1) := by decide +kernel
theorem dX12_findAll_50 : decode cX12_findAll 50 = .ok (.iload 6, 2) := by decide +kernel
theorem dX12_findAll_52 : decode cX12_findAll 52 = .ok (.invokevirtual 107, 3) := by decide +kernel
theorem dX12_findAll_55 : decode cX12_findAll 55 = .ok (.goto 4, 3) := by decide +kernel
theorem dX12_findAll_58 : decode cX12_findAll 58 = .ok (.iload_n 2, 1) := by decide +kernel
theorem dX12_findAll_59 : decode cX12_findAll 59 = .ok (.istore_n 2, 1) := by decide +kernel
theorem dX12_findAll_60 : decode cX12_findAll 60 = .ok (.aload_n 0, 1) := by decide +kernel
theorem dX12_findAll_61 : decode cX12_findAll 61 = .ok (.iload_n 1, 1) := by decide +kernel
theorem dX12_findAll_62 : decode cX12_findAll 62 = .ok (.iload 6, 2) := by decide +kernel
theorem dX12_findAll_64 : decode cX12_findAll 64 = .ok (.invokevirtual 107, 3) := by decide +kernel
theorem dX12_findAll_67 : decode cX12_findAll 67 = .ok (.iload_n 3, 1) := by decide +kernel
theorem dX12_findAll_68 : decode cX12_findAll 68 = .ok (.if_icmp .le 13, 3) := by decide +kernel
theorem dX12_findAll_71 : decode cX12_findAll 71 = .ok (.aload_n 0, 1) := by decide +kernel
theorem dX12_findAll_72 : decode cX12_findAll 72 = .ok (.iload_n 1, 1) := by decide +kernel
theorem dX12_findAll_73 : decode cX12_findAll 73 = .ok (.iload 6, 2) := by decide +kernel
theorem dX12_findAll_75 : decode cX12_findAll 75 = .ok (.invokevirtual 107, 3) := by decide +kernel
theorem dX12_findAll_78 : decode cX12_findAll 78 = .ok (.goto 4, 3) := by decide +kernel
theorem dX12_findAll_81 : decode cX12_findAll 81 = .ok (.iload_n 3, 1) := by decide +kernel
theorem dX12_findAll_82 : decode cX12_findAll 82 = .ok (.istore_n 3, 1) := by decide +kernel
theorem dX12_findAll_83 : decode cX12_findAll 83 = .ok (.aload_n 0, 1) := by decide +kernel
theorem dX12_findAll_84 : decode cX12_findAll 84 = .ok (.iload_n 1, 1) := by decide +kernel
theorem dX12_findAll_85 : decode cX12_findAll 85 = .ok (.iload 6, 2) := by decide +kernel
theorem dX12_findAll_87 : decode cX12_findAll 87 = .ok (.invokevirtual 111, 3) := by decide +kernel
theorem dX12_findAll_90 : decode cX12_findAll 90 = .ok (.iload 4, 2) := by decide +kernel
theorem dX12_findAll_92 : decode cX12_findAll 92 = .ok (.if_icmp .ge 13, 3) := by decide +kernel
theorem dX12_findAll_95 : decode cX12_findAll 95 = .ok (.aload_n 0, 1) := by decide +kernel
theorem dX12_findAll_96 : decode cX12_findAll 96 = .ok (.iload_n 1, 1) := by decide +kernel
theorem dX12_findAll_97 : decode cX12_findAll 97 = .ok (.iload 6, 2) := by decide +kernel
theorem dX12_findAll_99 : decode cX12_findAll 99 = .ok (.invokevirtual 111, 3) := by decide +kernel
theorem dX12_findAll_102 : decode cX12_findAll 102 = .ok (.goto 5, 3) := by decide +kernel
theorem dX12_findAll_105 : decode cX12_findAll 105 = .ok (.iload 4, 2) := by decide +kernel
theorem dX12_findAll_107 : decode cX12_findAll 107 = .ok (.istore 4, 2) := by decide +kernel
theorem dX12_findAll_109 : decode cX12_findAll 109 = .ok (.aload_n 0, 1) := by decide +kernel
theorem dX12_findAll_110 : decode cX12_findAll 110 = .ok (.iload_n 1, 1) := by decide +kernel
theorem dX12_findAll_111 : decode cX12_findAll 111 = .ok (.iload 6, 2) := by decide +kernel
theorem dX12_findAll_113 : decode cX12_findAll 113 = .ok (.invokevirtual 111, 3) := by decide +kernel
theorem dX12_findAll_116 : decode cX12_findAll 116 = .ok (.iload 5, 2) := by decide +kernel
theorem dX12_findAll_118 : decode cX12_findAll 118 = .ok (.if_icmp .le 13, 3) := by decide +kernel
theorem dX12_findAll_121 : decode cX12_findAll 121 = .ok (.aload_n 0, 1) := by decide +kernel
theorem dX12_findAll_122 : decode cX12_findAll 122 = .ok (.iload_n 1, 1) := by decide +kernel
theorem dX12_findAll_123 : decode cX12_findAll 123 = .ok (.iload 6, 2) := by decide +kernel
theorem dX12_findAll_125 : decode cX12_findAll 125 = .ok (.invokevirtual 111, 3) := by decide +kernel
theorem dX12_findAll_128 : decode cX12_findAll 128 = .ok (.goto 5, 3) := by decide +kernel
theorem dX12_findAll_131 : decode cX12_findAll 131 = .ok (.iload 5, 2) := by decide +kernel
theorem dX12_findAll_133 : decode cX12_findAll 133 = .ok (.istore 5, 2) := by decide +kernel
theorem dX12_findAll_135 : decode cX12_findAll 135 = .ok (.iinc 6 1, 3) := by decide +kernel
theorem dX12_findAll_138 : decode cX12_findAll 138 = .ok (.goto (-112), 3) := by decide +kernel
theorem dX12_findAll_141 : decode cX12_findAll 141 = .ok (.iload_n 2, 1) := by decide +kernel
theorem dX12_findAll_142 : decode cX12_findAll 142 = .ok (.istore 6, 2) := by decide +kernel
theorem dX12_findAll_144 : decode cX12_findAll 144 = .ok (.iload 6, 2) := by decide +kernel
theorem dX12_findAll_146 : decode cX12_findAll 146 = .ok (.iload_n 3, 1) := by decide +kernel
theorem dX12_findAll_147 : decode cX12_findAll 147 = .ok (.if_icmp .gt 80, 3) := by decide +kernel
theorem dX12_findAll_150 : decode cX12_findAll 150 = .ok (.iload 4, 2) := by decide +kernel
theorem dX12_findAll_152 : decode cX12_findAll 152 = .ok (.istore 7, 2) := by decide +kernel
theorem dX12_findAll_154 : decode cX12_findAll 154 = .ok (.iload 7, 2) := by decide +kernel
theorem dX12_findAll_156 : decode cX12_findAll 156 = .ok (.iload 5, 2) := by decide +kernel
theorem dX12_findAll_158 : decode cX12_findAll 158 = .ok (.if_icmp .gt 63, 3) := by decide +kernel
theorem dX12_findAll_161 : decode cX12_findAll 161 = .ok (.aload_n 0, 1) := by decide +kernel
theorem dX12_findAll_162 : decode cX12_findAll 162 = .ok (.getfield 168, 3) := by decide +kernel
theorem dX12_findAll_165 : decode cX12_findAll 165 = .ok (.sipush 6561, 3) := by decide +kernel
theorem dX12_findAll_168 : decode cX12_findAll 168 = .ok (.if_icmp .ge 47, 3) := by decide +kernel
theorem dX12_findAll_171 : decode cX12_findAll 171 = .ok (.aload_n 0, 1) := by decide +kernel
theorem dX12_findAll_172 : decode cX12_findAll 172 = .ok (.iload_n 1, 1) := by decide +kernel
theorem dX12_findAll_173 : decode cX12_findAll 173 = .ok (.iload 6, 2) := by decide +kernel
theorem dX12_findAll_175 : decode cX12_findAll 175 = .ok (.iload 7, 2) := by decide +kernel
theorem dX12_findAll_177 : decode cX12_findAll 177 = .ok (.invokevirtual 164, 3) := by decide +kernel
theorem dX12_findAll_180 : decode cX12_findAll 180 = .ok (.ifCond .le 35, 3) := by decide +kernel
theorem dX12_findAll_183 : decode cX12_findAll 183 = .ok (.aload_n 0, 1) := by decide +kernel
theorem dX12_findAll_184 : decode cX12_findAll 184 = .ok (.getfield 34, 3) := by decide +kernel
theorem dX12_findAll_187 : decode cX12_findAll 187 = .ok (.aload_n 0, 1) := by decide +kernel
theorem dX12_findAll_188 : decode cX12_findAll 188 = .ok (.getfield 168, 3) := by decide +kernel
theorem dX12_findAll_191 : decode cX12_findAll 191 = .ok (.iload 6, 2) := by decide +kernel
theorem dX12_findAll_193 : decode cX12_findAll 193 = .ok (.iastore, 1) := by decide +kernel
theorem dX12_findAll_194 : decode cX12_findAll 194 = .ok (.aload_n 0, 1) := by decide +kernel
theorem dX12_findAll_195 : decode cX12_findAll 195 = .ok (.getfield 37, 3) := by decide +kernel
theorem dX12_findAll_198 : decode cX12_findAll 198 = .ok (.aload_n 0, 1) := by decide +kernel
theorem dX12_findAll_199 : decode cX12_findAll 199 = .ok (.getfield 168, 3) := by decide +kernel
theorem dX12_findAll_202 : decode cX12_findAll 202 = .ok (.iload 7, 2) := by decide +kernel
theorem dX12_findAll_204 : decode cX12_findAll 204 = .ok (.iastore, 1) := by decide +kernel
theorem dX12_findAll_205 : decode cX12_findAll 205 = .ok (.aload_n 0, 1) := by decide +kernel
theorem dX12_findAll_206 : decode cX12_findAll 206 = .ok (.dup, 1) := by decide +kernel
theorem dX12_findAll_207 : decode cX12_findAll 207 = .ok (.getfield 168, 3) := by decide +kernel
theorem dX12_findAll_210 : decode cX12_findAll 210 = .ok (.iconst 1, 1) := by decide +kernel
theorem dX12_findAll_211 : decode cX12_findAll 211 = .ok (.iadd, 1) := by decide +kernel
theorem dX12_findAll_212 : decode cX12_findAll 212 = .ok (.putfield 168, 3) := by decide +kernel
theorem dX12_findAll_215 : decode cX12_findAll 215 = .ok (.iinc 7 1, 3) := by decide +kernel
theorem dX12_findAll_218 : decode cX12_findAll 218 = .ok (.goto (-64), 3) := by decide +kernel
theorem dX12_findAll_221 : decode cX12_findAll 221 = .ok (.iinc 6 1, 3) := by decide +kernel
theorem dX12_findAll_224 : decode cX12_findAll 224 = .ok (.goto (-80), 3) := by decide +kernel
theorem dX12_findAll_227 : decode cX12_findAll 227 = .ok (.return_, 1) := by decide +kernel
theorem dX12_point_0 : decode cX12_point 0 = .ok (.iload_n 1, 1) := by decide +kernel
theorem dX12_point_1 : decode cX12_point 1 = .ok (.invokestatic 120, 3) := by decide +kernel
theorem dX12_point_4 : decode cX12_point 4 = .ok (.ifCond .eq 16, 3) := by decide +kernel
theorem dX12_point_7 : decode cX12_point 7 = .ok (.iload_n 3, 1) := by decide +kernel
theorem dX12_point_8 : decode cX12_point 8 = .ok (.iconst 0, 1) := by decide +kernel
theorem dX12_point_9 : decode cX12_point 9 = .ok (.iconst 1, 1) := by decide +kernel
theorem dX12_point_10 : decode cX12_point 10 = .ok (.invokestatic 81, 3) := by decide +kernel
theorem dX12_point_13 : decode cX12_point 13 = .ok (.ifCond .eq 7, 3) := by decide +kernel
theorem dX12_point_16 : decode cX12_point 16 = .ok (.iload_n 2, 1) := by decide +kernel
theorem dX12_point_17 : decode cX12_point 17 = .ok (.ifCond .ge 6, 3) := by decide +kernel
theorem dX12_point_20 : decode cX12_point 20 = .ok (.ldc 135, 2) := by decide +kernel
theorem dX12_point_22 : decode cX12_point 22 = .ok (.ireturn, 1) := by decide +kernel
theorem dX12_point_23 : decode cX12_point 23 = .ok (.aload_n 0, 1) := by decide +kernel
theorem dX12_point_24 : decode cX12_point 24 = .ok (.iload_n 1, 1) := by decide +kernel
theorem dX12_point_25 : decode cX12_point 25 = .ok (.invokevirtual 171, 3) := by decide +kernel
theorem dX12_point_28 : decode cX12_point 28 = .ok (.iload_n 2, 1) := by decide +kernel
theorem dX12_point_29 : decode cX12_point 29 = .ok (.aload_n 0, 1) := by decide +kernel
theorem dX12_point_30 : decode cX12_point 30 = .ok (.getfield 168, 3) := by decide +kernel
theorem dX12_point_33 : decode cX12_point 33 = .ok (.if_icmp .lt 8, 3) := by decide +kernel
theorem dX12_point_36 : decode cX12_point 36 = .ok (.ldc 135, 2) := by decide +kernel
theorem dX12_point_38 : decode cX12_point 38 = .ok (.goto 22, 3) := by decide +kernel
theorem dX12_point_41 : decode cX12_point 41 = .ok (.iload_n 3, 1) := by decide +kernel
theorem dX12_point_42 : decode cX12_point 42 = .ok (.ifCond .ne 12, 3) := by decide +kernel
theorem dX12_point_45 : decode cX12_point 45 = .ok (.aload_n 0, 1) := by decide +kernel
theorem dX12_point_46 : decode cX12_point 46 = .ok (.getfield 34, 3) := by decide +kernel
theorem dX12_point_49 : decode cX12_point 49 = .ok (.iload_n 2, 1) := by decide +kernel
theorem dX12_point_50 : decode cX12_point 50 = .ok (.iaload, 1) := by decide +kernel
theorem dX12_point_51 : decode cX12_point 51 = .ok (.goto 9, 3) := by decide +kernel
theorem dX12_point_54 : decode cX12_point 54 = .ok (.aload_n 0, 1) := by decide +kernel
theorem dX12_point_55 : decode cX12_point 55 = .ok (.getfield 37, 3) := by decide +kernel
theorem dX12_point_58 : decode cX12_point 58 = .ok (.iload_n 2, 1) := by decide +kernel
theorem dX12_point_59 : decode cX12_point 59 = .ok (.iaload, 1) := by decide +kernel
theorem dX12_point_60 : decode cX12_point 60 = .ok (.ireturn, 1) := by decide +kernel
theorem dX12_isWay_0 : decode cX12_isWay 0 = .ok (.iload_n 0, 1) := by decide +kernel
theorem dX12_isWay_1 : decode cX12_isWay 1 = .ok (.iload_n 1, 1) := by decide +kernel
theorem dX12_isWay_2 : decode cX12_isWay 2 = .ok (.invokestatic 136, 3) := by decide +kernel
theorem dX12_isWay_5 : decode cX12_isWay 5 = .ok (.iconst 1, 1) := by decide +kernel
theorem dX12_isWay_6 : decode cX12_isWay 6 = .ok (.if_icmp .ne 20, 3) := by decide +kernel
theorem dX12_isWay_9 : decode cX12_isWay 9 = .ok (.iload_n 0, 1) := by decide +kernel
theorem dX12_isWay_10 : decode cX12_isWay 10 = .ok (.ifCond .gt 12, 3) := by decide +kernel
theorem dX12_isWay_13 : decode cX12_isWay 13 = .ok (.iload_n 0, 1) := by decide +kernel
theorem dX12_isWay_14 : decode cX12_isWay 14 = .ok (.ifCond .ne 12, 3) := by decide +kernel
theorem dX12_isWay_17 : decode cX12_isWay 17 = .ok (.iload_n 1, 1) := by decide +kernel
theorem dX12_isWay_18 : decode cX12_isWay 18 = .ok (.iconst 1, 1) := by decide +kernel
theorem dX12_isWay_19 : decode cX12_isWay 19 = .ok (.if_icmp .ne 7, 3) := by decide +kernel
theorem dX12_isWay_22 : decode cX12_isWay 22 = .ok (.iconst 1, 1) := by decide +kernel
theorem dX12_isWay_23 : decode cX12_isWay 23 = .ok (.goto 4, 3) := by decide +kernel
theorem dX12_isWay_26 : decode cX12_isWay 26 = .ok (.iconst 0, 1) := by decide +kernel
theorem dX12_isWay_27 : decode cX12_isWay 27 = .ok (.ireturn, 1) := by decide +kernel
theorem dX12_widthOf_0 : decode cX12_widthOf 0 = .ok (.iload_n 2, 1) := by decide +kernel
theorem dX12_widthOf_1 : decode cX12_widthOf 1 = .ok (.aload_n 0, 1) := by decide +kernel
theorem dX12_widthOf_2 : decode cX12_widthOf 2 = .ok (.iload_n 1, 1) := by decide +kernel
theorem dX12_widthOf_3 : decode cX12_widthOf 3 = .ok (.iconst 0, 1) := by decide +kernel
theorem dX12_widthOf_4 : decode cX12_widthOf 4 = .ok (.invokevirtual 107, 3) := by decide +kernel
theorem dX12_widthOf_7 : decode cX12_widthOf 7 = .ok (.imul, 1) := by decide +kernel
theorem dX12_widthOf_8 : decode cX12_widthOf 8 = .ok (.iload_n 3, 1) := by decide +kernel
theorem dX12_widthOf_9 : decode cX12_widthOf 9 = .ok (.aload_n 0, 1) := by decide +kernel
theorem dX12_widthOf_10 : decode cX12_widthOf 10 = .ok (.iload_n 1, 1) := by decide +kernel
theorem dX12_widthOf_11 : decode cX12_widthOf 11 = .ok (.iconst 0, 1) := by decide +kernel
theorem dX12_widthOf_12 : decode cX12_widthOf 12 = .ok (.invokevirtual 111, 3) := by decide +kernel
theorem dX12_widthOf_15 : decode cX12_widthOf 15 = .ok (.imul, 1) := by decide +kernel
theorem dX12_widthOf_16 : decode cX12_widthOf 16 = .ok (.iadd, 1) := by decide +kernel
theorem dX12_widthOf_17 : decode cX12_widthOf 17 = .ok (.istore 4, 2) := by decide +kernel
theorem dX12_widthOf_19 : decode cX12_widthOf 19 = .ok (.iload 4, 2) := by decide +kernel
theorem dX12_widthOf_21 : decode cX12_widthOf 21 = .ok (.istore 5, 2) := by decide +kernel
theorem dX12_widthOf_23 : decode cX12_widthOf 23 = .ok (.iconst 1, 1) := by decide +kernel
theorem dX12_widthOf_24 : decode cX12_widthOf 24 = .ok (.istore 6, 2) := by decide +kernel
theorem dX12_widthOf_26 : decode cX12_widthOf 26 = .ok (.iload 6, 2) := by decide +kernel
theorem dX12_widthOf_28 : decode cX12_widthOf 28 = .ok (.aload_n 0, 1) := by decide +kernel
theorem dX12_widthOf_29 : decode cX12_widthOf 29 = .ok (.getfield 7, 3) := by decide +kernel
theorem dX12_widthOf_32 : decode cX12_widthOf 32 = .ok (.iload_n 1, 1) := by decide +kernel
theorem dX12_widthOf_33 : decode cX12_widthOf 33 = .ok (.iaload, 1) := by decide +kernel
theorem dX12_widthOf_34 : decode cX12_widthOf 34 = .ok (.if_icmp .ge 62, 3) := by decide +kernel
theorem dX12_widthOf_37 : decode cX12_widthOf 37 = .ok (.iload_n 2, 1) := by decide +kernel
theorem dX12_widthOf_38 : decode cX12_widthOf 38 = .ok (.aload_n 0, 1) := by decide +kernel
theorem dX12_widthOf_39 : decode cX12_widthOf 39 = .ok (.iload_n 1, 1) := by decide +kernel
theorem dX12_widthOf_40 : decode cX12_widthOf 40 = .ok (.iload 6, 2) := by decide +kernel
theorem dX12_widthOf_42 : decode cX12_widthOf 42 = .ok (.invokevirtual 107, 3) := by decide +kernel
theorem dX12_widthOf_45 : decode cX12_widthOf 45 = .ok (.imul, 1) := by decide +kernel
theorem dX12_widthOf_46 : decode cX12_widthOf 46 = .ok (.iload_n 3, 1) := by decide +kernel
theorem dX12_widthOf_47 : decode cX12_widthOf 47 = .ok (.aload_n 0, 1) := by decide +kernel
theorem dX12_widthOf_48 : decode cX12_widthOf 48 = .ok (.iload_n 1, 1) := by decide +kernel
theorem dX12_widthOf_49 : decode cX12_widthOf 49 = .ok (.iload 6, 2) := by decide +kernel
theorem dX12_widthOf_51 : decode cX12_widthOf 51 = .ok (.invokevirtual 111, 3) := by decide +kernel
theorem dX12_widthOf_54 : decode cX12_widthOf 54 = .ok (.imul, 1) := by decide +kernel
theorem dX12_widthOf_55 : decode cX12_widthOf 55 = .ok (.iadd, 1) := by decide +kernel
theorem dX12_widthOf_56 : decode cX12_widthOf 56 = .ok (.istore 7, 2) := by decide +kernel
theorem dX12_widthOf_58 : decode cX12_widthOf 58 = .ok (.iload 7, 2) := by decide +kernel
theorem dX12_widthOf_60 : decode cX12_widthOf 60 = .ok (.iload 4, 2) := by decide +kernel
theorem dX12_widthOf_62 : decode cX12_widthOf 62 = .ok (.if_icmp .ge 8, 3) := by decide +kernel
theorem dX12_widthOf_65 : decode cX12_widthOf 65 = .ok (.iload 7, 2) := by decide +kernel
theorem dX12_widthOf_67 : decode cX12_widthOf 67 = .ok (.goto 5, 3) := by decide +kernel
theorem dX12_widthOf_70 : decode cX12_widthOf 70 = .ok (.iload 4, 2) := by decide +kernel
theorem dX12_widthOf_72 : decode cX12_widthOf 72 = .ok (.istore 4, 2) := by decide +kernel
theorem dX12_widthOf_74 : decode cX12_widthOf 74 = .ok (.iload 7, 2) := by decide +kernel
theorem dX12_widthOf_76 : decode cX12_widthOf 76 = .ok (.iload 5, 2) := by decide +kernel
theorem dX12_widthOf_78 : decode cX12_widthOf 78 = .ok (.if_icmp .le 8, 3) := by decide +kernel
theorem dX12_widthOf_81 : decode cX12_widthOf 81 = .ok (.iload 7, 2) := by decide +kernel
theorem dX12_widthOf_83 : decode cX12_widthOf 83 = .ok (.goto 5, 3) := by decide +kernel
theorem dX12_widthOf_86 : decode cX12_widthOf 86 = .ok (.iload 5, 2) := by decide +kernel
theorem dX12_widthOf_88 : decode cX12_widthOf 88 = .ok (.istore 5, 2) := by decide +kernel
theorem dX12_widthOf_90 : decode cX12_widthOf 90 = .ok (.iinc 6 1, 3) := by decide +kernel
theorem dX12_widthOf_93 : decode cX12_widthOf 93 = .ok (.goto (-67), 3) := by decide +kernel
theorem dX12_widthOf_96 : decode cX12_widthOf 96 = .ok (.iload 5, 2) := by decide +kernel
theorem dX12_widthOf_98 : decode cX12_widthOf 98 = .ok (.iload 4, 2) := by decide +kernel
theorem dX12_widthOf_100 : decode cX12_widthOf 100 = .ok (.isub, 1) := by decide +kernel
theorem dX12_widthOf_101 : decode cX12_widthOf 101 = .ok (.ireturn, 1) := by decide +kernel
theorem dX12_width_0 : decode cX12_width 0 = .ok (.iload_n 1, 1) := by decide +kernel
theorem dX12_width_1 : decode cX12_width 1 = .ok (.invokestatic 120, 3) := by decide +kernel
theorem dX12_width_4 : decode cX12_width 4 = .ok (.ifCond .eq 33, 3) := by decide +kernel
theorem dX12_width_7 : decode cX12_width 7 = .ok (.iload_n 2, 1) := by decide +kernel
theorem dX12_width_8 : decode cX12_width 8 = .ok (.bipush (-100), 2) := by decide +kernel
theorem dX12_width_10 : decode cX12_width 10 = .ok (.bipush 100, 2) := by decide +kernel
theorem dX12_width_12 : decode cX12_width 12 = .ok (.invokestatic 81, 3) := by decide +kernel
theorem dX12_width_15 : decode cX12_width 15 = .ok (.ifCond .eq 22, 3) := by decide +kernel
theorem dX12_width_18 : decode cX12_width 18 = .ok (.iload_n 3, 1) := by decide +kernel
theorem dX12_width_19 : decode cX12_width 19 = .ok (.bipush (-100), 2) := by decide +kernel
theorem dX12_width_21 : decode cX12_width 21 = .ok (.bipush 100, 2) := by decide +kernel
theorem dX12_width_23 : decode cX12_width 23 = .ok (.invokestatic 81, 3) := by decide +kernel
theorem dX12_width_26 : decode cX12_width 26 = .ok (.ifCond .eq 11, 3) := by decide +kernel
theorem dX12_width_29 : decode cX12_width 29 = .ok (.iload_n 2, 1) := by decide +kernel
theorem dX12_width_30 : decode cX12_width 30 = .ok (.iload_n 3, 1) := by decide +kernel
theorem dX12_width_31 : decode cX12_width 31 = .ok (.invokestatic 174, 3) := by decide +kernel
theorem dX12_width_34 : decode cX12_width 34 = .ok (.ifCond .ne 5, 3) := by decide +kernel
theorem dX12_width_37 : decode cX12_width 37 = .ok (.iconst (-1), 1) := by decide +kernel
theorem dX12_width_38 : decode cX12_width 38 = .ok (.ireturn, 1) := by decide +kernel
theorem dX12_width_39 : decode cX12_width 39 = .ok (.aload_n 0, 1) := by decide +kernel
theorem dX12_width_40 : decode cX12_width 40 = .ok (.getfield 7, 3) := by decide +kernel
theorem dX12_width_43 : decode cX12_width 43 = .ok (.iload_n 1, 1) := by decide +kernel
theorem dX12_width_44 : decode cX12_width 44 = .ok (.iaload, 1) := by decide +kernel
theorem dX12_width_45 : decode cX12_width 45 = .ok (.ifCond .ne 8, 3) := by decide +kernel
theorem dX12_width_48 : decode cX12_width 48 = .ok (.bipush (-2), 2) := by decide +kernel
theorem dX12_width_50 : decode cX12_width 50 = .ok (.goto 10, 3) := by decide +kernel
theorem dX12_width_53 : decode cX12_width 53 = .ok (.aload_n 0, 1) := by decide +kernel
theorem dX12_width_54 : decode cX12_width 54 = .ok (.iload_n 1, 1) := by decide +kernel
theorem dX12_width_55 : decode cX12_width 55 = .ok (.iload_n 2, 1) := by decide +kernel
theorem dX12_width_56 : decode cX12_width 56 = .ok (.iload_n 3, 1) := by decide +kernel
theorem dX12_width_57 : decode cX12_width 57 = .ok (.invokevirtual 177, 3) := by decide +kernel
theorem dX12_width_60 : decode cX12_width 60 = .ok (.ireturn, 1) := by decide +kernel
theorem dX12_least_0 : decode cX12_least 0 = .ok (.iload_n 1, 1) := by decide +kernel
theorem dX12_least_1 : decode cX12_least 1 = .ok (.invokestatic 120, 3) := by decide +kernel
theorem dX12_least_4 : decode cX12_least 4 = .ok (.ifCond .eq 20, 3) := by decide +kernel
theorem dX12_least_7 : decode cX12_least 7 = .ok (.iload_n 2, 1) := by decide +kernel
theorem dX12_least_8 : decode cX12_least 8 = .ok (.iconst 0, 1) := by decide +kernel
theorem dX12_least_9 : decode cX12_least 9 = .ok (.iconst 2, 1) := by decide +kernel
theorem dX12_least_10 : decode cX12_least 10 = .ok (.invokestatic 81, 3) := by decide +kernel
theorem dX12_least_13 : decode cX12_least 13 = .ok (.ifCond .eq 11, 3) := by decide +kernel
theorem dX12_least_16 : decode cX12_least 16 = .ok (.aload_n 0, 1) := by decide +kernel
theorem dX12_least_17 : decode cX12_least 17 = .ok (.iload_n 1, 1) := by decide +kernel
theorem dX12_least_18 : decode cX12_least 18 = .ok (.invokevirtual 142, 3) := by decide +kernel
theorem dX12_least_21 : decode cX12_least 21 = .ok (.ifCond .ne 6, 3) := by decide +kernel
theorem dX12_least_24 : decode cX12_least 24 = .ok (.ldc 135, 2) := by decide +kernel
theorem dX12_least_26 : decode cX12_least 26 = .ok (.ireturn, 1) := by decide +kernel
theorem dX12_least_27 : decode cX12_least 27 = .ok (.aload_n 0, 1) := by decide +kernel
theorem dX12_least_28 : decode cX12_least 28 = .ok (.iload_n 1, 1) := by decide +kernel
theorem dX12_least_29 : decode cX12_least 29 = .ok (.iconst 1, 1) := by decide +kernel
theorem dX12_least_30 : decode cX12_least 30 = .ok (.invokevirtual 107, 3) := by decide +kernel
theorem dX12_least_33 : decode cX12_least 33 = .ok (.aload_n 0, 1) := by decide +kernel
theorem dX12_least_34 : decode cX12_least 34 = .ok (.iload_n 1, 1) := by decide +kernel
theorem dX12_least_35 : decode cX12_least 35 = .ok (.iconst 0, 1) := by decide +kernel
theorem dX12_least_36 : decode cX12_least 36 = .ok (.invokevirtual 107, 3) := by decide +kernel
theorem dX12_least_39 : decode cX12_least 39 = .ok (.isub, 1) := by decide +kernel
theorem dX12_least_40 : decode cX12_least 40 = .ok (.istore_n 3, 1) := by decide +kernel
theorem dX12_least_41 : decode cX12_least 41 = .ok (.aload_n 0, 1) := by decide +kernel
theorem dX12_least_42 : decode cX12_least 42 = .ok (.iload_n 1, 1) := by decide +kernel
theorem dX12_least_43 : decode cX12_least 43 = .ok (.iconst 1, 1) := by decide +kernel
theorem dX12_least_44 : decode cX12_least 44 = .ok (.invokevirtual 111, 3) := by decide +kernel
theorem dX12_least_47 : decode cX12_least 47 = .ok (.aload_n 0, 1) := by decide +kernel
theorem dX12_least_48 : decode cX12_least 48 = .ok (.iload_n 1, 1) := by decide +kernel
theorem dX12_least_49 : decode cX12_least 49 = .ok (.iconst 0, 1) := by decide +kernel
theorem dX12_least_50 : decode cX12_least 50 = .ok (.invokevirtual 111, 3) := by decide +kernel
theorem dX12_least_53 : decode cX12_least 53 = .ok (.isub, 1) := by decide +kernel
theorem dX12_least_54 : decode cX12_least 54 = .ok (.istore 4, 2) := by decide +kernel
theorem dX12_least_56 : decode cX12_least 56 = .ok (.aload_n 0, 1) := by decide +kernel
theorem dX12_least_57 : decode cX12_least 57 = .ok (.iload_n 1, 1) := by decide +kernel
theorem dX12_least_58 : decode cX12_least 58 = .ok (.iconst 2, 1) := by decide +kernel
theorem dX12_least_59 : decode cX12_least 59 = .ok (.invokevirtual 107, 3) := by decide +kernel
theorem dX12_least_62 : decode cX12_least 62 = .ok (.aload_n 0, 1) := by decide +kernel
theorem dX12_least_63 : decode cX12_least 63 = .ok (.iload_n 1, 1) := by decide +kernel
theorem dX12_least_64 : decode cX12_least 64 = .ok (.iconst 0, 1) := by decide +kernel
theorem dX12_least_65 : decode cX12_least 65 = .ok (.invokevirtual 107, 3) := by decide +kernel
theorem dX12_least_68 : decode cX12_least 68 = .ok (.isub, 1) := by decide +kernel
theorem dX12_least_69 : decode cX12_least 69 = .ok (.istore 5, 2) := by decide +kernel
theorem dX12_least_71 : decode cX12_least 71 = .ok (.aload_n 0, 1) := by decide +kernel
theorem dX12_least_72 : decode cX12_least 72 = .ok (.iload_n 1, 1) := by decide +kernel
theorem dX12_least_73 : decode cX12_least 73 = .ok (.iconst 2, 1) := by decide +kernel
theorem dX12_least_74 : decode cX12_least 74 = .ok (.invokevirtual 111, 3) := by decide +kernel
theorem dX12_least_77 : decode cX12_least 77 = .ok (.aload_n 0, 1) := by decide +kernel
theorem dX12_least_78 : decode cX12_least 78 = .ok (.iload_n 1, 1) := by decide +kernel
theorem dX12_least_79 : decode cX12_least 79 = .ok (.iconst 0, 1) := by decide +kernel
theorem dX12_least_80 : decode cX12_least 80 = .ok (.invokevirtual 111, 3) := by decide +kernel
theorem dX12_least_83 : decode cX12_least 83 = .ok (.isub, 1) := by decide +kernel
theorem dX12_least_84 : decode cX12_least 84 = .ok (.istore 6, 2) := by decide +kernel
theorem dX12_least_86 : decode cX12_least 86 = .ok (.iload_n 3, 1) := by decide +kernel
theorem dX12_least_87 : decode cX12_least 87 = .ok (.iload 4, 2) := by decide +kernel
theorem dX12_least_89 : decode cX12_least 89 = .ok (.iload 5, 2) := by decide +kernel
theorem dX12_least_91 : decode cX12_least 91 = .ok (.iload 6, 2) := by decide +kernel
theorem dX12_least_93 : decode cX12_least 93 = .ok (.invokestatic 160, 3) := by decide +kernel
theorem dX12_least_96 : decode cX12_least 96 = .ok (.istore 7, 2) := by decide +kernel
theorem dX12_least_98 : decode cX12_least 98 = .ok (.aload_n 0, 1) := by decide +kernel
theorem dX12_least_99 : decode cX12_least 99 = .ok (.iload_n 1, 1) := by decide +kernel
theorem dX12_least_100 : decode cX12_least 100 = .ok (.iconst 1, 1) := by decide +kernel
theorem dX12_least_101 : decode cX12_least 101 = .ok (.iconst 0, 1) := by decide +kernel
theorem dX12_least_102 : decode cX12_least 102 = .ok (.invokevirtual 177, 3) := by decide +kernel
theorem dX12_least_105 : decode cX12_least 105 = .ok (.istore 8, 2) := by decide +kernel
theorem dX12_least_107 : decode cX12_least 107 = .ok (.aload_n 0, 1) := by decide +kernel
theorem dX12_least_108 : decode cX12_least 108 = .ok (.iload_n 1, 1) := by decide +kernel
theorem dX12_least_109 : decode cX12_least 109 = .ok (.iconst 0, 1) := by decide +kernel
theorem dX12_least_110 : decode cX12_least 110 = .ok (.iconst 1, 1) := by decide +kernel
theorem dX12_least_111 : decode cX12_least 111 = .ok (.invokevirtual 177, 3) := by decide +kernel
theorem dX12_least_114 : decode cX12_least 114 = .ok (.istore 9, 2) := by decide +kernel
theorem dX12_least_116 : decode cX12_least 116 = .ok (.iload 8, 2) := by decide +kernel
theorem dX12_least_118 : decode cX12_least 118 = .ok (.iload 9, 2) := by decide +kernel
theorem dX12_least_120 : decode cX12_least 120 = .ok (.if_icmp .ge 8, 3) := by decide +kernel
theorem dX12_least_123 : decode cX12_least 123 = .ok (.iload 8, 2) := by decide +kernel
theorem dX12_least_125 : decode cX12_least 125 = .ok (.goto 5, 3) := by decide +kernel
theorem dX12_least_128 : decode cX12_least 128 = .ok (.iload 9, 2) := by decide +kernel
theorem dX12_least_130 : decode cX12_least 130 = .ok (.istore 10, 2) := by decide +kernel
theorem dX12_least_132 : decode cX12_least 132 = .ok (.ldc 135, 2) := by decide +kernel
theorem dX12_least_134 : decode cX12_least 134 = .ok (.istore 11, 2) := by decide +kernel
theorem dX12_least_136 : decode cX12_least 136 = .ok (.ldc 135, 2) := by decide +kernel
theorem dX12_least_138 : decode cX12_least 138 = .ok (.istore 12, 2) := by decide +kernel
theorem dX12_least_140 : decode cX12_least 140 = .ok (.iload 10, 2) := by decide +kernel
theorem dX12_least_142 : decode cX12_least 142 = .ok (.istore 13, 2) := by decide +kernel
theorem dX12_least_144 : decode cX12_least 144 = .ok (.iload 10, 2) := by decide +kernel
theorem dX12_least_146 : decode cX12_least 146 = .ok (.ineg, 1) := by decide +kernel
theorem dX12_least_147 : decode cX12_least 147 = .ok (.istore 14, 2) := by decide +kernel
theorem dX12_least_149 : decode cX12_least 149 = .ok (.iload 14, 2) := by decide +kernel
theorem dX12_least_151 : decode cX12_least 151 = .ok (.iload 10, 2) := by decide +kernel
theorem dX12_least_153 : decode cX12_least 153 = .ok (.if_icmp .gt 182, 3) := by decide +kernel
theorem dX12_least_156 : decode cX12_least 156 = .ok (.iload 10, 2) := by decide +kernel
theorem dX12_least_158 : decode cX12_least 158 = .ok (.ineg, 1) := by decide +kernel
theorem dX12_least_159 : decode cX12_least 159 = .ok (.istore 15, 2) := by decide +kernel
theorem dX12_least_161 : decode cX12_least 161 = .ok (.iload 15, 2) := by decide +kernel
theorem dX12_least_163 : decode cX12_least 163 = .ok (.iload 10, 2) := by decide +kernel
theorem dX12_least_165 : decode cX12_least 165 = .ok (.if_icmp .gt 164, 3) := by decide +kernel
theorem dX12_least_168 : decode cX12_least 168 = .ok (.iload 14, 2) := by decide +kernel
theorem dX12_least_170 : decode cX12_least 170 = .ok (.iload 6, 2) := by decide +kernel
theorem dX12_least_172 : decode cX12_least 172 = .ok (.imul, 1) := by decide +kernel
theorem dX12_least_173 : decode cX12_least 173 = .ok (.iload 15, 2) := by decide +kernel
theorem dX12_least_175 : decode cX12_least 175 = .ok (.iload 4, 2) := by decide +kernel
theorem dX12_least_177 : decode cX12_least 177 = .ok (.imul, 1) := by decide +kernel
theorem dX12_least_178 : decode cX12_least 178 = .ok (.isub, 1) := by decide +kernel
theorem dX12_least_179 : decode cX12_least 179 = .ok (.istore 16, 2) := by decide +kernel
theorem dX12_least_181 : decode cX12_least 181 = .ok (.iload 15, 2) := by decide +kernel
theorem dX12_least_183 : decode cX12_least 183 = .ok (.iload_n 3, 1) := by decide +kernel
theorem dX12_least_184 : decode cX12_least 184 = .ok (.imul, 1) := by decide +kernel
theorem dX12_least_185 : decode cX12_least 185 = .ok (.iload 14, 2) := by decide +kernel
theorem dX12_least_187 : decode cX12_least 187 = .ok (.iload 5, 2) := by decide +kernel
theorem dX12_least_189 : decode cX12_least 189 = .ok (.imul, 1) := by decide +kernel
theorem dX12_least_190 : decode cX12_least 190 = .ok (.isub, 1) := by decide +kernel
theorem dX12_least_191 : decode cX12_least 191 = .ok (.istore 17, 2) := by decide +kernel
theorem dX12_least_193 : decode cX12_least 193 = .ok (.iload 16, 2) := by decide +kernel
theorem dX12_least_195 : decode cX12_least 195 = .ok (.iload 7, 2) := by decide +kernel
theorem dX12_least_197 : decode cX12_least 197 = .ok (.irem, 1) := by decide +kernel
theorem dX12_least_198 : decode cX12_least 198 = .ok (.ifCond .ne 125, 3) := by decide +kernel
theorem dX12_least_201 : decode cX12_least 201 = .ok (.iload 17, 2) := by decide +kernel
theorem dX12_least_203 : decode cX12_least 203 = .ok (.iload 7, 2) := by decide +kernel
theorem dX12_least_205 : decode cX12_least 205 = .ok (.irem, 1) := by decide +kernel
theorem dX12_least_206 : decode cX12_least 206 = .ok (.ifCond .ne 117, 3) := by decide +kernel
theorem dX12_least_209 : decode cX12_least 209 = .ok (.iload 16, 2) := by decide +kernel
theorem dX12_least_211 : decode cX12_least 211 = .ok (.iload 7, 2) := by decide +kernel
theorem dX12_least_213 : decode cX12_least 213 = .ok (.idiv, 1) := by decide +kernel
theorem dX12_least_214 : decode cX12_least 214 = .ok (.iload 17, 2) := by decide +kernel
theorem dX12_least_216 : decode cX12_least 216 = .ok (.iload 7, 2) := by decide +kernel
theorem dX12_least_218 : decode cX12_least 218 = .ok (.idiv, 1) := by decide +kernel
theorem dX12_least_219 : decode cX12_least 219 = .ok (.invokestatic 174, 3) := by decide +kernel
theorem dX12_least_222 : decode cX12_least 222 = .ok (.ifCond .eq 101, 3) := by decide +kernel
theorem dX12_least_225 : decode cX12_least 225 = .ok (.iload 16, 2) := by decide +kernel
theorem dX12_least_227 : decode cX12_least 227 = .ok (.iload 7, 2) := by decide +kernel
theorem dX12_least_229 : decode cX12_least 229 = .ok (.idiv, 1) := by decide +kernel
theorem dX12_least_230 : decode cX12_least 230 = .ok (.istore 18, 2) := by decide +kernel
theorem dX12_least_232 : decode cX12_least 232 = .ok (.iload 17, 2) := by decide +kernel
theorem dX12_least_234 : decode cX12_least 234 = .ok (.iload 7, 2) := by decide +kernel
theorem dX12_least_236 : decode cX12_least 236 = .ok (.idiv, 1) := by decide +kernel
theorem dX12_least_237 : decode cX12_least 237 = .ok (.istore 19, 2) := by decide +kernel
theorem dX12_least_239 : decode cX12_least 239 = .ok (.aload_n 0, 1) := by decide +kernel
theorem dX12_least_240 : decode cX12_least 240 = .ok (.iload_n 1, 1) := by decide +kernel
theorem dX12_least_241 : decode cX12_least 241 = .ok (.iload 18, 2) := by decide +kernel
theorem dX12_least_243 : decode cX12_least 243 = .ok (.iload 19, 2) := by decide +kernel
theorem dX12_least_245 : decode cX12_least 245 = .ok (.invokevirtual 177, 3) := by decide +kernel
theorem dX12_least_248 : decode cX12_least 248 = .ok (.istore 20, 2) := by decide +kernel
theorem dX12_least_250 : decode cX12_least 250 = .ok (.iload 11, 2) := by decide +kernel
theorem dX12_least_252 : decode cX12_least 252 = .ok (.ldc 135, 2) := by decide +kernel
theorem dX12_least_254 : decode cX12_least 254 = .ok (.if_icmp .eq 38, 3) := by decide +kernel
theorem dX12_least_257 : decode cX12_least 257 = .ok (.iload 20, 2) := by decide +kernel
theorem dX12_least_259 : decode cX12_least 259 = .ok (.iload 13, 2) := by decide +kernel
theorem dX12_least_261 : decode cX12_least 261 = .ok (.if_icmp .lt 31, 3) := by decide +kernel
theorem dX12_least_264 : decode cX12_least 264 = .ok (.iload 20, 2) := by decide +kernel
theorem dX12_least_266 : decode cX12_least 266 = .ok (.iload 13, 2) := by decide +kernel
theorem dX12_least_268 : decode cX12_least 268 = .ok (.if_icmp .ne 28, 3) := by decide +kernel
theorem dX12_least_271 : decode cX12_least 271 = .ok (.iload 18, 2) := by decide +kernel
theorem dX12_least_273 : decode cX12_least 273 = .ok (.iload 11, 2) := by decide +kernel
theorem dX12_least_275 : decode cX12_least 275 = .ok (.if_icmp .lt 17, 3) := by decide +kernel
theorem dX12_least_278 : decode cX12_least 278 = .ok (.iload 18, 2) := by decide +kernel
theorem dX12_least_280 : decode cX12_least 280 = .ok (.iload 11, 2) := by decide +kernel
theorem dX12_least_282 : decode cX12_least 282 = .ok (.if_icmp .ne 14, 3) := by decide +kernel
theorem dX12_least_285 : decode cX12_least 285 = .ok (.iload 19, 2) := by decide +kernel
theorem dX12_least_287 : decode cX12_least 287 = .ok (.iload 12, 2) := by decide +kernel
theorem dX12_least_289 : decode cX12_least 289 = .ok (.if_icmp .ge 7, 3) := by decide +kernel
theorem dX12_least_292 : decode cX12_least 292 = .ok (.iconst 1, 1) := by decide +kernel
theorem dX12_least_293 : decode cX12_least 293 = .ok (.goto 4, 3) := by decide +kernel
theorem dX12_least_296 : decode cX12_least 296 = .ok (.iconst 0, 1) := by decide +kernel
theorem dX12_least_297 : decode cX12_least 297 = .ok (.istore 21, 2) := by decide +kernel
theorem dX12_least_299 : decode cX12_least 299 = .ok (.iload 20, 2) := by decide +kernel
theorem dX12_least_301 : decode cX12_least 301 = .ok (.iload 13, 2) := by decide +kernel
theorem dX12_least_303 : decode cX12_least 303 = .ok (.if_icmp .gt 20, 3) := by decide +kernel
theorem dX12_least_306 : decode cX12_least 306 = .ok (.iload 21, 2) := by decide +kernel
theorem dX12_least_308 : decode cX12_least 308 = .ok (.ifCond .eq 15, 3) := by decide +kernel
theorem dX12_least_311 : decode cX12_least 311 = .ok (.iload 20, 2) := by decide +kernel
theorem dX12_least_313 : decode cX12_least 313 = .ok (.istore 13, 2) := by decide +kernel
theorem dX12_least_315 : decode cX12_least 315 = .ok (.iload 18, 2) := by decide +kernel
theorem dX12_least_317 : decode cX12_least 317 = .ok (.istore 11, 2) := by decide +kernel
theorem dX12_least_319 : decode cX12_least 319 = .ok (.iload 19, 2) := by decide +kernel
theorem dX12_least_321 : decode cX12_least 321 = .ok (.istore 12, 2) := by decide +kernel
theorem dX12_least_323 : decode cX12_least 323 = .ok (.iinc 15 1, 3) := by decide +kernel
theorem dX12_least_326 : decode cX12_least 326 = .ok (.goto (-165), 3) := by decide +kernel
theorem dX12_least_329 : decode cX12_least 329 = .ok (.iinc 14 1, 3) := by decide +kernel
theorem dX12_least_332 : decode cX12_least 332 = .ok (.goto (-183), 3) := by decide +kernel
theorem dX12_least_335 : decode cX12_least 335 = .ok (.iload_n 2, 1) := by decide +kernel
theorem dX12_least_336 : decode cX12_least 336 = .ok (.ifCond .ne 8, 3) := by decide +kernel
theorem dX12_least_339 : decode cX12_least 339 = .ok (.iload 13, 2) := by decide +kernel
theorem dX12_least_341 : decode cX12_least 341 = .ok (.goto 15, 3) := by decide +kernel
theorem dX12_least_344 : decode cX12_least 344 = .ok (.iload_n 2, 1) := by decide +kernel
theorem dX12_least_345 : decode cX12_least 345 = .ok (.iconst 1, 1) := by decide +kernel
theorem dX12_least_346 : decode cX12_least 346 = .ok (.if_icmp .ne 8, 3) := by decide +kernel
theorem dX12_least_349 : decode cX12_least 349 = .ok (.iload 11, 2) := by decide +kernel
theorem dX12_least_351 : decode cX12_least 351 = .ok (.goto 5, 3) := by decide +kernel
theorem dX12_least_354 : decode cX12_least 354 = .ok (.iload 12, 2) := by decide +kernel
theorem dX12_least_356 : decode cX12_least 356 = .ok (.ireturn, 1) := by decide +kernel
theorem dX12_map_0 : decode cX12_map 0 = .ok (.iload_n 1, 1) := by decide +kernel
theorem dX12_map_1 : decode cX12_map 1 = .ok (.invokestatic 120, 3) := by decide +kernel
theorem dX12_map_4 : decode cX12_map 4 = .ok (.ifCond .eq 39, 3) := by decide +kernel
theorem dX12_map_7 : decode cX12_map 7 = .ok (.iload_n 2, 1) := by decide +kernel
theorem dX12_map_8 : decode cX12_map 8 = .ok (.invokestatic 120, 3) := by decide +kernel
theorem dX12_map_11 : decode cX12_map 11 = .ok (.ifCond .eq 32, 3) := by decide +kernel
theorem dX12_map_14 : decode cX12_map 14 = .ok (.iload_n 3, 1) := by decide +kernel
theorem dX12_map_15 : decode cX12_map 15 = .ok (.iload 4, 2) := by decide +kernel
theorem dX12_map_17 : decode cX12_map 17 = .ok (.invokestatic 117, 3) := by decide +kernel
theorem dX12_map_20 : decode cX12_map 20 = .ok (.ifCond .eq 23, 3) := by decide +kernel
theorem dX12_map_23 : decode cX12_map 23 = .ok (.iload 5, 2) := by decide +kernel
theorem dX12_map_25 : decode cX12_map 25 = .ok (.iload 6, 2) := by decide +kernel
theorem dX12_map_27 : decode cX12_map 27 = .ok (.invokestatic 117, 3) := by decide +kernel
theorem dX12_map_30 : decode cX12_map 30 = .ok (.ifCond .eq 13, 3) := by decide +kernel
theorem dX12_map_33 : decode cX12_map 33 = .ok (.iload 7, 2) := by decide +kernel
theorem dX12_map_35 : decode cX12_map 35 = .ok (.iload 8, 2) := by decide +kernel
theorem dX12_map_37 : decode cX12_map 37 = .ok (.invokestatic 117, 3) := by decide +kernel
theorem dX12_map_40 : decode cX12_map 40 = .ok (.ifCond .ne 5, 3) := by decide +kernel
theorem dX12_map_43 : decode cX12_map 43 = .ok (.iconst (-1), 1) := by decide +kernel
theorem dX12_map_44 : decode cX12_map 44 = .ok (.ireturn, 1) := by decide +kernel
theorem dX12_map_45 : decode cX12_map 45 = .ok (.iload_n 3, 1) := by decide +kernel
theorem dX12_map_46 : decode cX12_map 46 = .ok (.iload 6, 2) := by decide +kernel
theorem dX12_map_48 : decode cX12_map 48 = .ok (.imul, 1) := by decide +kernel
theorem dX12_map_49 : decode cX12_map 49 = .ok (.iload 4, 2) := by decide +kernel
theorem dX12_map_51 : decode cX12_map 51 = .ok (.iload 5, 2) := by decide +kernel
theorem dX12_map_53 : decode cX12_map 53 = .ok (.imul, 1) := by decide +kernel
theorem dX12_map_54 : decode cX12_map 54 = .ok (.isub, 1) := by decide +kernel
theorem dX12_map_55 : decode cX12_map 55 = .ok (.invokestatic 85, 3) := by decide +kernel
theorem dX12_map_58 : decode cX12_map 58 = .ok (.iconst 1, 1) := by decide +kernel
theorem dX12_map_59 : decode cX12_map 59 = .ok (.if_icmp .eq 6, 3) := by decide +kernel
theorem dX12_map_62 : decode cX12_map 62 = .ok (.bipush (-2), 2) := by decide +kernel
theorem dX12_map_64 : decode cX12_map 64 = .ok (.ireturn, 1) := by decide +kernel
theorem dX12_map_65 : decode cX12_map 65 = .ok (.aload_n 0, 1) := by decide +kernel
theorem dX12_map_66 : decode cX12_map 66 = .ok (.iconst 0, 1) := by decide +kernel
theorem dX12_map_67 : decode cX12_map 67 = .ok (.putfield 89, 3) := by decide +kernel
theorem dX12_map_70 : decode cX12_map 70 = .ok (.iconst 0, 1) := by decide +kernel
theorem dX12_map_71 : decode cX12_map 71 = .ok (.istore 9, 2) := by decide +kernel
theorem dX12_map_73 : decode cX12_map 73 = .ok (.iload 9, 2) := by decide +kernel
theorem dX12_map_75 : decode cX12_map 75 = .ok (.aload_n 0, 1) := by decide +kernel
theorem dX12_map_76 : decode cX12_map 76 = .ok (.getfield 7, 3) := by decide +kernel
theorem dX12_map_79 : decode cX12_map 79 = .ok (.iload_n 1, 1) := by decide +kernel
theorem dX12_map_80 : decode cX12_map 80 = .ok (.iaload, 1) := by decide +kernel
theorem dX12_map_81 : decode cX12_map 81 = .ok (.if_icmp .ge 60, 3) := by decide +kernel
theorem dX12_map_84 : decode cX12_map 84 = .ok (.aload_n 0, 1) := by decide +kernel
theorem dX12_map_85 : decode cX12_map 85 = .ok (.iload_n 3, 1) := by decide +kernel
theorem dX12_map_86 : decode cX12_map 86 = .ok (.aload_n 0, 1) := by decide +kernel
theorem dX12_map_87 : decode cX12_map 87 = .ok (.iload_n 1, 1) := by decide +kernel
theorem dX12_map_88 : decode cX12_map 88 = .ok (.iload 9, 2) := by decide +kernel
theorem dX12_map_90 : decode cX12_map 90 = .ok (.invokevirtual 107, 3) := by decide +kernel
theorem dX12_map_93 : decode cX12_map 93 = .ok (.imul, 1) := by decide +kernel
theorem dX12_map_94 : decode cX12_map 94 = .ok (.iload 4, 2) := by decide +kernel
theorem dX12_map_96 : decode cX12_map 96 = .ok (.aload_n 0, 1) := by decide +kernel
theorem dX12_map_97 : decode cX12_map 97 = .ok (.iload_n 1, 1) := by decide +kernel
theorem dX12_map_98 : decode cX12_map 98 = .ok (.iload 9, 2) := by decide +kernel
theorem dX12_map_100 : decode cX12_map 100 = .ok (.invokevirtual 111, 3) := by decide +kernel
theorem dX12_map_103 : decode cX12_map 103 = .ok (.imul, 1) := by decide +kernel
theorem dX12_map_104 : decode cX12_map 104 = .ok (.iadd, 1) := by decide +kernel
theorem dX12_map_105 : decode cX12_map 105 = .ok (.iload 7, 2) := by decide +kernel
theorem dX12_map_107 : decode cX12_map 107 = .ok (.iadd, 1) := by decide +kernel
theorem dX12_map_108 : decode cX12_map 108 = .ok (.iload 5, 2) := by decide +kernel
theorem dX12_map_110 : decode cX12_map 110 = .ok (.aload_n 0, 1) := by decide +kernel
theorem dX12_map_111 : decode cX12_map 111 = .ok (.iload_n 1, 1) := by decide +kernel
theorem dX12_map_112 : decode cX12_map 112 = .ok (.iload 9, 2) := by decide +kernel
theorem dX12_map_114 : decode cX12_map 114 = .ok (.invokevirtual 107, 3) := by decide +kernel
theorem dX12_map_117 : decode cX12_map 117 = .ok (.imul, 1) := by decide +kernel
theorem dX12_map_118 : decode cX12_map 118 = .ok (.iload 6, 2) := by decide +kernel
theorem dX12_map_120 : decode cX12_map 120 = .ok (.aload_n 0, 1) := by decide +kernel
theorem dX12_map_121 : decode cX12_map 121 = .ok (.iload_n 1, 1) := by decide +kernel
theorem dX12_map_122 : decode cX12_map 122 = .ok (.iload 9, 2) := by decide +kernel
theorem dX12_map_124 : decode cX12_map 124 = .ok (.invokevirtual 111, 3) := by decide +kernel
theorem dX12_map_127 : decode cX12_map 127 = .ok (.imul, 1) := by decide +kernel
theorem dX12_map_128 : decode cX12_map 128 = .ok (.iadd, 1) := by decide +kernel
theorem dX12_map_129 : decode cX12_map 129 = .ok (.iload 8, 2) := by decide +kernel
theorem dX12_map_131 : decode cX12_map 131 = .ok (.iadd, 1) := by decide +kernel
theorem dX12_map_132 : decode cX12_map 132 = .ok (.invokevirtual 114, 3) := by decide +kernel
theorem dX12_map_135 : decode cX12_map 135 = .ok (.iinc 9 1, 3) := by decide +kernel
theorem dX12_map_138 : decode cX12_map 138 = .ok (.goto (-65), 3) := by decide +kernel
theorem dX12_map_141 : decode cX12_map 141 = .ok (.aload_n 0, 1) := by decide +kernel
theorem dX12_map_142 : decode cX12_map 142 = .ok (.invokevirtual 132, 3) := by decide +kernel
theorem dX12_map_145 : decode cX12_map 145 = .ok (.aload_n 0, 1) := by decide +kernel
theorem dX12_map_146 : decode cX12_map 146 = .ok (.iload_n 2, 1) := by decide +kernel
theorem dX12_map_147 : decode cX12_map 147 = .ok (.iconst 1, 1) := by decide +kernel
theorem dX12_map_148 : decode cX12_map 148 = .ok (.invokevirtual 124, 3) := by decide +kernel
theorem dX12_map_151 : decode cX12_map 151 = .ok (.ireturn, 1) := by decide +kernel
theorem dX12_isMap_0 : decode cX12_isMap 0 = .ok (.aload_n 0, 1) := by decide +kernel
theorem dX12_isMap_1 : decode cX12_isMap 1 = .ok (.getfield 7, 3) := by decide +kernel
theorem dX12_isMap_4 : decode cX12_isMap 4 = .ok (.iload_n 1, 1) := by decide +kernel
theorem dX12_isMap_5 : decode cX12_isMap 5 = .ok (.iaload, 1) := by decide +kernel
theorem dX12_isMap_6 : decode cX12_isMap 6 = .ok (.istore 5, 2) := by decide +kernel
theorem dX12_isMap_8 : decode cX12_isMap 8 = .ok (.aload_n 0, 1) := by decide +kernel
theorem dX12_isMap_9 : decode cX12_isMap 9 = .ok (.iload_n 1, 1) := by decide +kernel
theorem dX12_isMap_10 : decode cX12_isMap 10 = .ok (.iconst 1, 1) := by decide +kernel
theorem dX12_isMap_11 : decode cX12_isMap 11 = .ok (.invokevirtual 107, 3) := by decide +kernel
theorem dX12_isMap_14 : decode cX12_isMap 14 = .ok (.aload_n 0, 1) := by decide +kernel
theorem dX12_isMap_15 : decode cX12_isMap 15 = .ok (.iload_n 1, 1) := by decide +kernel
theorem dX12_isMap_16 : decode cX12_isMap 16 = .ok (.iconst 0, 1) := by decide +kernel
theorem dX12_isMap_17 : decode cX12_isMap 17 = .ok (.invokevirtual 107, 3) := by decide +kernel
theorem dX12_isMap_20 : decode cX12_isMap 20 = .ok (.isub, 1) := by decide +kernel
theorem dX12_isMap_21 : decode cX12_isMap 21 = .ok (.istore 6, 2) := by decide +kernel
theorem dX12_isMap_23 : decode cX12_isMap 23 = .ok (.aload_n 0, 1) := by decide +kernel
theorem dX12_isMap_24 : decode cX12_isMap 24 = .ok (.iload_n 1, 1) := by decide +kernel
theorem dX12_isMap_25 : decode cX12_isMap 25 = .ok (.iconst 1, 1) := by decide +kernel
theorem dX12_isMap_26 : decode cX12_isMap 26 = .ok (.invokevirtual 111, 3) := by decide +kernel
theorem dX12_isMap_29 : decode cX12_isMap 29 = .ok (.aload_n 0, 1) := by decide +kernel
theorem dX12_isMap_30 : decode cX12_isMap 30 = .ok (.iload_n 1, 1) := by decide +kernel
theorem dX12_isMap_31 : decode cX12_isMap 31 = .ok (.iconst 0, 1) := by decide +kernel
theorem dX12_isMap_32 : decode cX12_isMap 32 = .ok (.invokevirtual 111, 3) := by decide +kernel
theorem dX12_isMap_35 : decode cX12_isMap 35 = .ok (.isub, 1) := by decide +kernel
theorem dX12_isMap_36 : decode cX12_isMap 36 = .ok (.istore 7, 2) := by decide +kernel
theorem dX12_isMap_38 : decode cX12_isMap 38 = .ok (.aload_n 0, 1) := by decide +kernel
theorem dX12_isMap_39 : decode cX12_isMap 39 = .ok (.iload_n 1, 1) := by decide +kernel
theorem dX12_isMap_40 : decode cX12_isMap 40 = .ok (.iconst 2, 1) := by decide +kernel
theorem dX12_isMap_41 : decode cX12_isMap 41 = .ok (.invokevirtual 107, 3) := by decide +kernel
theorem dX12_isMap_44 : decode cX12_isMap 44 = .ok (.aload_n 0, 1) := by decide +kernel
theorem dX12_isMap_45 : decode cX12_isMap 45 = .ok (.iload_n 1, 1) := by decide +kernel
theorem dX12_isMap_46 : decode cX12_isMap 46 = .ok (.iconst 0, 1) := by decide +kernel
theorem dX12_isMap_47 : decode cX12_isMap 47 = .ok (.invokevirtual 107, 3) := by decide +kernel
theorem dX12_isMap_50 : decode cX12_isMap 50 = .ok (.isub, 1) := by decide +kernel
theorem dX12_isMap_51 : decode cX12_isMap 51 = .ok (.istore 8, 2) := by decide +kernel
theorem dX12_isMap_53 : decode cX12_isMap 53 = .ok (.aload_n 0, 1) := by decide +kernel
theorem dX12_isMap_54 : decode cX12_isMap 54 = .ok (.iload_n 1, 1) := by decide +kernel
theorem dX12_isMap_55 : decode cX12_isMap 55 = .ok (.iconst 2, 1) := by decide +kernel
theorem dX12_isMap_56 : decode cX12_isMap 56 = .ok (.invokevirtual 111, 3) := by decide +kernel
theorem dX12_isMap_59 : decode cX12_isMap 59 = .ok (.aload_n 0, 1) := by decide +kernel
theorem dX12_isMap_60 : decode cX12_isMap 60 = .ok (.iload_n 1, 1) := by decide +kernel
theorem dX12_isMap_61 : decode cX12_isMap 61 = .ok (.iconst 0, 1) := by decide +kernel
theorem dX12_isMap_62 : decode cX12_isMap 62 = .ok (.invokevirtual 111, 3) := by decide +kernel
theorem dX12_isMap_65 : decode cX12_isMap 65 = .ok (.isub, 1) := by decide +kernel
theorem dX12_isMap_66 : decode cX12_isMap 66 = .ok (.istore 9, 2) := by decide +kernel
theorem dX12_isMap_68 : decode cX12_isMap 68 = .ok (.iload_n 3, 1) := by decide +kernel
theorem dX12_isMap_69 : decode cX12_isMap 69 = .ok (.iload 4, 2) := by decide +kernel
theorem dX12_isMap_71 : decode cX12_isMap 71 = .ok (.iadd, 1) := by decide +kernel
theorem dX12_isMap_72 : decode cX12_isMap 72 = .ok (.iload 5, 2) := by decide +kernel
theorem dX12_isMap_74 : decode cX12_isMap 74 = .ok (.iadd, 1) := by decide +kernel
theorem dX12_isMap_75 : decode cX12_isMap 75 = .ok (.iload 5, 2) := by decide +kernel
theorem dX12_isMap_77 : decode cX12_isMap 77 = .ok (.irem, 1) := by decide +kernel
theorem dX12_isMap_78 : decode cX12_isMap 78 = .ok (.istore 10, 2) := by decide +kernel
theorem dX12_isMap_80 : decode cX12_isMap 80 = .ok (.iload_n 3, 1) := by decide +kernel
theorem dX12_isMap_81 : decode cX12_isMap 81 = .ok (.iconst 2, 1) := by decide +kernel
theorem dX12_isMap_82 : decode cX12_isMap 82 = .ok (.iload 4, 2) := by decide +kernel
theorem dX12_isMap_84 : decode cX12_isMap 84 = .ok (.imul, 1) := by decide +kernel
theorem dX12_isMap_85 : decode cX12_isMap 85 = .ok (.iadd, 1) := by decide +kernel
theorem dX12_isMap_86 : decode cX12_isMap 86 = .ok (.iconst 2, 1) := by decide +kernel
theorem dX12_isMap_87 : decode cX12_isMap 87 = .ok (.iload 5, 2) := by decide +kernel
theorem dX12_isMap_89 : decode cX12_isMap 89 = .ok (.imul, 1) := by decide +kernel
theorem dX12_isMap_90 : decode cX12_isMap 90 = .ok (.iadd, 1) := by decide +kernel
theorem dX12_isMap_91 : decode cX12_isMap 91 = .ok (.iload 5, 2) := by decide +kernel
theorem dX12_isMap_93 : decode cX12_isMap 93 = .ok (.irem, 1) := by decide +kernel
theorem dX12_isMap_94 : decode cX12_isMap 94 = .ok (.istore 11, 2) := by decide +kernel
theorem dX12_isMap_96 : decode cX12_isMap 96 = .ok (.aload_n 0, 1) := by decide +kernel
theorem dX12_isMap_97 : decode cX12_isMap 97 = .ok (.iload_n 2, 1) := by decide +kernel
theorem dX12_isMap_98 : decode cX12_isMap 98 = .ok (.iload 10, 2) := by decide +kernel
theorem dX12_isMap_100 : decode cX12_isMap 100 = .ok (.invokevirtual 107, 3) := by decide +kernel
theorem dX12_isMap_103 : decode cX12_isMap 103 = .ok (.aload_n 0, 1) := by decide +kernel
theorem dX12_isMap_104 : decode cX12_isMap 104 = .ok (.iload_n 2, 1) := by decide +kernel
theorem dX12_isMap_105 : decode cX12_isMap 105 = .ok (.iload_n 3, 1) := by decide +kernel
theorem dX12_isMap_106 : decode cX12_isMap 106 = .ok (.invokevirtual 107, 3) := by decide +kernel
theorem dX12_isMap_109 : decode cX12_isMap 109 = .ok (.isub, 1) := by decide +kernel
theorem dX12_isMap_110 : decode cX12_isMap 110 = .ok (.istore 12, 2) := by decide +kernel
theorem dX12_isMap_112 : decode cX12_isMap 112 = .ok (.aload_n 0, 1) := by decide +kernel
theorem dX12_isMap_113 : decode cX12_isMap 113 = .ok (.iload_n 2, 1) := by decide +kernel
theorem dX12_isMap_114 : decode cX12_isMap 114 = .ok (.iload 10, 2) := by decide +kernel
theorem dX12_isMap_116 : decode cX12_isMap 116 = .ok (.invokevirtual 111, 3) := by decide +kernel
theorem dX12_isMap_119 : decode cX12_isMap 119 = .ok (.aload_n 0, 1) := by decide +kernel
theorem dX12_isMap_120 : decode cX12_isMap 120 = .ok (.iload_n 2, 1) := by decide +kernel
theorem dX12_isMap_121 : decode cX12_isMap 121 = .ok (.iload_n 3, 1) := by decide +kernel
theorem dX12_isMap_122 : decode cX12_isMap 122 = .ok (.invokevirtual 111, 3) := by decide +kernel
theorem dX12_isMap_125 : decode cX12_isMap 125 = .ok (.isub, 1) := by decide +kernel
theorem dX12_isMap_126 : decode cX12_isMap 126 = .ok (.istore 13, 2) := by decide +kernel
theorem dX12_isMap_128 : decode cX12_isMap 128 = .ok (.aload_n 0, 1) := by decide +kernel
theorem dX12_isMap_129 : decode cX12_isMap 129 = .ok (.iload_n 2, 1) := by decide +kernel
theorem dX12_isMap_130 : decode cX12_isMap 130 = .ok (.iload 11, 2) := by decide +kernel
theorem dX12_isMap_132 : decode cX12_isMap 132 = .ok (.invokevirtual 107, 3) := by decide +kernel
theorem dX12_isMap_135 : decode cX12_isMap 135 = .ok (.aload_n 0, 1) := by decide +kernel
theorem dX12_isMap_136 : decode cX12_isMap 136 = .ok (.iload_n 2, 1) := by decide +kernel
theorem dX12_isMap_137 : decode cX12_isMap 137 = .ok (.iload_n 3, 1) := by decide +kernel
theorem dX12_isMap_138 : decode cX12_isMap 138 = .ok (.invokevirtual 107, 3) := by decide +kernel
theorem dX12_isMap_141 : decode cX12_isMap 141 = .ok (.isub, 1) := by decide +kernel
theorem dX12_isMap_142 : decode cX12_isMap 142 = .ok (.istore 14, 2) := by decide +kernel
theorem dX12_isMap_144 : decode cX12_isMap 144 = .ok (.aload_n 0, 1) := by decide +kernel
theorem dX12_isMap_145 : decode cX12_isMap 145 = .ok (.iload_n 2, 1) := by decide +kernel
theorem dX12_isMap_146 : decode cX12_isMap 146 = .ok (.iload 11, 2) := by decide +kernel
theorem dX12_isMap_148 : decode cX12_isMap 148 = .ok (.invokevirtual 111, 3) := by decide +kernel
theorem dX12_isMap_151 : decode cX12_isMap 151 = .ok (.aload_n 0, 1) := by decide +kernel
theorem dX12_isMap_152 : decode cX12_isMap 152 = .ok (.iload_n 2, 1) := by decide +kernel
theorem dX12_isMap_153 : decode cX12_isMap 153 = .ok (.iload_n 3, 1) := by decide +kernel
theorem dX12_isMap_154 : decode cX12_isMap 154 = .ok (.invokevirtual 111, 3) := by decide +kernel
theorem dX12_isMap_157 : decode cX12_isMap 157 = .ok (.isub, 1) := by decide +kernel
theorem dX12_isMap_158 : decode cX12_isMap 158 = .ok (.istore 15, 2) := by decide +kernel
theorem dX12_isMap_160 : decode cX12_isMap 160 = .ok (.iload 6, 2) := by decide +kernel
theorem dX12_isMap_162 : decode cX12_isMap 162 = .ok (.iload 7, 2) := by decide +kernel
theorem dX12_isMap_164 : decode cX12_isMap 164 = .ok (.iload 8, 2) := by decide +kernel
theorem dX12_isMap_166 : decode cX12_isMap 166 = .ok (.iload 9, 2) := by decide +kernel
theorem dX12_isMap_168 : decode cX12_isMap 168 = .ok (.invokestatic 160, 3) := by decide +kernel
theorem dX12_isMap_171 : decode cX12_isMap 171 = .ok (.istore 16, 2) := by decide +kernel
theorem dX12_isMap_173 : decode cX12_isMap 173 = .ok (.iload 12, 2) := by decide +kernel
theorem dX12_isMap_175 : decode cX12_isMap 175 = .ok (.iload 9, 2) := by decide +kernel
theorem dX12_isMap_177 : decode cX12_isMap 177 = .ok (.imul, 1) := by decide +kernel
theorem dX12_isMap_178 : decode cX12_isMap 178 = .ok (.iload 14, 2) := by decide +kernel
theorem dX12_isMap_180 : decode cX12_isMap 180 = .ok (.iload 7, 2) := by decide +kernel
theorem dX12_isMap_182 : decode cX12_isMap 182 = .ok (.imul, 1) := by decide +kernel
theorem dX12_isMap_183 : decode cX12_isMap 183 = .ok (.isub, 1) := by decide +kernel
theorem dX12_isMap_184 : decode cX12_isMap 184 = .ok (.istore 17, 2) := by decide +kernel
theorem dX12_isMap_186 : decode cX12_isMap 186 = .ok (.iload 14, 2) := by decide +kernel
theorem dX12_isMap_188 : decode cX12_isMap 188 = .ok (.iload 6, 2) := by decide +kernel
theorem dX12_isMap_190 : decode cX12_isMap 190 = .ok (.imul, 1) := by decide +kernel
theorem dX12_isMap_191 : decode cX12_isMap 191 = .ok (.iload 12, 2) := by decide +kernel
theorem dX12_isMap_193 : decode cX12_isMap 193 = .ok (.iload 8, 2) := by decide +kernel
theorem dX12_isMap_195 : decode cX12_isMap 195 = .ok (.imul, 1) := by decide +kernel
theorem dX12_isMap_196 : decode cX12_isMap 196 = .ok (.isub, 1) := by decide +kernel
theorem dX12_isMap_197 : decode cX12_isMap 197 = .ok (.istore 18, 2) := by decide +kernel
theorem dX12_isMap_199 : decode cX12_isMap 199 = .ok (.iload 13, 2) := by decide +kernel
theorem dX12_isMap_201 : decode cX12_isMap 201 = .ok (.iload 9, 2) := by decide +kernel
theorem dX12_isMap_203 : decode cX12_isMap 203 = .ok (.imul, 1) := by decide +kernel
theorem dX12_isMap_204 : decode cX12_isMap 204 = .ok (.iload 15, 2) := by decide +kernel
theorem dX12_isMap_206 : decode cX12_isMap 206 = .ok (.iload 7, 2) := by decide +kernel
theorem dX12_isMap_208 : decode cX12_isMap 208 = .ok (.imul, 1) := by decide +kernel
theorem dX12_isMap_209 : decode cX12_isMap 209 = .ok (.isub, 1) := by decide +kernel
theorem dX12_isMap_210 : decode cX12_isMap 210 = .ok (.istore 19, 2) := by decide +kernel
theorem dX12_isMap_212 : decode cX12_isMap 212 = .ok (.iload 15, 2) := by decide +kernel
theorem dX12_isMap_214 : decode cX12_isMap 214 = .ok (.iload 6, 2) := by decide +kernel
theorem dX12_isMap_216 : decode cX12_isMap 216 = .ok (.imul, 1) := by decide +kernel
theorem dX12_isMap_217 : decode cX12_isMap 217 = .ok (.iload 13, 2) := by decide +kernel
theorem dX12_isMap_219 : decode cX12_isMap 219 = .ok (.iload 8, 2) := by decide +kernel
theorem dX12_isMap_221 : decode cX12_isMap 221 = .ok (.imul, 1) := by decide +kernel
theorem dX12_isMap_222 : decode cX12_isMap 222 = .ok (.isub, 1) := by decide +kernel
theorem dX12_isMap_223 : decode cX12_isMap 223 = .ok (.istore 20, 2) := by decide +kernel
theorem dX12_isMap_225 : decode cX12_isMap 225 = .ok (.iload 17, 2) := by decide +kernel
theorem dX12_isMap_227 : decode cX12_isMap 227 = .ok (.iload 16, 2) := by decide +kernel
theorem dX12_isMap_229 : decode cX12_isMap 229 = .ok (.irem, 1) := by decide +kernel
theorem dX12_isMap_230 : decode cX12_isMap 230 = .ok (.ifCond .ne 27, 3) := by decide +kernel
theorem dX12_isMap_233 : decode cX12_isMap 233 = .ok (.iload 18, 2) := by decide +kernel
theorem dX12_isMap_235 : decode cX12_isMap 235 = .ok (.iload 16, 2) := by decide +kernel
theorem dX12_isMap_237 : decode cX12_isMap 237 = .ok (.irem, 1) := by decide +kernel
theorem dX12_isMap_238 : decode cX12_isMap 238 = .ok (.ifCond .ne 19, 3) := by decide +kernel
theorem dX12_isMap_241 : decode cX12_isMap 241 = .ok (.iload 19, 2) := by decide +kernel
theorem dX12_isMap_243 : decode cX12_isMap 243 = .ok (.iload 16, 2) := by decide +kernel
theorem dX12_isMap_245 : decode cX12_isMap 245 = .ok (.irem, 1) := by decide +kernel
theorem dX12_isMap_246 : decode cX12_isMap 246 = .ok (.ifCond .ne 11, 3) := by decide +kernel
theorem dX12_isMap_249 : decode cX12_isMap 249 = .ok (.iload 20, 2) := by decide +kernel
theorem dX12_isMap_251 : decode cX12_isMap 251 = .ok (.iload 16, 2) := by decide +kernel
theorem dX12_isMap_253 : decode cX12_isMap 253 = .ok (.irem, 1) := by decide +kernel
theorem dX12_isMap_254 : decode cX12_isMap 254 = .ok (.ifCond .eq 5, 3) := by decide +kernel
theorem dX12_isMap_257 : decode cX12_isMap 257 = .ok (.iconst 0, 1) := by decide +kernel
theorem dX12_isMap_258 : decode cX12_isMap 258 = .ok (.ireturn, 1) := by decide +kernel
theorem dX12_isMap_259 : decode cX12_isMap 259 = .ok (.iload 17, 2) := by decide +kernel
theorem dX12_isMap_261 : decode cX12_isMap 261 = .ok (.iload 16, 2) := by decide +kernel
theorem dX12_isMap_263 : decode cX12_isMap 263 = .ok (.idiv, 1) := by decide +kernel
theorem dX12_isMap_264 : decode cX12_isMap 264 = .ok (.istore 17, 2) := by decide +kernel
theorem dX12_isMap_266 : decode cX12_isMap 266 = .ok (.iload 18, 2) := by decide +kernel
theorem dX12_isMap_268 : decode cX12_isMap 268 = .ok (.iload 16, 2) := by decide +kernel
theorem dX12_isMap_270 : decode cX12_isMap 270 = .ok (.idiv, 1) := by decide +kernel
theorem dX12_isMap_271 : decode cX12_isMap 271 = .ok (.istore 18, 2) := by decide +kernel
theorem dX12_isMap_273 : decode cX12_isMap 273 = .ok (.iload 19, 2) := by decide +kernel
theorem dX12_isMap_275 : decode cX12_isMap 275 = .ok (.iload 16, 2) := by decide +kernel
theorem dX12_isMap_277 : decode cX12_isMap 277 = .ok (.idiv, 1) := by decide +kernel
theorem dX12_isMap_278 : decode cX12_isMap 278 = .ok (.istore 19, 2) := by decide +kernel
theorem dX12_isMap_280 : decode cX12_isMap 280 = .ok (.iload 20, 2) := by decide +kernel
theorem dX12_isMap_282 : decode cX12_isMap 282 = .ok (.iload 16, 2) := by decide +kernel
theorem dX12_isMap_284 : decode cX12_isMap 284 = .ok (.idiv, 1) := by decide +kernel
theorem dX12_isMap_285 : decode cX12_isMap 285 = .ok (.istore 20, 2) := by decide +kernel
theorem dX12_isMap_287 : decode cX12_isMap 287 = .ok (.iload 17, 2) := by decide +kernel
theorem dX12_isMap_289 : decode cX12_isMap 289 = .ok (.iload 20, 2) := by decide +kernel
theorem dX12_isMap_291 : decode cX12_isMap 291 = .ok (.imul, 1) := by decide +kernel
theorem dX12_isMap_292 : decode cX12_isMap 292 = .ok (.iload 18, 2) := by decide +kernel
theorem dX12_isMap_294 : decode cX12_isMap 294 = .ok (.iload 19, 2) := by decide +kernel
theorem dX12_isMap_296 : decode cX12_isMap 296 = .ok (.imul, 1) := by decide +kernel
theorem dX12_isMap_297 : decode cX12_isMap 297 = .ok (.isub, 1) := by decide +kernel
theorem dX12_isMap_298 : decode cX12_isMap 298 = .ok (.invokestatic 85, 3) := by decide +kernel
theorem dX12_isMap_301 : decode cX12_isMap 301 = .ok (.iconst 1, 1) := by decide +kernel
theorem dX12_isMap_302 : decode cX12_isMap 302 = .ok (.if_icmp .ne 7, 3) := by decide +kernel
theorem dX12_isMap_305 : decode cX12_isMap 305 = .ok (.iconst 1, 1) := by decide +kernel
theorem dX12_isMap_306 : decode cX12_isMap 306 = .ok (.goto 4, 3) := by decide +kernel
theorem dX12_isMap_309 : decode cX12_isMap 309 = .ok (.iconst 0, 1) := by decide +kernel
theorem dX12_isMap_310 : decode cX12_isMap 310 = .ok (.istore 21, 2) := by decide +kernel
theorem dX12_isMap_312 : decode cX12_isMap 312 = .ok (.iconst 0, 1) := by decide +kernel
theorem dX12_isMap_313 : decode cX12_isMap 313 = .ok (.istore 22, 2) := by decide +kernel
theorem dX12_isMap_315 : decode cX12_isMap 315 = .ok (.iload 22, 2) := by decide +kernel
theorem dX12_isMap_317 : decode cX12_isMap 317 = .ok (.iload 5, 2) := by decide +kernel
theorem dX12_isMap_319 : decode cX12_isMap 319 = .ok (.if_icmp .ge 127, 3) := by decide +kernel
theorem dX12_isMap_322 : decode cX12_isMap 322 = .ok (.iload 21, 2) := by decide +kernel
theorem dX12_isMap_324 : decode cX12_isMap 324 = .ok (.ifCond .eq 122, 3) := by decide +kernel
theorem dX12_isMap_327 : decode cX12_isMap 327 = .ok (.iload_n 3, 1) := by decide +kernel
theorem dX12_isMap_328 : decode cX12_isMap 328 = .ok (.iload 4, 2) := by decide +kernel
theorem dX12_isMap_330 : decode cX12_isMap 330 = .ok (.iload 22, 2) := by decide +kernel
theorem dX12_isMap_332 : decode cX12_isMap 332 = .ok (.imul, 1) := by decide +kernel
theorem dX12_isMap_333 : decode cX12_isMap 333 = .ok (.iadd, 1) := by decide +kernel
theorem dX12_isMap_334 : decode cX12_isMap 334 = .ok (.iload 5, 2) := by decide +kernel
theorem dX12_isMap_336 : decode cX12_isMap 336 = .ok (.irem, 1) := by decide +kernel
theorem dX12_isMap_337 : decode cX12_isMap 337 = .ok (.iload 5, 2) := by decide +kernel
theorem dX12_isMap_339 : decode cX12_isMap 339 = .ok (.iadd, 1) := by decide +kernel
theorem dX12_isMap_340 : decode cX12_isMap 340 = .ok (.iload 5, 2) := by decide +kernel
theorem dX12_isMap_342 : decode cX12_isMap 342 = .ok (.irem, 1) := by decide +kernel
theorem dX12_isMap_343 : decode cX12_isMap 343 = .ok (.istore 23, 2) := by decide +kernel
theorem dX12_isMap_345 : decode cX12_isMap 345 = .ok (.aload_n 0, 1) := by decide +kernel
theorem dX12_isMap_346 : decode cX12_isMap 346 = .ok (.iload_n 1, 1) := by decide +kernel
theorem dX12_isMap_347 : decode cX12_isMap 347 = .ok (.iload 22, 2) := by decide +kernel
theorem dX12_isMap_349 : decode cX12_isMap 349 = .ok (.invokevirtual 107, 3) := by decide +kernel
theorem dX12_isMap_352 : decode cX12_isMap 352 = .ok (.aload_n 0, 1) := by decide +kernel
theorem dX12_isMap_353 : decode cX12_isMap 353 = .ok (.iload_n 1, 1) := by decide +kernel
theorem dX12_isMap_354 : decode cX12_isMap 354 = .ok (.iconst 0, 1) := by decide +kernel
theorem dX12_isMap_355 : decode cX12_isMap 355 = .ok (.invokevirtual 107, 3) := by decide +kernel
theorem dX12_isMap_358 : decode cX12_isMap 358 = .ok (.isub, 1) := by decide +kernel
theorem dX12_isMap_359 : decode cX12_isMap 359 = .ok (.istore 24, 2) := by decide +kernel
theorem dX12_isMap_361 : decode cX12_isMap 361 = .ok (.aload_n 0, 1) := by decide +kernel
theorem dX12_isMap_362 : decode cX12_isMap 362 = .ok (.iload_n 1, 1) := by decide +kernel
theorem dX12_isMap_363 : decode cX12_isMap 363 = .ok (.iload 22, 2) := by decide +kernel
theorem dX12_isMap_365 : decode cX12_isMap 365 = .ok (.invokevirtual 111, 3) := by decide +kernel
theorem dX12_isMap_368 : decode cX12_isMap 368 = .ok (.aload_n 0, 1) := by decide +kernel
theorem dX12_isMap_369 : decode cX12_isMap 369 = .ok (.iload_n 1, 1) := by decide +kernel
theorem dX12_isMap_370 : decode cX12_isMap 370 = .ok (.iconst 0, 1) := by decide +kernel
theorem dX12_isMap_371 : decode cX12_isMap 371 = .ok (.invokevirtual 111, 3) := by decide +kernel
theorem dX12_isMap_374 : decode cX12_isMap 374 = .ok (.isub, 1) := by decide +kernel
theorem dX12_isMap_375 : decode cX12_isMap 375 = .ok (.istore 25, 2) := by decide +kernel
theorem dX12_isMap_377 : decode cX12_isMap 377 = .ok (.iload 17, 2) := by decide +kernel
theorem dX12_isMap_379 : decode cX12_isMap 379 = .ok (.iload 24, 2) := by decide +kernel
theorem dX12_isMap_381 : decode cX12_isMap 381 = .ok (.imul, 1) := by decide +kernel
theorem dX12_isMap_382 : decode cX12_isMap 382 = .ok (.iload 18, 2) := by decide +kernel
theorem dX12_isMap_384 : decode cX12_isMap 384 = .ok (.iload 25, 2) := by decide +kernel
theorem dX12_isMap_386 : decode cX12_isMap 386 = .ok (.imul, 1) := by decide +kernel
theorem dX12_isMap_387 : decode cX12_isMap 387 = .ok (.iadd, 1) := by decide +kernel
theorem dX12_isMap_388 : decode cX12_isMap 388 = .ok (.aload_n 0, 1) := by decide +kernel
theorem dX12_isMap_389 : decode cX12_isMap 389 = .ok (.iload_n 2, 1) := by decide +kernel
theorem dX12_isMap_390 : decode cX12_isMap 390 = .ok (.iload 23, 2) := by decide +kernel
theorem dX12_isMap_392 : decode cX12_isMap 392 = .ok (.invokevirtual 107, 3) := by decide +kernel
theorem dX12_isMap_395 : decode cX12_isMap 395 = .ok (.aload_n 0, 1) := by decide +kernel
theorem dX12_isMap_396 : decode cX12_isMap 396 = .ok (.iload_n 2, 1) := by decide +kernel
theorem dX12_isMap_397 : decode cX12_isMap 397 = .ok (.iload_n 3, 1) := by decide +kernel
theorem dX12_isMap_398 : decode cX12_isMap 398 = .ok (.invokevirtual 107, 3) := by decide +kernel
theorem dX12_isMap_401 : decode cX12_isMap 401 = .ok (.isub, 1) := by decide +kernel
theorem dX12_isMap_402 : decode cX12_isMap 402 = .ok (.if_icmp .ne 35, 3) := by decide +kernel
theorem dX12_isMap_405 : decode cX12_isMap 405 = .ok (.iload 19, 2) := by decide +kernel
theorem dX12_isMap_407 : decode cX12_isMap 407 = .ok (.iload 24, 2) := by decide +kernel
theorem dX12_isMap_409 : decode cX12_isMap 409 = .ok (.imul, 1) := by decide +kernel
theorem dX12_isMap_410 : decode cX12_isMap 410 = .ok (.iload 20, 2) := by decide +kernel
theorem dX12_isMap_412 : decode cX12_isMap 412 = .ok (.iload 25, 2) := by decide +kernel
theorem dX12_isMap_414 : decode cX12_isMap 414 = .ok (.imul, 1) := by decide +kernel
theorem dX12_isMap_415 : decode cX12_isMap 415 = .ok (.iadd, 1) := by decide +kernel
theorem dX12_isMap_416 : decode cX12_isMap 416 = .ok (.aload_n 0, 1) := by decide +kernel
theorem dX12_isMap_417 : decode cX12_isMap 417 = .ok (.iload_n 2, 1) := by decide +kernel
theorem dX12_isMap_418 : decode cX12_isMap 418 = .ok (.iload 23, 2) := by decide +kernel
theorem dX12_isMap_420 : decode cX12_isMap 420 = .ok (.invokevirtual 111, 3) := by decide +kernel
theorem dX12_isMap_423 : decode cX12_isMap 423 = .ok (.aload_n 0, 1) := by decide +kernel
theorem dX12_isMap_424 : decode cX12_isMap 424 = .ok (.iload_n 2, 1) := by decide +kernel
theorem dX12_isMap_425 : decode cX12_isMap 425 = .ok (.iload_n 3, 1) := by decide +kernel
theorem dX12_isMap_426 : decode cX12_isMap 426 = .ok (.invokevirtual 111, 3) := by decide +kernel
theorem dX12_isMap_429 : decode cX12_isMap 429 = .ok (.isub, 1) := by decide +kernel
theorem dX12_isMap_430 : decode cX12_isMap 430 = .ok (.if_icmp .ne 7, 3) := by decide +kernel
theorem dX12_isMap_433 : decode cX12_isMap 433 = .ok (.iconst 1, 1) := by decide +kernel
theorem dX12_isMap_434 : decode cX12_isMap 434 = .ok (.goto 4, 3) := by decide +kernel
theorem dX12_isMap_437 : decode cX12_isMap 437 = .ok (.iconst 0, 1) := by decide +kernel
theorem dX12_isMap_438 : decode cX12_isMap 438 = .ok (.istore 21, 2) := by decide +kernel
theorem dX12_isMap_440 : decode cX12_isMap 440 = .ok (.iinc 22 1, 3) := by decide +kernel
theorem dX12_isMap_443 : decode cX12_isMap 443 = .ok (.goto (-128), 3) := by decide +kernel
theorem dX12_isMap_446 : decode cX12_isMap 446 = .ok (.iload 21, 2) := by decide +kernel
theorem dX12_isMap_448 : decode cX12_isMap 448 = .ok (.ireturn, 1) := by decide +kernel
theorem dX12_mapsOf_0 : decode cX12_mapsOf 0 = .ok (.iconst 0, 1) := by decide +kernel
theorem dX12_mapsOf_1 : decode cX12_mapsOf 1 = .ok (.istore_n 3, 1) := by decide +kernel
theorem dX12_mapsOf_2 : decode cX12_mapsOf 2 = .ok (.iconst 0, 1) := by decide +kernel
theorem dX12_mapsOf_3 : decode cX12_mapsOf 3 = .ok (.istore 4, 2) := by decide +kernel
theorem dX12_mapsOf_5 : decode cX12_mapsOf 5 = .ok (.iload 4, 2) := by decide +kernel
theorem dX12_mapsOf_7 : decode cX12_mapsOf 7 = .ok (.aload_n 0, 1) := by decide +kernel
theorem dX12_mapsOf_8 : decode cX12_mapsOf 8 = .ok (.getfield 7, 3) := by decide +kernel
theorem dX12_mapsOf_11 : decode cX12_mapsOf 11 = .ok (.iload_n 1, 1) := by decide +kernel
theorem dX12_mapsOf_12 : decode cX12_mapsOf 12 = .ok (.iaload, 1) := by decide +kernel
theorem dX12_mapsOf_13 : decode cX12_mapsOf 13 = .ok (.if_icmp .ge 64, 3) := by decide +kernel
theorem dX12_mapsOf_16 : decode cX12_mapsOf 16 = .ok (.aload_n 0, 1) := by decide +kernel
theorem dX12_mapsOf_17 : decode cX12_mapsOf 17 = .ok (.getfield 7, 3) := by decide +kernel
theorem dX12_mapsOf_20 : decode cX12_mapsOf 20 = .ok (.iload_n 1, 1) := by decide +kernel
theorem dX12_mapsOf_21 : decode cX12_mapsOf 21 = .ok (.iaload, 1) := by decide +kernel
theorem dX12_mapsOf_22 : decode cX12_mapsOf 22 = .ok (.aload_n 0, 1) := by decide +kernel
theorem dX12_mapsOf_23 : decode cX12_mapsOf 23 = .ok (.getfield 7, 3) := by decide +kernel
theorem dX12_mapsOf_26 : decode cX12_mapsOf 26 = .ok (.iload_n 2, 1) := by decide +kernel
theorem dX12_mapsOf_27 : decode cX12_mapsOf 27 = .ok (.iaload, 1) := by decide +kernel
theorem dX12_mapsOf_28 : decode cX12_mapsOf 28 = .ok (.if_icmp .ne 49, 3) := by decide +kernel
theorem dX12_mapsOf_31 : decode cX12_mapsOf 31 = .ok (.iload_n 3, 1) := by decide +kernel
theorem dX12_mapsOf_32 : decode cX12_mapsOf 32 = .ok (.aload_n 0, 1) := by decide +kernel
theorem dX12_mapsOf_33 : decode cX12_mapsOf 33 = .ok (.iload_n 1, 1) := by decide +kernel
theorem dX12_mapsOf_34 : decode cX12_mapsOf 34 = .ok (.iload_n 2, 1) := by decide +kernel
theorem dX12_mapsOf_35 : decode cX12_mapsOf 35 = .ok (.iload 4, 2) := by decide +kernel
theorem dX12_mapsOf_37 : decode cX12_mapsOf 37 = .ok (.iconst 1, 1) := by decide +kernel
theorem dX12_mapsOf_38 : decode cX12_mapsOf 38 = .ok (.invokevirtual 180, 3) := by decide +kernel
theorem dX12_mapsOf_41 : decode cX12_mapsOf 41 = .ok (.ifCond .eq 7, 3) := by decide +kernel
theorem dX12_mapsOf_44 : decode cX12_mapsOf 44 = .ok (.iconst 1, 1) := by decide +kernel
theorem dX12_mapsOf_45 : decode cX12_mapsOf 45 = .ok (.goto 4, 3) := by decide +kernel
theorem dX12_mapsOf_48 : decode cX12_mapsOf 48 = .ok (.iconst 0, 1) := by decide +kernel
theorem dX12_mapsOf_49 : decode cX12_mapsOf 49 = .ok (.iadd, 1) := by decide +kernel
theorem dX12_mapsOf_50 : decode cX12_mapsOf 50 = .ok (.istore_n 3, 1) := by decide +kernel
theorem dX12_mapsOf_51 : decode cX12_mapsOf 51 = .ok (.iload_n 3, 1) := by decide +kernel
theorem dX12_mapsOf_52 : decode cX12_mapsOf 52 = .ok (.aload_n 0, 1) := by decide +kernel
theorem dX12_mapsOf_53 : decode cX12_mapsOf 53 = .ok (.iload_n 1, 1) := by decide +kernel
theorem dX12_mapsOf_54 : decode cX12_mapsOf 54 = .ok (.iload_n 2, 1) := by decide +kernel
theorem dX12_mapsOf_55 : decode cX12_mapsOf 55 = .ok (.iload 4, 2) := by decide +kernel
theorem dX12_mapsOf_57 : decode cX12_mapsOf 57 = .ok (.iconst (-1), 1) := by decide +kernel
theorem dX12_mapsOf_58 : decode cX12_mapsOf 58 = .ok (.invokevirtual 180, 3) := by decide +kernel
theorem dX12_mapsOf_61 : decode cX12_mapsOf 61 = .ok (.ifCond .eq 7, 3) := by decide +kernel
theorem dX12_mapsOf_64 : decode cX12_mapsOf 64 = .ok (.iconst 1, 1) := by decide +kernel
theorem dX12_mapsOf_65 : decode cX12_mapsOf 65 = .ok (.goto 4, 3) := by decide +kernel
theorem dX12_mapsOf_68 : decode cX12_mapsOf 68 = .ok (.iconst 0, 1) := by decide +kernel
theorem dX12_mapsOf_69 : decode cX12_mapsOf 69 = .ok (.iadd, 1) := by decide +kernel
theorem dX12_mapsOf_70 : decode cX12_mapsOf 70 = .ok (.istore_n 3, 1) := by decide +kernel
theorem dX12_mapsOf_71 : decode cX12_mapsOf 71 = .ok (.iinc 4 1, 3) := by decide +kernel
theorem dX12_mapsOf_74 : decode cX12_mapsOf 74 = .ok (.goto (-69), 3) := by decide +kernel
theorem dX12_mapsOf_77 : decode cX12_mapsOf 77 = .ok (.iload_n 3, 1) := by decide +kernel
theorem dX12_mapsOf_78 : decode cX12_mapsOf 78 = .ok (.ireturn, 1) := by decide +kernel
theorem dX12_maps_0 : decode cX12_maps 0 = .ok (.iload_n 1, 1) := by decide +kernel
theorem dX12_maps_1 : decode cX12_maps 1 = .ok (.invokestatic 120, 3) := by decide +kernel
theorem dX12_maps_4 : decode cX12_maps 4 = .ok (.ifCond .eq 10, 3) := by decide +kernel
theorem dX12_maps_7 : decode cX12_maps 7 = .ok (.iload_n 2, 1) := by decide +kernel
theorem dX12_maps_8 : decode cX12_maps 8 = .ok (.invokestatic 120, 3) := by decide +kernel
theorem dX12_maps_11 : decode cX12_maps 11 = .ok (.ifCond .ne 5, 3) := by decide +kernel
theorem dX12_maps_14 : decode cX12_maps 14 = .ok (.iconst (-1), 1) := by decide +kernel
theorem dX12_maps_15 : decode cX12_maps 15 = .ok (.ireturn, 1) := by decide +kernel
theorem dX12_maps_16 : decode cX12_maps 16 = .ok (.aload_n 0, 1) := by decide +kernel
theorem dX12_maps_17 : decode cX12_maps 17 = .ok (.iload_n 1, 1) := by decide +kernel
theorem dX12_maps_18 : decode cX12_maps 18 = .ok (.invokevirtual 142, 3) := by decide +kernel
theorem dX12_maps_21 : decode cX12_maps 21 = .ok (.ifCond .eq 11, 3) := by decide +kernel
theorem dX12_maps_24 : decode cX12_maps 24 = .ok (.aload_n 0, 1) := by decide +kernel
theorem dX12_maps_25 : decode cX12_maps 25 = .ok (.iload_n 2, 1) := by decide +kernel
theorem dX12_maps_26 : decode cX12_maps 26 = .ok (.invokevirtual 142, 3) := by decide +kernel
theorem dX12_maps_29 : decode cX12_maps 29 = .ok (.ifCond .ne 8, 3) := by decide +kernel
theorem dX12_maps_32 : decode cX12_maps 32 = .ok (.bipush (-2), 2) := by decide +kernel
theorem dX12_maps_34 : decode cX12_maps 34 = .ok (.goto 9, 3) := by decide +kernel
theorem dX12_maps_37 : decode cX12_maps 37 = .ok (.aload_n 0, 1) := by decide +kernel
theorem dX12_maps_38 : decode cX12_maps 38 = .ok (.iload_n 1, 1) := by decide +kernel
theorem dX12_maps_39 : decode cX12_maps 39 = .ok (.iload_n 2, 1) := by decide +kernel
theorem dX12_maps_40 : decode cX12_maps 40 = .ok (.invokevirtual 184, 3) := by decide +kernel
theorem dX12_maps_43 : decode cX12_maps 43 = .ok (.ireturn, 1) := by decide +kernel
theorem dX12_isAlike_0 : decode cX12_isAlike 0 = .ok (.aload_n 0, 1) := by decide +kernel
theorem dX12_isAlike_1 : decode cX12_isAlike 1 = .ok (.iload_n 1, 1) := by decide +kernel
theorem dX12_isAlike_2 : decode cX12_isAlike 2 = .ok (.invokevirtual 142, 3) := by decide +kernel
theorem dX12_isAlike_5 : decode cX12_isAlike 5 = .ok (.ifCond .eq 26, 3) := by decide +kernel
theorem dX12_isAlike_8 : decode cX12_isAlike 8 = .ok (.aload_n 0, 1) := by decide +kernel
theorem dX12_isAlike_9 : decode cX12_isAlike 9 = .ok (.iload_n 2, 1) := by decide +kernel
theorem dX12_isAlike_10 : decode cX12_isAlike 10 = .ok (.invokevirtual 142, 3) := by decide +kernel
theorem dX12_isAlike_13 : decode cX12_isAlike 13 = .ok (.ifCond .eq 18, 3) := by decide +kernel
theorem dX12_isAlike_16 : decode cX12_isAlike 16 = .ok (.aload_n 0, 1) := by decide +kernel
theorem dX12_isAlike_17 : decode cX12_isAlike 17 = .ok (.iload_n 1, 1) := by decide +kernel
theorem dX12_isAlike_18 : decode cX12_isAlike 18 = .ok (.iload_n 2, 1) := by decide +kernel
theorem dX12_isAlike_19 : decode cX12_isAlike 19 = .ok (.invokevirtual 184, 3) := by decide +kernel
theorem dX12_isAlike_22 : decode cX12_isAlike 22 = .ok (.ifCond .le 7, 3) := by decide +kernel
